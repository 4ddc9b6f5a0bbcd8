/-! The class's rounds, over the row of numbers. -/
def smS : Nat → (Nat → Int) → (Nat → Int) × Int
  | 0, σ => (σ, 0)
  | k + 1, σ => if ngS σ = -1 then (σ, 0) else ((smS k (swS σ (ngS σ))).1, (smS k (swS σ (ngS σ))).2 + 1)
def tlS (left : Int) : Nat → (Nat → Int) → Int
  | 0, _ => -1
  | k + 1, σ => if szS σ ≤ left then 0 else if ngS σ = -1 then -1 else if tlS left k (swS σ (ngS σ)) = -1 then -1 else tlS left k (swS σ (ngS σ)) + 1
def bgS (σ : Nat → Int) (m : Int) : Nat → Int := fun k => if k = 3 then m else if k = 4 ∨ k = 5 ∨ k = 6 then 0 else if 20 ≤ k then 0 else σ k
section SW
variable {E : AE} {G G' L : Nat → Nat → Int} {r : Nat → Nat → Option Nat} {h : AH} {Q : AH → Value → Prop} {S S2 : Nat} {σ : Nat → Int} {gap x n : Int}
theorem fr6.trans {G G1 G2 : Nat → Nat → Int} {S : Nat} (h1 : fr6 G G1 S) (h2 : fr6 G1 G2 S) : fr6 G G2 S := fun q hq => (h2 q hq).trans (h1 q hq)
theorem fr6.rf (G : Nat → Nat → Int) (S : Nat) : fr6 G G S := fun _ _ => rfl
theorem c7_sweepS (hs : shS E r S) (h : RS G S σ) (w : WF σ) (hn : ngS σ ≠ -1) : ∃ G' : Nat → Nat → Int, fr6 G G' S ∧ RS G' S (swS σ (ngS σ)) ∧ WF (swS σ (ngS σ)) ∧ ∀ Q, RK MX7_sweep 0 [.ref S, .int (zi (ngS σ)), jk, jk, jk] [] (0, 0) (E, zg G, zk L, r) Q = Q (E, zg G', zk L, r) (.int (zi (szS σ - szS (swS σ (ngS σ))))) := by
  obtain ⟨n1, -⟩ := ngS_ok w hn
  have h5 := WF_5 w
  have f := h.2.2.1
  obtain ⟨G', q, e⟩ := c7_sweep (L := L) hs h.1 h.2.1 (gap := ngS σ) (by omega) (by rw [f.2.2.2.2.1]; omega) (by rw [f.2.2.2.2.2.1]; omega)
  have w' := swS_WF w hn
  have h' := swS_RS h w q w'
  refine ⟨G', q.1, h', w', fun Q => ?_⟩
  rw [e Q, RS_sz h w, RS_sz h' w']
theorem c7_nextGapS (hs : shS E r S) (h : RS G S σ) (w : WF σ) : RK MX7_nextGap 0 [.ref S, jk] [] (0, 0) (E, zg G, zk L, r) Q = Q (E, zg G, zk L, r) (.int (zi (ngS σ))) := by
  rw [c7_nextGap hs h.1, (RS_ng h w).1]
theorem ngS_b (w : WF σ) : -1 ≤ ngS σ ∧ ngS σ ≤ 100000 := by
  by_cases h : ngS σ = -1
  · omega
  · have := (ngS_ok w h).1
    omega
theorem c7_sweepAtMost_loop (hs : shS E r S) : ∀ (k : Nat) (σ : Nat → Int) (G : Nat → Nat → Int) (l3 : Value) (did most : Int), did + k = most → 0 ≤ did → most ≤ 600 → RS G S σ → WF σ →
    ∃ G' : Nat → Nat → Int, fr6 G G' S ∧ RS G' S (smS k σ).1 ∧ WF (smS k σ).1 ∧ ∀ Q, RK MX7_sweepAtMost 2 [.ref S, .int (zi most), .int (zi did), l3] [] (0, 0) (E, zg G, zk L, r) Q = Q (E, zg G', zk L, r) (.int (zi (did + (smS k σ).2))) := by
  intro k
  induction k with
  | zero =>
    intro σ G l3 did most h1 h2 h3 h w
    refine ⟨G, fr6.rf _ _, h, w, fun Q => ?_⟩
    have h6 : ¬ did < most := by omega
    have e : did + (smS 0 σ).2 = most := by show did + 0 = most; omega
    rw [e]
    simp (disch := first | assumption | exact c2_int _ | exact c2_ref _ | exact c2_jk | exact c2_null | omega | (apply rN1; assumption) | (apply rN2; assumption) | (apply rN3; assumption) | (apply rN4; assumption) | exact bI_r _ | exact bI_01 _) only [↓fX7_sweepAtMost_0, ↓fX7_sweepAtMost_1, ↓fX7_sweepAtMost_2, ↓fX7_sweepAtMost_3, ↓fX7_sweepAtMost_4, ↓fX7_sweepAtMost_7, ↓fX7_sweepAtMost_8, ↓fX7_sweepAtMost_11, ↓fX7_sweepAtMost_12, ↓fX7_sweepAtMost_13, ↓fX7_sweepAtMost_14, ↓fX7_sweepAtMost_17, ↓fX7_sweepAtMost_18, ↓fX7_sweepAtMost_19, ↓fX7_sweepAtMost_20, ↓fX7_sweepAtMost_21, ↓fX7_sweepAtMost_24, ↓fX7_sweepAtMost_25, ↓fX7_sweepAtMost_28, ↓fX7_sweepAtMost_31, ↓fX7_sweepAtMost_32, h6, and_self, true_and, and_true, false_and, and_false, not_true_eq_false, not_false_eq_true, or_self, true_or, or_true, false_or, or_false, ite_not, Decidable.not_not, decide_eq_true_eq, Bool.not_true, Bool.not_false, Bool.false_eq_true, Bool.not_eq_true, n10, n20, n21, n30, n31, n32, n40, n41, n42, n43, ↓reduceIte]
  | succ k ih =>
    intro σ G l3 did most h1 h2 h3 h w
    have h6 : did < most := by omega
    have hb := ngS_b w
    have s0 := hs.1
    by_cases hn : ngS σ = -1
    · have e : smS (k + 1) σ = (σ, 0) := by rw [smS, if_pos hn]
      rw [e]
      refine ⟨G, fr6.rf _ _, h, w, fun Q => ?_⟩
      have e0 : ∀ Q, RK MX7_nextGap 0 [.ref S, jk] [] (0, 0) (E, zg G, zk L, r) Q = Q (E, zg G, zk L, r) (.int (zi (-1))) := fun Q => by rw [c7_nextGapS hs h w, hn]
      rw [fX7_sweepAtMost_2]
      simp (disch := first | assumption | exact c2_int _ | exact c2_ref _ | exact c2_jk | exact c2_null | omega | (apply rN1; assumption) | (apply rN2; assumption) | (apply rN3; assumption) | (apply rN4; assumption) | exact bI_r _ | exact bI_01 _) only [↓fX7_sweepAtMost_0, ↓fX7_sweepAtMost_1, ↓fX7_sweepAtMost_3, ↓fX7_sweepAtMost_4, ↓fX7_sweepAtMost_7, ↓fX7_sweepAtMost_8, ↓fX7_sweepAtMost_11, ↓fX7_sweepAtMost_12, ↓fX7_sweepAtMost_13, ↓fX7_sweepAtMost_14, ↓fX7_sweepAtMost_17, ↓fX7_sweepAtMost_18, ↓fX7_sweepAtMost_19, ↓fX7_sweepAtMost_20, ↓fX7_sweepAtMost_21, ↓fX7_sweepAtMost_24, ↓fX7_sweepAtMost_25, ↓fX7_sweepAtMost_28, ↓fX7_sweepAtMost_31, ↓fX7_sweepAtMost_32, ↓e0, h6, Int.add_zero, and_self, true_and, and_true, false_and, and_false, not_true_eq_false, not_false_eq_true, or_self, true_or, or_true, false_or, or_false, ite_not, Decidable.not_not, decide_eq_true_eq, Bool.not_true, Bool.not_false, Bool.false_eq_true, Bool.not_eq_true, n10, n20, n21, n30, n31, n32, n40, n41, n42, n43, ↓reduceIte]
    · have e : smS (k + 1) σ = ((smS k (swS σ (ngS σ))).1, (smS k (swS σ (ngS σ))).2 + 1) := by rw [smS, if_neg hn]
      rw [e]
      obtain ⟨G1, f1, r1, w1, e1⟩ := c7_sweepS (L := L) hs h w hn
      obtain ⟨G2, f2, r2, w2, e2⟩ := ih (swS σ (ngS σ)) G1 (.int (zi (ngS σ))) (did + 1) most (by omega) (by omega) h3 r1 w1
      refine ⟨G2, f1.trans f2, r2, w2, fun Q => ?_⟩
      have e0 : ∀ Q, RK MX7_nextGap 0 [.ref S, jk] [] (0, 0) (E, zg G, zk L, r) Q = Q (E, zg G, zk L, r) (.int (zi (ngS σ))) := fun Q => c7_nextGapS hs h w
      rw [fX7_sweepAtMost_2]
      simp (disch := first | assumption | exact c2_int _ | exact c2_ref _ | exact c2_jk | exact c2_null | omega | (apply rN1; assumption) | (apply rN2; assumption) | (apply rN3; assumption) | (apply rN4; assumption) | exact bI_r _ | exact bI_01 _) only [↓fX7_sweepAtMost_0, ↓fX7_sweepAtMost_1, ↓fX7_sweepAtMost_3, ↓fX7_sweepAtMost_4, ↓fX7_sweepAtMost_7, ↓fX7_sweepAtMost_8, ↓fX7_sweepAtMost_11, ↓fX7_sweepAtMost_12, ↓fX7_sweepAtMost_13, ↓fX7_sweepAtMost_14, ↓fX7_sweepAtMost_17, ↓fX7_sweepAtMost_18, ↓fX7_sweepAtMost_19, ↓fX7_sweepAtMost_20, ↓fX7_sweepAtMost_21, ↓fX7_sweepAtMost_24, ↓fX7_sweepAtMost_25, ↓fX7_sweepAtMost_28, ↓fX7_sweepAtMost_31, ↓fX7_sweepAtMost_32, ↓e0, ↓e1, ↓e2, h6, hn, and_self, true_and, and_true, false_and, and_false, not_true_eq_false, not_false_eq_true, or_self, true_or, or_true, false_or, or_false, ite_not, Decidable.not_not, decide_eq_true_eq, Bool.not_true, Bool.not_false, Bool.false_eq_true, Bool.not_eq_true, n10, n20, n21, n30, n31, n32, n40, n41, n42, n43, ↓reduceIte]
      rw [show did + 1 + (smS k (swS σ (ngS σ))).2 = did + ((smS k (swS σ (ngS σ))).2 + 1) by omega]
theorem c7_sweepAtMost {m : Nat} (hs : shS E r S) (h : RS G S σ) (w : WF σ) (hm : m ≤ 600) : ∃ G' : Nat → Nat → Int, fr6 G G' S ∧ RS G' S (smS m σ).1 ∧ WF (smS m σ).1 ∧ ∀ Q, RK MX7_sweepAtMost 0 [.ref S, .int (zi (m : Int)), jk, jk] [] (0, 0) (E, zg G, zk L, r) Q = Q (E, zg G', zk L, r) (.int (zi (smS m σ).2)) := by
  obtain ⟨G', a1, a2, a3, a4⟩ := c7_sweepAtMost_loop (L := L) hs m σ G jk 0 m (by omega) (by omega) (by omega) h w
  refine ⟨G', a1, a2, a3, fun Q => ?_⟩
  rw [fX7_sweepAtMost_0, fX7_sweepAtMost_1 (c2_int _), a4 Q, Int.zero_add]
theorem c7_sweepTill_loop (hs : shS E r S) {left : Int} (hl : I32 left) : ∀ (k : Nat) (σ : Nat → Int) (G : Nat → Nat → Int) (l3 : Value) (did : Int), did + k = 601 → 0 ≤ did → RS G S σ → WF σ →
    ∃ G' : Nat → Nat → Int, fr6 G G' S ∧ rgS G' S ∧ ∀ Q, RK MX7_sweepTill 2 [.ref S, .int (zi left), .int (zi did), l3] [] (0, 0) (E, zg G, zk L, r) Q = Q (E, zg G', zk L, r) (.int (zi (if tlS left k σ = -1 then -1 else did + tlS left k σ))) := by
  intro k
  induction k with
  | zero =>
    intro σ G l3 did h1 h2 h w
    refine ⟨G, fr6.rf _ _, h.1, fun Q => ?_⟩
    have h6 : ¬ did ≤ 600 := by omega
    simp (disch := first | assumption | exact c2_int _ | exact c2_ref _ | exact c2_jk | exact c2_null | omega | (apply rN1; assumption) | (apply rN2; assumption) | (apply rN3; assumption) | (apply rN4; assumption) | exact bI_r _ | exact bI_01 _) only [↓fX7_sweepTill_0, ↓fX7_sweepTill_1, ↓fX7_sweepTill_2, ↓fX7_sweepTill_3, ↓fX7_sweepTill_6, ↓fX7_sweepTill_9, ↓fX7_sweepTill_10, ↓fX7_sweepTill_13, ↓fX7_sweepTill_14, ↓fX7_sweepTill_17, ↓fX7_sweepTill_18, ↓fX7_sweepTill_19, ↓fX7_sweepTill_20, ↓fX7_sweepTill_23, ↓fX7_sweepTill_24, ↓fX7_sweepTill_25, ↓fX7_sweepTill_26, ↓fX7_sweepTill_29, ↓fX7_sweepTill_30, ↓fX7_sweepTill_31, ↓fX7_sweepTill_32, ↓fX7_sweepTill_33, ↓fX7_sweepTill_36, ↓fX7_sweepTill_37, ↓fX7_sweepTill_40, ↓fX7_sweepTill_43, ↓fX7_sweepTill_44, h6, tlS, and_self, true_and, and_true, false_and, and_false, not_true_eq_false, not_false_eq_true, or_self, true_or, or_true, false_or, or_false, ite_not, Decidable.not_not, decide_eq_true_eq, Bool.not_true, Bool.not_false, Bool.false_eq_true, Bool.not_eq_true, n10, n20, n21, n30, n31, n32, n40, n41, n42, n43, ↓reduceIte]
  | succ k ih =>
    intro σ G l3 did h1 h2 h w
    have h6 : did ≤ 600 := by omega
    have hb := ngS_b w
    have s0 := hs.1
    have es := RS_sz h w
    have g13 := h.1.2.2.2.2.2.2.2.2.1
    by_cases hz : szS σ ≤ left
    · refine ⟨G, fr6.rf _ _, h.1, fun Q => ?_⟩
      rw [fX7_sweepTill_2]
      rw [es] at g13
      simp (disch := first | assumption | exact c2_int _ | exact c2_ref _ | exact c2_jk | exact c2_null | omega | (apply rN1; assumption) | (apply rN2; assumption) | (apply rN3; assumption) | (apply rN4; assumption) | exact bI_r _ | exact bI_01 _) only [↓fX7_sweepTill_0, ↓fX7_sweepTill_1, ↓fX7_sweepTill_3, ↓fX7_sweepTill_6, ↓fX7_sweepTill_9, ↓fX7_sweepTill_10, ↓fX7_sweepTill_13, ↓fX7_sweepTill_14, ↓fX7_sweepTill_17, ↓fX7_sweepTill_18, ↓fX7_sweepTill_19, ↓fX7_sweepTill_20, ↓fX7_sweepTill_23, ↓fX7_sweepTill_24, ↓fX7_sweepTill_25, ↓fX7_sweepTill_26, ↓fX7_sweepTill_29, ↓fX7_sweepTill_30, ↓fX7_sweepTill_31, ↓fX7_sweepTill_32, ↓fX7_sweepTill_33, ↓fX7_sweepTill_36, ↓fX7_sweepTill_37, ↓fX7_sweepTill_40, ↓fX7_sweepTill_43, ↓fX7_sweepTill_44, es, h6, hz, tlS, Int.add_zero, and_self, true_and, and_true, false_and, and_false, not_true_eq_false, not_false_eq_true, or_self, true_or, or_true, false_or, or_false, ite_not, Decidable.not_not, decide_eq_true_eq, Bool.not_true, Bool.not_false, Bool.false_eq_true, Bool.not_eq_true, n10, n20, n21, n30, n31, n32, n40, n41, n42, n43, ↓reduceIte]
      rfl
    · by_cases hn : ngS σ = -1
      · refine ⟨G, fr6.rf _ _, h.1, fun Q => ?_⟩
        have e0 : ∀ Q, RK MX7_nextGap 0 [.ref S, jk] [] (0, 0) (E, zg G, zk L, r) Q = Q (E, zg G, zk L, r) (.int (zi (-1))) := fun Q => by rw [c7_nextGapS hs h w, hn]
        rw [fX7_sweepTill_2]
        rw [es] at g13
        simp (disch := first | assumption | exact c2_int _ | exact c2_ref _ | exact c2_jk | exact c2_null | omega | (apply rN1; assumption) | (apply rN2; assumption) | (apply rN3; assumption) | (apply rN4; assumption) | exact bI_r _ | exact bI_01 _) only [↓fX7_sweepTill_0, ↓fX7_sweepTill_1, ↓fX7_sweepTill_3, ↓fX7_sweepTill_6, ↓fX7_sweepTill_9, ↓fX7_sweepTill_10, ↓fX7_sweepTill_13, ↓fX7_sweepTill_14, ↓fX7_sweepTill_17, ↓fX7_sweepTill_18, ↓fX7_sweepTill_19, ↓fX7_sweepTill_20, ↓fX7_sweepTill_23, ↓fX7_sweepTill_24, ↓fX7_sweepTill_25, ↓fX7_sweepTill_26, ↓fX7_sweepTill_29, ↓fX7_sweepTill_30, ↓fX7_sweepTill_31, ↓fX7_sweepTill_32, ↓fX7_sweepTill_33, ↓fX7_sweepTill_36, ↓fX7_sweepTill_37, ↓fX7_sweepTill_40, ↓fX7_sweepTill_43, ↓fX7_sweepTill_44, ↓e0, es, h6, hz, hn, tlS, and_self, true_and, and_true, false_and, and_false, not_true_eq_false, not_false_eq_true, or_self, true_or, or_true, false_or, or_false, ite_not, Decidable.not_not, decide_eq_true_eq, Bool.not_true, Bool.not_false, Bool.false_eq_true, Bool.not_eq_true, n10, n20, n21, n30, n31, n32, n40, n41, n42, n43, ↓reduceIte]
      · obtain ⟨G1, f1, r1, w1, e1⟩ := c7_sweepS (L := L) hs h w hn
        obtain ⟨G2, f2, r2, e2⟩ := ih (swS σ (ngS σ)) G1 (.int (zi (ngS σ))) (did + 1) (by omega) (by omega) r1 w1
        refine ⟨G2, f1.trans f2, r2, fun Q => ?_⟩
        have e0 : ∀ Q, RK MX7_nextGap 0 [.ref S, jk] [] (0, 0) (E, zg G, zk L, r) Q = Q (E, zg G, zk L, r) (.int (zi (ngS σ))) := fun Q => c7_nextGapS hs h w
        rw [fX7_sweepTill_2]
        rw [es] at g13
        simp (disch := first | assumption | exact c2_int _ | exact c2_ref _ | exact c2_jk | exact c2_null | omega | (apply rN1; assumption) | (apply rN2; assumption) | (apply rN3; assumption) | (apply rN4; assumption) | exact bI_r _ | exact bI_01 _) only [↓fX7_sweepTill_0, ↓fX7_sweepTill_1, ↓fX7_sweepTill_3, ↓fX7_sweepTill_6, ↓fX7_sweepTill_9, ↓fX7_sweepTill_10, ↓fX7_sweepTill_13, ↓fX7_sweepTill_14, ↓fX7_sweepTill_17, ↓fX7_sweepTill_18, ↓fX7_sweepTill_19, ↓fX7_sweepTill_20, ↓fX7_sweepTill_23, ↓fX7_sweepTill_24, ↓fX7_sweepTill_25, ↓fX7_sweepTill_26, ↓fX7_sweepTill_29, ↓fX7_sweepTill_30, ↓fX7_sweepTill_31, ↓fX7_sweepTill_32, ↓fX7_sweepTill_33, ↓fX7_sweepTill_36, ↓fX7_sweepTill_37, ↓fX7_sweepTill_40, ↓fX7_sweepTill_43, ↓fX7_sweepTill_44, ↓e0, ↓e1, ↓e2, es, h6, hz, hn, tlS, and_self, true_and, and_true, false_and, and_false, not_true_eq_false, not_false_eq_true, or_self, true_or, or_true, false_or, or_false, ite_not, Decidable.not_not, decide_eq_true_eq, Bool.not_true, Bool.not_false, Bool.false_eq_true, Bool.not_eq_true, n10, n20, n21, n30, n31, n32, n40, n41, n42, n43, ↓reduceIte]
        have hge : ∀ (k : Nat) (σ : Nat → Int), -1 ≤ tlS left k σ := by
          intro k
          induction k with
          | zero => intro σ; unfold tlS; omega
          | succ k ih =>
            intro σ
            unfold tlS
            have := ih (swS σ (ngS σ))
            repeat' split
            all_goals omega
        have hge' := hge k (swS σ (ngS σ))
        by_cases ht : tlS left k (swS σ (ngS σ)) = -1
        · rw [if_pos ht, if_pos ht, if_pos rfl]
        · rw [if_neg ht, if_neg ht, if_neg (by omega), show did + 1 + tlS left k (swS σ (ngS σ)) = did + (tlS left k (swS σ (ngS σ)) + 1) by omega]
theorem c7_sweepTill (hs : shS E r S) {left : Int} (hl : I32 left) (h : RS G S σ) (w : WF σ) : ∃ G' : Nat → Nat → Int, fr6 G G' S ∧ rgS G' S ∧ ∀ Q, RK MX7_sweepTill 0 [.ref S, .int (zi left), jk, jk] [] (0, 0) (E, zg G, zk L, r) Q = Q (E, zg G', zk L, r) (.int (zi (tlS left 601 σ))) := by
  obtain ⟨G', a1, a2, a3⟩ := c7_sweepTill_loop (L := L) hs hl 601 σ G jk 0 (by omega) (by omega) h w
  refine ⟨G', a1, a2, fun Q => ?_⟩
  rw [fX7_sweepTill_0, fX7_sweepTill_1 (c2_int _), a3 Q, Int.zero_add]
  congr 3
  split
  · omega
  · rfl
theorem tkQ_RS (hq : tkQ G G' S S2) (h : RS G S2 σ) (w : WF σ) : RS G' S σ := by
  obtain ⟨q1, q2, q3, q4, q5, q6, q7, q8⟩ := hq
  obtain ⟨hg, ⟨v1, v2, v3⟩, f, h4, h5, hgo, hro⟩ := h
  have hX' : hX G' S = hX G S2 := by
    funext i
    unfold hX sK
    by_cases q : 0 ≤ i ∧ i < 600
    · rw [if_pos q, if_pos q, q4 _ (by omega)]
    · rw [if_neg q, if_neg q]
  have w3 := w.2.2.2.1
  have w7 := w.2.2.2.2.2.2.2.2.1
  have w5 := WF_5 w
  refine ⟨q8, ⟨?_, ?_, fun i hi hx => ?_⟩, ?_, fun k => ?_, fun k => ?_, fun j hj => ?_, fun j j1 j2 => ?_⟩
  · rw [q2 2 (by decide), q2 3 (by decide)]; exact v1
  · rw [q2 13 (by decide), q2 3 (by decide), hX']; exact v2
  · rw [q2 3 (by decide)] at hi
    rw [hX'] at hx ⊢
    have b := ctN_b (hX G S2) i
    have e3 := f.2.2.2.1
    rw [q2 1 (by decide), q2 2 (by decide), q7 _ (by omega)]
    exact v3 i hi hx
  · rw [q2 0 (by decide), q2 1 (by decide), q2 2 (by decide), q2 3 (by decide), q2 6 (by decide), q2 7 (by decide), q2 8 (by decide)]; exact f
  · rw [q2 4 (by decide), q3 0 (by decide)]; exact h4 k
  · obtain ⟨x1, x2⟩ := h5 k
    have := w7 k
    refine ⟨by rw [q2 4 (by decide)]; exact x1, fun j hj => ?_⟩
    rw [q3 j (by omega)]; exact x2 j hj
  · rw [q4 j (by omega)]; exact hgo j hj
  · rw [q5 j (by omega), q6 j (by omega)]; exact hro j j1 j2
theorem c7_takeOverS (hs : shS E r S) (hs2 : shS E r S2) (hg : rgS G S) (h2 : RS G S2 σ) (w : WF σ) (hd : S2 + 5 < S ∨ S + 5 < S2) :
    ∃ G' : Nat → Nat → Int, fr6 G G' S ∧ RS G' S σ ∧ ∀ Q, RK MX7_takeOver 0 [.ref S, .ref S2] [] (0, 0) (E, zg G, zk L, r) Q = Q (E, zg G', zk L, r) .null := by
  obtain ⟨G', q, e⟩ := c7_takeOver (L := L) hs hs2 hg h2.1 hd
  exact ⟨G', q.1, tkQ_RS q h2 w, e⟩
end SW
