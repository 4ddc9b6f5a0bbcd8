/-! Calls of the reference that only look. -/
theorem ixN_cg {P P' : Int → Bool} : ∀ (M : Nat) (p : Int), (∀ i : Nat, i < M → P (i : Int) = P' (i : Int)) → ixN P M p = ixN P' M p := by
  intro M
  induction M with
  | zero => intro p _; rfl
  | succ M ih =>
    intro p h
    rw [ixN, ixN, h M (by omega), ctN_congr M fun i hi => h i (by omega), ih p fun i hi => h i (by omega)]
theorem LAP_cg {G : Nat → Nat → Int} {m M : Nat} {P P' : Int → Bool} (h : LAP G m P M) (e : ∀ i : Nat, i < M → P (i : Int) = P' (i : Int)) : LAP G m P' M := by
  have hc := ctN_congr M e
  exact ⟨h.1.trans hc, fun p p1 p2 => by rw [h.2 p p1 (by omega), ixN_cg M p e]⟩
section BM
variable {E : AE} {G G1 G2 G' L : Nat → Nat → Int} {r : Nat → Nat → Option Nat} {h : AH} {Q : AH → Value → Prop} {m M n : Nat} {σ τ : Nat → Int} {P : Int → Bool} {s o y x w i p v lo hi t b d e c f g k : Int}
theorem ly_ge (hW : WF σ) (ht : 1 ≤ t ∧ t ≤ 1000) (hb : b = 0 ∨ b = 1) : ∀ i : Nat, i < (σ 3).toNat → lyP σ t b (i : Int) = geZ σ (t + b) (i : Int) := by
  intro i hi
  have w3 := hW.2.2.2.1
  have w5 := WF_5 hW
  have w9 := hW.2.2.2.2.2.2.2.2.2.1 i (by omega)
  unfold lyP geZ skZ
  rw [Int.toNat_natCast]
  refine decide_eq_decide.mpr ?_
  by_cases c : σ (20 + i) = 0
  · rw [if_pos c]
    omega
  · rw [if_neg c]
    omega
theorem m_layT (hm : shM E r m) (hs : 0 ≤ s ∧ s ≤ 4) (hl : SL G m s σ) (hW : WF σ) (ht : 1 ≤ t ∧ t ≤ 1000) (hb : b = 0 ∨ b = 1) : ∃ G2, KP G G2 m ∧ LAP G2 m (geZ σ (t + b)) (σ 3).toNat ∧ ∀ Q, RK MX10_lays 0 [.ref m, .int (zi s), .int (zi t), .int (zi b), jk, jk] [] (0, 0) (E, zg G, zk L, r) Q = Q (E, zg G2, zk L, r) .null :=
  ⟨lyG G m (lyP σ t b) (σ 3).toNat, ⟨fun o τ h => SL_ly h, lyG_j (by decide), lkM_ly⟩, LAP_cg lyG_LAP (ly_ge hW ht hb), fun Q => m_lays hm hs hl hW ⟨by omega, by omega⟩ hb⟩
theorem m_when (hm : shM E r m) (hs : 0 ≤ s ∧ s ≤ 4) (hl : SL G m s σ) (hy : 0 ≤ y ∧ y ≤ 600) : RK MX10_when 0 [.ref m, .int (zi s), .int (zi y)] [] (0, 0) (E, zg G, zk L, r) Q = Q (E, zg G, zk L, r) (.int (zi (whZ σ y))) := by
  have m0 := hm.1
  have e : (620 + y).toNat = 620 + y.toNat := by omega
  simp (disch := first | assumption | exact c2_int _ | exact c2_ref _ | exact c2_jk | exact c2_null | omega | exact bI_r _ | exact bI_01 _) only [↓fX10_when_0, ↓fX10_when_1, ↓fX10_when_2, ↓fX10_when_5, ↓fX10_when_6, ↓fX10_when_7, ↓fX10_when_10, ↓m_of, e]
  rfl
theorem whZ_b (hW : WF σ) (hy : 1 ≤ y ∧ y ≤ σ 4) : 1 ≤ whZ σ y ∧ whZ σ y ≤ σ 5 := (hW.2.2.2.2.2.2.2.2.2.2.1 y.toNat (by omega) (by omega)).1
theorem m_roundAt_loop (hm : shM E r m) (hs : 0 ≤ s ∧ s ≤ 4) (hl : SL G m s σ) (hW : WF σ) (ht : I32 t) : ∀ (k : Nat) (i : Int), σ 4 + 1 - i ≤ k → 1 ≤ i → i ≤ σ 4 + 1 → RK MX10_roundAt 2 [.ref m, .int (zi s), .int (zi t), .int (zi i)] [] (0, 0) (E, zg G, zk L, r) Q = Q (E, zg G, zk L, r) (.int (zi (bel (σ 4 + 1) (fdL (fun i => decide (whZ σ i = t)) (σ 4 + 1) k i) + (if fdL (fun i => decide (whZ σ i = t)) (σ 4 + 1) k i < σ 4 + 1 then 0 else 1)))) := by
  have m0 := hm.1
  have w5 := WF_5 hW
  intro k
  induction k with
  | zero =>
    intro i h1 h2 h3
    have h6 : ¬ i ≤ σ 4 := by omega
    have e : fdL (fun i => decide (whZ σ i = t)) (σ 4 + 1) 0 i = σ 4 + 1 := rfl
    rw [e, bel_n (by omega), if_neg (by omega)]
    simp (disch := first | assumption | exact c2_int _ | exact c2_ref _ | exact c2_jk | exact c2_null | omega | exact bI_r _ | exact bI_01 _) only [↓fX10_roundAt_0, ↓fX10_roundAt_1, ↓fX10_roundAt_2, ↓fX10_roundAt_3, ↓fX10_roundAt_4, ↓fX10_roundAt_5, ↓fX10_roundAt_6, ↓fX10_roundAt_9, ↓fX10_roundAt_12, ↓fX10_roundAt_13, ↓fX10_roundAt_14, ↓fX10_roundAt_15, ↓fX10_roundAt_18, ↓fX10_roundAt_19, ↓fX10_roundAt_22, ↓fX10_roundAt_23, ↓fX10_roundAt_24, ↓fX10_roundAt_27, ↓fX10_roundAt_30, ↓fX10_roundAt_31, ↓m_of, Int.reduceToNat, h6, and_self, true_and, and_true, false_and, and_false, not_true_eq_false, not_false_eq_true, or_self, true_or, or_true, false_or, or_false, ite_not, Decidable.not_not, decide_eq_true_eq, Bool.not_true, Bool.not_false, Bool.false_eq_true, Bool.not_eq_true, n10, n20, n21, n30, n31, n32, n40, n41, n42, n43, ↓reduceIte]
    rfl
  | succ k ih =>
    intro i h1 h2 h3
    by_cases h6 : i ≤ σ 4
    · have h6' : i < σ 4 + 1 := by omega
      have hb := whZ_b hW (y := i) ⟨h2, h6⟩
      rw [fX10_roundAt_2]
      by_cases h9 : whZ σ i = t
      · have e : fdL (fun i => decide (whZ σ i = t)) (σ 4 + 1) (k + 1) i = i := by rw [fdL, if_pos h6', if_pos (decide_eq_true h9)]
        rw [e, bel_y h6', if_pos h6', Int.add_zero]
        simp (disch := first | assumption | exact c2_int _ | exact c2_ref _ | exact c2_jk | exact c2_null | omega | exact bI_r _ | exact bI_01 _) only [↓fX10_roundAt_0, ↓fX10_roundAt_1, ↓fX10_roundAt_3, ↓fX10_roundAt_4, ↓fX10_roundAt_5, ↓fX10_roundAt_6, ↓fX10_roundAt_9, ↓fX10_roundAt_12, ↓fX10_roundAt_13, ↓fX10_roundAt_14, ↓fX10_roundAt_15, ↓fX10_roundAt_18, ↓fX10_roundAt_19, ↓fX10_roundAt_22, ↓fX10_roundAt_23, ↓fX10_roundAt_24, ↓fX10_roundAt_27, ↓fX10_roundAt_30, ↓fX10_roundAt_31, ↓m_of, ↓m_when, Int.reduceToNat, h6, h9, and_self, true_and, and_true, false_and, and_false, not_true_eq_false, not_false_eq_true, or_self, true_or, or_true, false_or, or_false, ite_not, Decidable.not_not, decide_eq_true_eq, Bool.not_true, Bool.not_false, Bool.false_eq_true, Bool.not_eq_true, n10, n20, n21, n30, n31, n32, n40, n41, n42, n43, ↓reduceIte]
      · have e : fdL (fun i => decide (whZ σ i = t)) (σ 4 + 1) (k + 1) i = fdL (fun i => decide (whZ σ i = t)) (σ 4 + 1) k (i + 1) := by rw [fdL, if_pos h6', if_neg (by rw [decide_eq_true_eq]; exact h9)]
        rw [e]
        have ih' := ih (i + 1) (by omega) (by omega) (by omega)
        simp (disch := first | assumption | exact c2_int _ | exact c2_ref _ | exact c2_jk | exact c2_null | omega | exact bI_r _ | exact bI_01 _) only [↓fX10_roundAt_0, ↓fX10_roundAt_1, ↓fX10_roundAt_3, ↓fX10_roundAt_4, ↓fX10_roundAt_5, ↓fX10_roundAt_6, ↓fX10_roundAt_9, ↓fX10_roundAt_12, ↓fX10_roundAt_13, ↓fX10_roundAt_14, ↓fX10_roundAt_15, ↓fX10_roundAt_18, ↓fX10_roundAt_19, ↓fX10_roundAt_22, ↓fX10_roundAt_23, ↓fX10_roundAt_24, ↓fX10_roundAt_27, ↓fX10_roundAt_30, ↓fX10_roundAt_31, ↓m_of, ↓m_when, Int.reduceToNat, ↓ih', h6, h9, and_self, true_and, and_true, false_and, and_false, not_true_eq_false, not_false_eq_true, or_self, true_or, or_true, false_or, or_false, ite_not, Decidable.not_not, decide_eq_true_eq, Bool.not_true, Bool.not_false, Bool.false_eq_true, Bool.not_eq_true, n10, n20, n21, n30, n31, n32, n40, n41, n42, n43, ↓reduceIte]
    · have h6' : ¬ i < σ 4 + 1 := by omega
      have e : fdL (fun i => decide (whZ σ i = t)) (σ 4 + 1) (k + 1) i = σ 4 + 1 := by rw [fdL, if_neg h6']
      rw [e, bel_n (by omega), if_neg (by omega)]
      simp (disch := first | assumption | exact c2_int _ | exact c2_ref _ | exact c2_jk | exact c2_null | omega | exact bI_r _ | exact bI_01 _) only [↓fX10_roundAt_0, ↓fX10_roundAt_1, ↓fX10_roundAt_2, ↓fX10_roundAt_3, ↓fX10_roundAt_4, ↓fX10_roundAt_5, ↓fX10_roundAt_6, ↓fX10_roundAt_9, ↓fX10_roundAt_12, ↓fX10_roundAt_13, ↓fX10_roundAt_14, ↓fX10_roundAt_15, ↓fX10_roundAt_18, ↓fX10_roundAt_19, ↓fX10_roundAt_22, ↓fX10_roundAt_23, ↓fX10_roundAt_24, ↓fX10_roundAt_27, ↓fX10_roundAt_30, ↓fX10_roundAt_31, ↓m_of, Int.reduceToNat, h6, and_self, true_and, and_true, false_and, and_false, not_true_eq_false, not_false_eq_true, or_self, true_or, or_true, false_or, or_false, ite_not, Decidable.not_not, decide_eq_true_eq, Bool.not_true, Bool.not_false, Bool.false_eq_true, Bool.not_eq_true, n10, n20, n21, n30, n31, n32, n40, n41, n42, n43, ↓reduceIte]
      rfl
theorem m_roundAt (hm : shM E r m) (hs : 0 ≤ s ∧ s ≤ 4) (hl : SL G m s σ) (hW : WF σ) (ht : I32 t) : RK MX10_roundAt 0 [.ref m, .int (zi s), .int (zi t), jk] [] (0, 0) (E, zg G, zk L, r) Q = Q (E, zg G, zk L, r) (.int (zi (roZ σ t))) := by
  have w5 := WF_5 hW
  have w4 := hW.2.2.2.2.1
  have e := m_roundAt_loop (L := L) (Q := Q) hm hs hl hW ht 601 1 (by omega) (by omega) (by omega)
  have er : roZ σ t = bel (σ 4 + 1) (fdL (fun i => decide (whZ σ i = t)) (σ 4 + 1) 601 1) + (if fdL (fun i => decide (whZ σ i = t)) (σ 4 + 1) 601 1 < σ 4 + 1 then 0 else 1) := by
    unfold roZ bel
    by_cases c : fdL (fun i => decide (whZ σ i = t)) (σ 4 + 1) 601 1 < σ 4 + 1
    · rw [if_pos c, if_pos c, if_pos c]
      omega
    · rw [if_neg c, if_neg c, if_neg c]
      rfl
  rw [er]
  simp (disch := first | assumption | exact c2_int _ | exact c2_ref _ | exact c2_jk | exact c2_null | omega | exact bI_r _ | exact bI_01 _) only [↓fX10_roundAt_0, ↓fX10_roundAt_1, ↓fX10_roundAt_3, ↓fX10_roundAt_4, ↓fX10_roundAt_5, ↓fX10_roundAt_6, ↓fX10_roundAt_9, ↓fX10_roundAt_12, ↓fX10_roundAt_13, ↓fX10_roundAt_14, ↓fX10_roundAt_15, ↓fX10_roundAt_18, ↓fX10_roundAt_19, ↓fX10_roundAt_22, ↓fX10_roundAt_23, ↓fX10_roundAt_24, ↓fX10_roundAt_27, ↓fX10_roundAt_30, ↓fX10_roundAt_31]
  exact e
def goB (σ : Nat → Int) (t i : Int) : Bool := decide (σ (20 + i.toNat) = t)
def skV (σ : Nat → Int) (t : Int) (k : Nat) (i : Int) : Int := if fdL (goB σ t) (σ 3) k i < σ 3 then σ 1 + σ 2 * fdL (goB σ t) (σ 3) k i else -1
theorem m_struck1_loop (hm : shM E r m) (hs : 0 ≤ s ∧ s ≤ 4) (hl : SL G m s σ) (hW : WF σ) (hy : 1 ≤ y ∧ y ≤ σ 4) {l4 : Value} : ∀ (k : Nat) (i c : Int), σ 3 - i ≤ k → 0 ≤ i → i + k ≤ 10000 →
    RK MX10_struckBy 6 [.ref m, .int (zi s), .int (zi y), .int (zi 1), .int (zi c), .int (zi i)] [] (0, 0) (E, zg G, zk L, r) Q = Q (E, zg (rfG G m (skV σ (whZ σ y) k i)), zk L, r) (.int (zi (skV σ (whZ σ y) k i))) := by
  have m0 := hm.1
  have w5 := WF_5 hW
  have w3 := hW.2.2.2.1
  have hb := whZ_b hW hy
  intro k
  induction k with
  | zero =>
    intro i c h1 h2 h3
    have h6 : ¬ i < σ 3 := by omega
    have e : skV σ (whZ σ y) 0 i = -1 := if_neg (by unfold fdL; omega)
    rw [e, rfG_n]
    simp (disch := first | assumption | exact c2_int _ | exact c2_ref _ | exact c2_jk | exact c2_null | omega | exact bI_r _ | exact bI_01 _) only [↓fX10_struckBy_0, ↓fX10_struckBy_1, ↓fX10_struckBy_3, ↓fX10_struckBy_4, ↓fX10_struckBy_6, ↓fX10_struckBy_8, ↓fX10_struckBy_9, ↓fX10_struckBy_10, ↓fX10_struckBy_11, ↓fX10_struckBy_14, ↓fX10_struckBy_17, ↓fX10_struckBy_18, ↓fX10_struckBy_19, ↓fX10_struckBy_21, ↓fX10_struckBy_24, ↓fX10_struckBy_25, ↓fX10_struckBy_26, ↓fX10_struckBy_27, ↓fX10_struckBy_30, ↓fX10_struckBy_33, ↓fX10_struckBy_36, ↓fX10_struckBy_37, ↓fX10_struckBy_40, ↓fX10_struckBy_41, ↓fX10_struckBy_42, ↓fX10_struckBy_44, ↓fX10_struckBy_47, ↓fX10_struckBy_48, ↓fX10_struckBy_51, ↓fX10_struckBy_54, ↓fX10_struckBy_57, ↓fX10_struckBy_58, ↓fX10_struckBy_61, ↓fX10_struckBy_62, ↓fX10_struckBy_63, ↓fX10_struckBy_66, ↓fX10_struckBy_69, ↓fX10_struckBy_71, ↓m_of, ↓m_refuse, Int.reduceToNat, h6, and_self, true_and, and_true, false_and, and_false, not_true_eq_false, not_false_eq_true, or_self, true_or, or_true, false_or, or_false, ite_not, Decidable.not_not, decide_eq_true_eq, Bool.not_true, Bool.not_false, Bool.false_eq_true, Bool.not_eq_true, n10, n20, n21, n30, n31, n32, n40, n41, n42, n43, ↓reduceIte]
  | succ k ih =>
    intro i c h1 h2 h3
    by_cases h6 : i < σ 3
    · have w9 := hW.2.2.2.2.2.2.2.2.2.1 i.toNat (by omega)
      have hn := lin_b hW (i := i) ⟨h2, h6⟩
      rw [fX10_struckBy_6]
      by_cases h9 : σ (20 + i.toNat) = whZ σ y
      · have e : skV σ (whZ σ y) (k + 1) i = σ 1 + σ 2 * i := by
          have : fdL (goB σ (whZ σ y)) (σ 3) (k + 1) i = i := by rw [fdL, if_pos h6, if_pos (show goB σ (whZ σ y) i = true from decide_eq_true h9)]
          unfold skV
          rw [this, if_pos h6]
        rw [e, rfG_y (by omega)]
        simp (disch := first | assumption | exact c2_int _ | exact c2_ref _ | exact c2_jk | exact c2_null | omega | exact bI_r _ | exact bI_01 _) only [↓fX10_struckBy_0, ↓fX10_struckBy_1, ↓fX10_struckBy_3, ↓fX10_struckBy_4, ↓fX10_struckBy_8, ↓fX10_struckBy_9, ↓fX10_struckBy_10, ↓fX10_struckBy_11, ↓fX10_struckBy_14, ↓fX10_struckBy_17, ↓fX10_struckBy_18, ↓fX10_struckBy_19, ↓fX10_struckBy_21, ↓fX10_struckBy_24, ↓fX10_struckBy_25, ↓fX10_struckBy_26, ↓fX10_struckBy_27, ↓fX10_struckBy_30, ↓fX10_struckBy_33, ↓fX10_struckBy_36, ↓fX10_struckBy_37, ↓fX10_struckBy_40, ↓fX10_struckBy_41, ↓fX10_struckBy_42, ↓fX10_struckBy_44, ↓fX10_struckBy_47, ↓fX10_struckBy_48, ↓fX10_struckBy_51, ↓fX10_struckBy_54, ↓fX10_struckBy_57, ↓fX10_struckBy_58, ↓fX10_struckBy_61, ↓fX10_struckBy_62, ↓fX10_struckBy_63, ↓fX10_struckBy_66, ↓fX10_struckBy_69, ↓fX10_struckBy_71, ↓m_of, ↓m_goneAt, ↓m_when, ↓m_numberAt, Int.reduceToNat, h6, h9, and_self, true_and, and_true, false_and, and_false, not_true_eq_false, not_false_eq_true, or_self, true_or, or_true, false_or, or_false, ite_not, Decidable.not_not, decide_eq_true_eq, Bool.not_true, Bool.not_false, Bool.false_eq_true, Bool.not_eq_true, n10, n20, n21, n30, n31, n32, n40, n41, n42, n43, ↓reduceIte]
      · have e : skV σ (whZ σ y) (k + 1) i = skV σ (whZ σ y) k (i + 1) := by
          have : fdL (goB σ (whZ σ y)) (σ 3) (k + 1) i = fdL (goB σ (whZ σ y)) (σ 3) k (i + 1) := by rw [fdL, if_pos h6, if_neg (by unfold goB; rw [decide_eq_true_eq]; exact h9)]
          unfold skV
          rw [this]
        rw [e]
        have ih' := ih (i + 1) c (by omega) (by omega) (by omega)
        simp (disch := first | assumption | exact c2_int _ | exact c2_ref _ | exact c2_jk | exact c2_null | omega | exact bI_r _ | exact bI_01 _) only [↓fX10_struckBy_0, ↓fX10_struckBy_1, ↓fX10_struckBy_3, ↓fX10_struckBy_4, ↓fX10_struckBy_8, ↓fX10_struckBy_9, ↓fX10_struckBy_10, ↓fX10_struckBy_11, ↓fX10_struckBy_14, ↓fX10_struckBy_17, ↓fX10_struckBy_18, ↓fX10_struckBy_19, ↓fX10_struckBy_21, ↓fX10_struckBy_24, ↓fX10_struckBy_25, ↓fX10_struckBy_26, ↓fX10_struckBy_27, ↓fX10_struckBy_30, ↓fX10_struckBy_33, ↓fX10_struckBy_36, ↓fX10_struckBy_37, ↓fX10_struckBy_40, ↓fX10_struckBy_41, ↓fX10_struckBy_42, ↓fX10_struckBy_44, ↓fX10_struckBy_47, ↓fX10_struckBy_48, ↓fX10_struckBy_51, ↓fX10_struckBy_54, ↓fX10_struckBy_57, ↓fX10_struckBy_58, ↓fX10_struckBy_61, ↓fX10_struckBy_62, ↓fX10_struckBy_63, ↓fX10_struckBy_66, ↓fX10_struckBy_69, ↓fX10_struckBy_71, ↓m_of, ↓m_goneAt, ↓m_when, Int.reduceToNat, ↓ih', h6, h9, and_self, true_and, and_true, false_and, and_false, not_true_eq_false, not_false_eq_true, or_self, true_or, or_true, false_or, or_false, ite_not, Decidable.not_not, decide_eq_true_eq, Bool.not_true, Bool.not_false, Bool.false_eq_true, Bool.not_eq_true, n10, n20, n21, n30, n31, n32, n40, n41, n42, n43, ↓reduceIte]
    · have e : skV σ (whZ σ y) (k + 1) i = -1 := if_neg (by rw [fdL, if_neg h6]; omega)
      rw [e, rfG_n]
      simp (disch := first | assumption | exact c2_int _ | exact c2_ref _ | exact c2_jk | exact c2_null | omega | exact bI_r _ | exact bI_01 _) only [↓fX10_struckBy_0, ↓fX10_struckBy_1, ↓fX10_struckBy_3, ↓fX10_struckBy_4, ↓fX10_struckBy_6, ↓fX10_struckBy_8, ↓fX10_struckBy_9, ↓fX10_struckBy_10, ↓fX10_struckBy_11, ↓fX10_struckBy_14, ↓fX10_struckBy_17, ↓fX10_struckBy_18, ↓fX10_struckBy_19, ↓fX10_struckBy_21, ↓fX10_struckBy_24, ↓fX10_struckBy_25, ↓fX10_struckBy_26, ↓fX10_struckBy_27, ↓fX10_struckBy_30, ↓fX10_struckBy_33, ↓fX10_struckBy_36, ↓fX10_struckBy_37, ↓fX10_struckBy_40, ↓fX10_struckBy_41, ↓fX10_struckBy_42, ↓fX10_struckBy_44, ↓fX10_struckBy_47, ↓fX10_struckBy_48, ↓fX10_struckBy_51, ↓fX10_struckBy_54, ↓fX10_struckBy_57, ↓fX10_struckBy_58, ↓fX10_struckBy_61, ↓fX10_struckBy_62, ↓fX10_struckBy_63, ↓fX10_struckBy_66, ↓fX10_struckBy_69, ↓fX10_struckBy_71, ↓m_of, ↓m_refuse, Int.reduceToNat, h6, and_self, true_and, and_true, false_and, and_false, not_true_eq_false, not_false_eq_true, or_self, true_or, or_true, false_or, or_false, ite_not, Decidable.not_not, decide_eq_true_eq, Bool.not_true, Bool.not_false, Bool.false_eq_true, Bool.not_eq_true, n10, n20, n21, n30, n31, n32, n40, n41, n42, n43, ↓reduceIte]
theorem m_struck0_loop (hm : shM E r m) (hs : 0 ≤ s ∧ s ≤ 4) (hl : SL G m s σ) (hW : WF σ) (hy : 1 ≤ y ∧ y ≤ σ 4) : ∀ (k : Nat) (i c : Int), σ 3 - i ≤ k → 0 ≤ i → i + k ≤ 10000 → 0 ≤ c → c + k ≤ 10000 →
    RK MX10_struckBy 6 [.ref m, .int (zi s), .int (zi y), .int (zi 0), .int (zi c), .int (zi i)] [] (0, 0) (E, zg G, zk L, r) Q = Q (E, zg G, zk L, r) (.int (zi (cnL (goB σ (whZ σ y)) (σ 3) k i c))) := by
  have m0 := hm.1
  have w5 := WF_5 hW
  have w3 := hW.2.2.2.1
  have hb := whZ_b hW hy
  intro k
  induction k with
  | zero =>
    intro i c h1 h2 h3 h4 h5
    have h6 : ¬ i < σ 3 := by omega
    simp (disch := first | assumption | exact c2_int _ | exact c2_ref _ | exact c2_jk | exact c2_null | omega | exact bI_r _ | exact bI_01 _) only [↓fX10_struckBy_0, ↓fX10_struckBy_1, ↓fX10_struckBy_3, ↓fX10_struckBy_4, ↓fX10_struckBy_6, ↓fX10_struckBy_8, ↓fX10_struckBy_9, ↓fX10_struckBy_10, ↓fX10_struckBy_11, ↓fX10_struckBy_14, ↓fX10_struckBy_17, ↓fX10_struckBy_18, ↓fX10_struckBy_19, ↓fX10_struckBy_21, ↓fX10_struckBy_24, ↓fX10_struckBy_25, ↓fX10_struckBy_26, ↓fX10_struckBy_27, ↓fX10_struckBy_30, ↓fX10_struckBy_33, ↓fX10_struckBy_36, ↓fX10_struckBy_37, ↓fX10_struckBy_40, ↓fX10_struckBy_41, ↓fX10_struckBy_42, ↓fX10_struckBy_44, ↓fX10_struckBy_47, ↓fX10_struckBy_48, ↓fX10_struckBy_51, ↓fX10_struckBy_54, ↓fX10_struckBy_57, ↓fX10_struckBy_58, ↓fX10_struckBy_61, ↓fX10_struckBy_62, ↓fX10_struckBy_63, ↓fX10_struckBy_66, ↓fX10_struckBy_69, ↓fX10_struckBy_71, ↓m_of, Int.reduceToNat, h6, cnL, and_self, true_and, and_true, false_and, and_false, not_true_eq_false, not_false_eq_true, or_self, true_or, or_true, false_or, or_false, ite_not, Decidable.not_not, decide_eq_true_eq, Bool.not_true, Bool.not_false, Bool.false_eq_true, Bool.not_eq_true, n10, n20, n21, n30, n31, n32, n40, n41, n42, n43, ↓reduceIte]
  | succ k ih =>
    intro i c h1 h2 h3 h4 h5
    by_cases h6 : i < σ 3
    · have w9 := hW.2.2.2.2.2.2.2.2.2.1 i.toNat (by omega)
      rw [fX10_struckBy_6]
      by_cases h9 : σ (20 + i.toNat) = whZ σ y
      · have e : goB σ (whZ σ y) i = true := decide_eq_true h9
        simp (disch := first | assumption | exact c2_int _ | exact c2_ref _ | exact c2_jk | exact c2_null | omega | exact bI_r _ | exact bI_01 _) only [↓fX10_struckBy_0, ↓fX10_struckBy_1, ↓fX10_struckBy_3, ↓fX10_struckBy_4, ↓fX10_struckBy_8, ↓fX10_struckBy_9, ↓fX10_struckBy_10, ↓fX10_struckBy_11, ↓fX10_struckBy_14, ↓fX10_struckBy_17, ↓fX10_struckBy_18, ↓fX10_struckBy_19, ↓fX10_struckBy_21, ↓fX10_struckBy_24, ↓fX10_struckBy_25, ↓fX10_struckBy_26, ↓fX10_struckBy_27, ↓fX10_struckBy_30, ↓fX10_struckBy_33, ↓fX10_struckBy_36, ↓fX10_struckBy_37, ↓fX10_struckBy_40, ↓fX10_struckBy_41, ↓fX10_struckBy_42, ↓fX10_struckBy_44, ↓fX10_struckBy_47, ↓fX10_struckBy_48, ↓fX10_struckBy_51, ↓fX10_struckBy_54, ↓fX10_struckBy_57, ↓fX10_struckBy_58, ↓fX10_struckBy_61, ↓fX10_struckBy_62, ↓fX10_struckBy_63, ↓fX10_struckBy_66, ↓fX10_struckBy_69, ↓fX10_struckBy_71, ↓m_of, ↓m_goneAt, ↓m_when, Int.reduceToNat, ↓ih, h6, h9, e, cnL, and_self, true_and, and_true, false_and, and_false, not_true_eq_false, not_false_eq_true, or_self, true_or, or_true, false_or, or_false, ite_not, Decidable.not_not, decide_eq_true_eq, Bool.not_true, Bool.not_false, Bool.false_eq_true, Bool.not_eq_true, n10, n20, n21, n30, n31, n32, n40, n41, n42, n43, ↓reduceIte]
      · have e : goB σ (whZ σ y) i = false := decide_eq_false h9
        simp (disch := first | assumption | exact c2_int _ | exact c2_ref _ | exact c2_jk | exact c2_null | omega | exact bI_r _ | exact bI_01 _) only [↓fX10_struckBy_0, ↓fX10_struckBy_1, ↓fX10_struckBy_3, ↓fX10_struckBy_4, ↓fX10_struckBy_8, ↓fX10_struckBy_9, ↓fX10_struckBy_10, ↓fX10_struckBy_11, ↓fX10_struckBy_14, ↓fX10_struckBy_17, ↓fX10_struckBy_18, ↓fX10_struckBy_19, ↓fX10_struckBy_21, ↓fX10_struckBy_24, ↓fX10_struckBy_25, ↓fX10_struckBy_26, ↓fX10_struckBy_27, ↓fX10_struckBy_30, ↓fX10_struckBy_33, ↓fX10_struckBy_36, ↓fX10_struckBy_37, ↓fX10_struckBy_40, ↓fX10_struckBy_41, ↓fX10_struckBy_42, ↓fX10_struckBy_44, ↓fX10_struckBy_47, ↓fX10_struckBy_48, ↓fX10_struckBy_51, ↓fX10_struckBy_54, ↓fX10_struckBy_57, ↓fX10_struckBy_58, ↓fX10_struckBy_61, ↓fX10_struckBy_62, ↓fX10_struckBy_63, ↓fX10_struckBy_66, ↓fX10_struckBy_69, ↓fX10_struckBy_71, ↓m_of, ↓m_goneAt, ↓m_when, Int.reduceToNat, ↓ih, h6, h9, e, cnL, and_self, true_and, and_true, false_and, and_false, not_true_eq_false, not_false_eq_true, or_self, true_or, or_true, false_or, or_false, ite_not, Decidable.not_not, decide_eq_true_eq, Bool.not_true, Bool.not_false, Bool.false_eq_true, Bool.not_eq_true, n10, n20, n21, n30, n31, n32, n40, n41, n42, n43, ↓reduceIte]
    · simp (disch := first | assumption | exact c2_int _ | exact c2_ref _ | exact c2_jk | exact c2_null | omega | exact bI_r _ | exact bI_01 _) only [↓fX10_struckBy_0, ↓fX10_struckBy_1, ↓fX10_struckBy_3, ↓fX10_struckBy_4, ↓fX10_struckBy_6, ↓fX10_struckBy_8, ↓fX10_struckBy_9, ↓fX10_struckBy_10, ↓fX10_struckBy_11, ↓fX10_struckBy_14, ↓fX10_struckBy_17, ↓fX10_struckBy_18, ↓fX10_struckBy_19, ↓fX10_struckBy_21, ↓fX10_struckBy_24, ↓fX10_struckBy_25, ↓fX10_struckBy_26, ↓fX10_struckBy_27, ↓fX10_struckBy_30, ↓fX10_struckBy_33, ↓fX10_struckBy_36, ↓fX10_struckBy_37, ↓fX10_struckBy_40, ↓fX10_struckBy_41, ↓fX10_struckBy_42, ↓fX10_struckBy_44, ↓fX10_struckBy_47, ↓fX10_struckBy_48, ↓fX10_struckBy_51, ↓fX10_struckBy_54, ↓fX10_struckBy_57, ↓fX10_struckBy_58, ↓fX10_struckBy_61, ↓fX10_struckBy_62, ↓fX10_struckBy_63, ↓fX10_struckBy_66, ↓fX10_struckBy_69, ↓fX10_struckBy_71, ↓m_of, Int.reduceToNat, h6, cnL, and_self, true_and, and_true, false_and, and_false, not_true_eq_false, not_false_eq_true, or_self, true_or, or_true, false_or, or_false, ite_not, Decidable.not_not, decide_eq_true_eq, Bool.not_true, Bool.not_false, Bool.false_eq_true, Bool.not_eq_true, n10, n20, n21, n30, n31, n32, n40, n41, n42, n43, ↓reduceIte]
theorem go_pa (hW : WF σ) (ht : 1 ≤ t ∧ t ≤ 1000) : cnL (goB σ t) (σ 3) 600 0 0 = paZ σ (σ 3 - 1) t - paZ σ (σ 3 - 1) (t + 1) := by
  have w3 := hW.2.2.2.1
  have w5 := WF_5 hW
  rw [cnL_ct0 _ (by omega) (by omega)]
  unfold paZ
  rw [Int.sub_add_cancel]
  have : ∀ n : Nat, n ≤ (σ 3).toNat → ctN (geZ σ t) n = ctN (geZ σ (t + 1)) n + ctN (goB σ t) n := by
    intro n
    induction n with
    | zero => intro _; rfl
    | succ n ih =>
      intro hn
      have ih' := ih (by omega)
      have w9 := hW.2.2.2.2.2.2.2.2.2.1 n (by omega)
      rw [ctN, ctN, ctN]
      unfold geZ skZ goB
      unfold geZ skZ goB at ih'
      simp only [decide_eq_true_eq, Int.toNat_natCast] at ih' ⊢
      by_cases c : σ (20 + n) = 0
      · simp only [c, if_true]
        rw [if_pos (by omega), if_pos (by omega), if_neg (by omega)]
        omega
      · simp only [c, if_false]
        by_cases c2 : σ (20 + n) = t
        · rw [if_pos (by omega), if_neg (by omega), if_pos c2]
          omega
        · by_cases c3 : t ≤ σ (20 + n)
          · rw [if_pos c3, if_pos (by omega), if_neg c2]
            omega
          · rw [if_neg c3, if_neg (by omega), if_neg c2]
            omega
  have := this (σ 3).toNat (by omega)
  omega
theorem sk_fs (hW : WF σ) (ht : 1 ≤ t ∧ t ≤ 1000) : skV σ t 600 0 = fsZ σ t := by
  have w3 := hW.2.2.2.1
  have : fdL (goB σ t) (σ 3) 600 0 = fdL (fun i => decide (skZ σ i = t)) (σ 3) 600 0 := fdL_cg 600 0 fun j j1 j2 => by
    unfold goB skZ
    refine decide_eq_decide.mpr ?_
    by_cases c : σ (20 + j.toNat) = 0
    · rw [if_pos c]
      omega
    · rw [if_neg c]
  unfold skV fsZ
  rw [this]
def gnV (σ : Nat → Int) (k : Int) (kf : Nat) (c i : Int) : Int := if k = -1 then cnL (fun i => !hbS σ i) (σ 3) kf i c else if snL (fun i => !hbS σ i) (σ 3) k kf c i < σ 3 then σ 1 + σ 2 * snL (fun i => !hbS σ i) (σ 3) k kf c i else -1
theorem m_gone_loop (hm : shM E r m) (hs : 0 ≤ s ∧ s ≤ 4) (hl : SL G m s σ) (hW : WF σ) (hk : I32 k) : ∀ (kf : Nat) (i c : Int), σ 3 - i ≤ kf → 0 ≤ i → i ≤ σ 3 → 0 ≤ c → c + kf ≤ 10000 →
    RK MX10_gone 29 [.ref m, .int (zi s), .int (zi k), .int (zi c), .int (zi i)] [] (0, 0) (E, zg G, zk L, r) Q = Q (E, zg (rfG G m (gnV σ k kf c i)), zk L, r) (.int (zi (gnV σ k kf c i))) := by
  have m0 := hm.1
  have w3 := hW.2.2.2.1
  intro kf
  have fin : ∀ (c i : Int), ¬ i < σ 3 → 0 ≤ c → c ≤ 10000 → RK MX10_gone 29 [.ref m, .int (zi s), .int (zi k), .int (zi c), .int (zi i)] [] (0, 0) (E, zg G, zk L, r) Q = Q (E, zg (rfG G m (if k = -1 then c else -1)), zk L, r) (.int (zi (if k = -1 then c else -1))) ∨ 601 < i := by
    intro c i h6 h4 h5
    by_cases z2 : 601 < i
    · exact Or.inr z2
    · refine Or.inl ?_
      by_cases z : k = -1
      · rw [if_pos z, rfG_y (by omega)]
        simp (disch := first | assumption | exact c2_int _ | exact c2_ref _ | exact c2_jk | exact c2_null | omega | exact bI_r _ | exact bI_01 _) only [↓fX10_gone_0, ↓fX10_gone_1, ↓fX10_gone_2, ↓fX10_gone_3, ↓fX10_gone_4, ↓fX10_gone_5, ↓fX10_gone_8, ↓fX10_gone_9, ↓fX10_gone_12, ↓fX10_gone_13, ↓fX10_gone_16, ↓fX10_gone_19, ↓fX10_gone_22, ↓fX10_gone_23, ↓fX10_gone_24, ↓fX10_gone_25, ↓fX10_gone_26, ↓fX10_gone_27, ↓fX10_gone_29, ↓fX10_gone_31, ↓fX10_gone_32, ↓fX10_gone_33, ↓fX10_gone_34, ↓fX10_gone_37, ↓fX10_gone_40, ↓fX10_gone_41, ↓fX10_gone_42, ↓fX10_gone_44, ↓fX10_gone_47, ↓fX10_gone_50, ↓fX10_gone_53, ↓fX10_gone_54, ↓fX10_gone_55, ↓fX10_gone_58, ↓fX10_gone_59, ↓fX10_gone_60, ↓fX10_gone_62, ↓fX10_gone_65, ↓fX10_gone_66, ↓fX10_gone_69, ↓fX10_gone_72, ↓fX10_gone_75, ↓fX10_gone_76, ↓fX10_gone_77, ↓fX10_gone_80, ↓fX10_gone_81, ↓fX10_gone_84, ↓fX10_gone_85, ↓fX10_gone_86, ↓fX10_gone_89, ↓m_of, Int.reduceToNat, h6, z, and_self, true_and, and_true, false_and, and_false, not_true_eq_false, not_false_eq_true, or_self, true_or, or_true, false_or, or_false, ite_not, Decidable.not_not, decide_eq_true_eq, Bool.not_true, Bool.not_false, Bool.false_eq_true, Bool.not_eq_true, n10, n20, n21, n30, n31, n32, n40, n41, n42, n43, ↓reduceIte]
      · rw [if_neg z, rfG_n]
        simp (disch := first | assumption | exact c2_int _ | exact c2_ref _ | exact c2_jk | exact c2_null | omega | exact bI_r _ | exact bI_01 _) only [↓fX10_gone_0, ↓fX10_gone_1, ↓fX10_gone_2, ↓fX10_gone_3, ↓fX10_gone_4, ↓fX10_gone_5, ↓fX10_gone_8, ↓fX10_gone_9, ↓fX10_gone_12, ↓fX10_gone_13, ↓fX10_gone_16, ↓fX10_gone_19, ↓fX10_gone_22, ↓fX10_gone_23, ↓fX10_gone_24, ↓fX10_gone_25, ↓fX10_gone_26, ↓fX10_gone_27, ↓fX10_gone_29, ↓fX10_gone_31, ↓fX10_gone_32, ↓fX10_gone_33, ↓fX10_gone_34, ↓fX10_gone_37, ↓fX10_gone_40, ↓fX10_gone_41, ↓fX10_gone_42, ↓fX10_gone_44, ↓fX10_gone_47, ↓fX10_gone_50, ↓fX10_gone_53, ↓fX10_gone_54, ↓fX10_gone_55, ↓fX10_gone_58, ↓fX10_gone_59, ↓fX10_gone_60, ↓fX10_gone_62, ↓fX10_gone_65, ↓fX10_gone_66, ↓fX10_gone_69, ↓fX10_gone_72, ↓fX10_gone_75, ↓fX10_gone_76, ↓fX10_gone_77, ↓fX10_gone_80, ↓fX10_gone_81, ↓fX10_gone_84, ↓fX10_gone_85, ↓fX10_gone_86, ↓fX10_gone_89, ↓m_of, ↓m_refuse, Int.reduceToNat, h6, z, and_self, true_and, and_true, false_and, and_false, not_true_eq_false, not_false_eq_true, or_self, true_or, or_true, false_or, or_false, ite_not, Decidable.not_not, decide_eq_true_eq, Bool.not_true, Bool.not_false, Bool.false_eq_true, Bool.not_eq_true, n10, n20, n21, n30, n31, n32, n40, n41, n42, n43, ↓reduceIte]
  induction kf with
  | zero =>
    intro i c h1 h2 h3 h4 h5
    have h6 : ¬ i < σ 3 := by omega
    have e : gnV σ k 0 c i = if k = -1 then c else -1 := by
      unfold gnV cnL snL
      rw [if_neg (show ¬ σ 3 < σ 3 by omega)]
    rw [e]
    exact (fin c i h6 h4 (by omega)).resolve_right (by omega)
  | succ kf ih =>
    intro i c h1 h2 h3 h4 h5
    by_cases h6 : i < σ 3
    · have w5 := WF_5 hW
      have w9 := hW.2.2.2.2.2.2.2.2.2.1 i.toNat (by omega)
      have hn := lin_b hW (i := i) ⟨h2, h6⟩
      rw [fX10_gone_29]
      by_cases h8 : σ (20 + i.toNat) = 0
      · have eh : hbS σ i = true := decide_eq_true h8
        have e : gnV σ k (kf + 1) c i = gnV σ k kf c (i + 1) := by
          unfold gnV
          rw [cnL, snL, if_pos h6, if_pos h6, eh]
          simp
        rw [e]
        have ih' := ih (i + 1) c (by omega) (by omega) (by omega) h4 (by omega)
        simp (disch := first | assumption | exact c2_int _ | exact c2_ref _ | exact c2_jk | exact c2_null | omega | exact bI_r _ | exact bI_01 _) only [↓fX10_gone_0, ↓fX10_gone_1, ↓fX10_gone_2, ↓fX10_gone_3, ↓fX10_gone_4, ↓fX10_gone_5, ↓fX10_gone_8, ↓fX10_gone_9, ↓fX10_gone_12, ↓fX10_gone_13, ↓fX10_gone_16, ↓fX10_gone_19, ↓fX10_gone_22, ↓fX10_gone_23, ↓fX10_gone_24, ↓fX10_gone_25, ↓fX10_gone_26, ↓fX10_gone_27, ↓fX10_gone_31, ↓fX10_gone_32, ↓fX10_gone_33, ↓fX10_gone_34, ↓fX10_gone_37, ↓fX10_gone_40, ↓fX10_gone_41, ↓fX10_gone_42, ↓fX10_gone_44, ↓fX10_gone_47, ↓fX10_gone_50, ↓fX10_gone_53, ↓fX10_gone_54, ↓fX10_gone_55, ↓fX10_gone_58, ↓fX10_gone_59, ↓fX10_gone_60, ↓fX10_gone_62, ↓fX10_gone_65, ↓fX10_gone_66, ↓fX10_gone_69, ↓fX10_gone_72, ↓fX10_gone_75, ↓fX10_gone_76, ↓fX10_gone_77, ↓fX10_gone_80, ↓fX10_gone_81, ↓fX10_gone_84, ↓fX10_gone_85, ↓fX10_gone_86, ↓fX10_gone_89, ↓m_of, ↓m_goneAt, Int.reduceToNat, ↓ih', h6, h8, and_self, true_and, and_true, false_and, and_false, not_true_eq_false, not_false_eq_true, or_self, true_or, or_true, false_or, or_false, ite_not, Decidable.not_not, decide_eq_true_eq, Bool.not_true, Bool.not_false, Bool.false_eq_true, Bool.not_eq_true, n10, n20, n21, n30, n31, n32, n40, n41, n42, n43, ↓reduceIte]
      · have eh : hbS σ i = false := decide_eq_false h8
        by_cases h9 : c = k
        · have e : gnV σ k (kf + 1) c i = σ 1 + σ 2 * i := by
            unfold gnV
            rw [snL, if_pos h6, eh, if_neg (by omega)]
            simp only [Bool.not_false, if_true, h9]
            rw [if_pos h6]
          rw [e, rfG_y (by omega)]
          simp (disch := first | assumption | exact c2_int _ | exact c2_ref _ | exact c2_jk | exact c2_null | omega | exact bI_r _ | exact bI_01 _) only [↓fX10_gone_0, ↓fX10_gone_1, ↓fX10_gone_2, ↓fX10_gone_3, ↓fX10_gone_4, ↓fX10_gone_5, ↓fX10_gone_8, ↓fX10_gone_9, ↓fX10_gone_12, ↓fX10_gone_13, ↓fX10_gone_16, ↓fX10_gone_19, ↓fX10_gone_22, ↓fX10_gone_23, ↓fX10_gone_24, ↓fX10_gone_25, ↓fX10_gone_26, ↓fX10_gone_27, ↓fX10_gone_31, ↓fX10_gone_32, ↓fX10_gone_33, ↓fX10_gone_34, ↓fX10_gone_37, ↓fX10_gone_40, ↓fX10_gone_41, ↓fX10_gone_42, ↓fX10_gone_44, ↓fX10_gone_47, ↓fX10_gone_50, ↓fX10_gone_53, ↓fX10_gone_54, ↓fX10_gone_55, ↓fX10_gone_58, ↓fX10_gone_59, ↓fX10_gone_60, ↓fX10_gone_62, ↓fX10_gone_65, ↓fX10_gone_66, ↓fX10_gone_69, ↓fX10_gone_72, ↓fX10_gone_75, ↓fX10_gone_76, ↓fX10_gone_77, ↓fX10_gone_80, ↓fX10_gone_81, ↓fX10_gone_84, ↓fX10_gone_85, ↓fX10_gone_86, ↓fX10_gone_89, ↓m_of, ↓m_goneAt, ↓m_numberAt, Int.reduceToNat, h6, h8, h9, and_self, true_and, and_true, false_and, and_false, not_true_eq_false, not_false_eq_true, or_self, true_or, or_true, false_or, or_false, ite_not, Decidable.not_not, decide_eq_true_eq, Bool.not_true, Bool.not_false, Bool.false_eq_true, Bool.not_eq_true, n10, n20, n21, n30, n31, n32, n40, n41, n42, n43, ↓reduceIte]
        · have e : gnV σ k (kf + 1) c i = gnV σ k kf (c + 1) (i + 1) := by
            unfold gnV
            rw [cnL, snL, if_pos h6, if_pos h6, eh]
            simp only [Bool.not_false, if_true, h9, if_false]
          rw [e]
          have ih' := ih (i + 1) (c + 1) (by omega) (by omega) (by omega) (by omega) (by omega)
          simp (disch := first | assumption | exact c2_int _ | exact c2_ref _ | exact c2_jk | exact c2_null | omega | exact bI_r _ | exact bI_01 _) only [↓fX10_gone_0, ↓fX10_gone_1, ↓fX10_gone_2, ↓fX10_gone_3, ↓fX10_gone_4, ↓fX10_gone_5, ↓fX10_gone_8, ↓fX10_gone_9, ↓fX10_gone_12, ↓fX10_gone_13, ↓fX10_gone_16, ↓fX10_gone_19, ↓fX10_gone_22, ↓fX10_gone_23, ↓fX10_gone_24, ↓fX10_gone_25, ↓fX10_gone_26, ↓fX10_gone_27, ↓fX10_gone_31, ↓fX10_gone_32, ↓fX10_gone_33, ↓fX10_gone_34, ↓fX10_gone_37, ↓fX10_gone_40, ↓fX10_gone_41, ↓fX10_gone_42, ↓fX10_gone_44, ↓fX10_gone_47, ↓fX10_gone_50, ↓fX10_gone_53, ↓fX10_gone_54, ↓fX10_gone_55, ↓fX10_gone_58, ↓fX10_gone_59, ↓fX10_gone_60, ↓fX10_gone_62, ↓fX10_gone_65, ↓fX10_gone_66, ↓fX10_gone_69, ↓fX10_gone_72, ↓fX10_gone_75, ↓fX10_gone_76, ↓fX10_gone_77, ↓fX10_gone_80, ↓fX10_gone_81, ↓fX10_gone_84, ↓fX10_gone_85, ↓fX10_gone_86, ↓fX10_gone_89, ↓m_of, ↓m_goneAt, Int.reduceToNat, ↓ih', h6, h8, h9, and_self, true_and, and_true, false_and, and_false, not_true_eq_false, not_false_eq_true, or_self, true_or, or_true, false_or, or_false, ite_not, Decidable.not_not, decide_eq_true_eq, Bool.not_true, Bool.not_false, Bool.false_eq_true, Bool.not_eq_true, n10, n20, n21, n30, n31, n32, n40, n41, n42, n43, ↓reduceIte]
    · have e : gnV σ k (kf + 1) c i = if k = -1 then c else -1 := by
        unfold gnV
        rw [cnL, snL, if_neg h6, if_neg h6, if_neg (show ¬ σ 3 < σ 3 by omega)]
      rw [e]
      exact (fin c i h6 h4 (by omega)).resolve_right (by omega)
theorem gn_m (hW : WF σ) (hk : -1 ≤ k) : (if k = -1 then ((0 : Int), σ 3 - szS σ) else ans (snZ σ k)) = ans (gnV σ k 600 0 0) := by
  have w3 := hW.2.2.2.1
  have hz := szS_b hW
  by_cases c : k = -1
  · have e : gnV σ k 600 0 0 = σ 3 - szS σ := by
      unfold gnV
      rw [if_pos c, cnL_ct0 _ (by omega) (by omega)]
      have : ∀ n : Nat, ctN (fun i => !hbS σ i) n = n - ctN (hbS σ) n := by
        intro n
        induction n with
        | zero => rfl
        | succ n ih =>
          rw [ctN, ctN, ih]
          by_cases q : hbS σ (n : Int) = true
          · rw [q]
            simp
            omega
          · rw [show hbS σ (n : Int) = false by simpa using q]
            simp
            omega
      rw [this]
      unfold szS
      omega
    have hs : szS σ ≤ σ 3 := by
      have := ctN_b (hbS σ) (σ 3).toNat
      unfold szS
      omega
    rw [if_pos c, e, ans_y (by omega)]
  · rw [if_neg c]
    unfold gnV snZ
    rw [if_neg c]
theorem whZ_lt (hW : WF σ) {i j : Int} (hi : 1 ≤ i) (hij : i < j) (hj : j ≤ σ 4) : whZ σ i < whZ σ j := hW.2.2.2.2.2.2.2.2.2.2.2.1 i.toNat j.toNat (by omega) (by omega) (by omega)
theorem roZ_0 (hW : WF σ) : roZ σ t = 0 ↔ ∀ j : Int, 1 ≤ j → j ≤ σ 4 → whZ σ j ≠ t := by
  have w4 := hW.2.2.2.2.1
  have w5 := WF_5 hW
  unfold roZ
  constructor
  · intro h j j1 j2 z
    have hb := fdL_b (fun i => decide (whZ σ i = t)) (σ 4 + 1) 601 1 (by omega)
    have e := fdL_at (fun i => decide (whZ σ i = t)) (σ 4 + 1) j (decide_eq_true z) (by omega) 601 1 (by omega) j1 fun i i1 i2 => by
      rw [decide_eq_false_iff_not]
      have := whZ_lt hW i1 i2 j2
      omega
    rw [e, if_pos (by omega)] at h
    omega
  · intro h
    have e := fdL_no (fun i => decide (whZ σ i = t)) (σ 4 + 1) 601 1 fun j j1 j2 => by
      rw [decide_eq_false_iff_not]
      exact h j j1 (by omega)
    rw [e, if_neg (by omega)]
/-- struck by hand between the first round and the last -/
def btZ (σ : Nat → Int) (n : Nat) : Bool := decide (∃ i : Nat, i < n ∧ (whZ σ 1 ≤ σ (20 + i) ∧ σ (20 + i) ≤ whZ σ (σ 4)) ∧ roZ σ (σ (20 + i)) = 0)
theorem bt_tb (hW : WF σ) (h4 : 1 ≤ σ 4) : btZ σ (σ 3).toNat = tbZ σ := by
  have w3 := hW.2.2.2.1
  have w12 := hW.2.2.2.2.2.2.2.2.2.2.2.2
  unfold btZ tbZ
  refine decide_eq_decide.mpr ?_
  have lin : (∀ j : Int, 1 ≤ j → j ≤ σ 4 → whZ σ 1 + (j - 1) ≤ whZ σ j ∧ whZ σ j + (σ 4 - j) ≤ whZ σ (σ 4)) := by
    have h1 : ∀ n : Nat, (n : Int) + 1 ≤ σ 4 → whZ σ 1 + n ≤ whZ σ ((n : Int) + 1) := by
      intro n
      induction n with
      | zero => intro _; show whZ σ 1 + 0 ≤ whZ σ (0 + 1); rw [Int.zero_add]; omega
      | succ n ih =>
        intro h
        have a := ih (by omega)
        have b := whZ_lt hW (i := (n : Int) + 1) (j := (n : Int) + 1 + 1) (by omega) (by omega) (by omega)
        rw [Int.natCast_add]
        show whZ σ 1 + ((n : Int) + 1) ≤ whZ σ ((n : Int) + 1 + 1)
        omega
    have h2 : ∀ n : Nat, 1 ≤ σ 4 - n → whZ σ (σ 4 - n) + n ≤ whZ σ (σ 4) := by
      intro n
      induction n with
      | zero => intro _; show whZ σ (σ 4 - 0) + 0 ≤ _; rw [Int.sub_zero]; omega
      | succ n ih =>
        intro h
        have a := ih (by omega)
        have b := whZ_lt hW (i := σ 4 - ((n + 1 : Nat) : Int)) (j := σ 4 - n) (by omega) (by omega) (by omega)
        omega
    intro j j1 j2
    have a := h1 (j - 1).toNat (by omega)
    have b := h2 (σ 4 - j).toNat (by omega)
    rw [show (((j - 1).toNat : Nat) : Int) = j - 1 by omega, show j - 1 + 1 = j by omega] at a
    rw [show (((σ 4 - j).toNat : Nat) : Int) = σ 4 - j by omega, show σ 4 - (σ 4 - j) = j by omega] at b
    exact ⟨a, b⟩
  have w1 := whZ_b hW (y := 1) ⟨by omega, h4⟩
  have w2 := whZ_b hW (y := σ 4) ⟨h4, by omega⟩
  have l4 := lin (σ 4) h4 (by omega)
  constructor
  · intro ⟨i, i1, ⟨i2, i3⟩, i4⟩
    rw [roZ_0 hW] at i4
    by_cases c : whZ σ (σ 4) - whZ σ 1 = σ 4 - 1
    · exfalso
      have hj := lin (σ (20 + i) - whZ σ 1 + 1) (by omega) (by omega)
      exact i4 (σ (20 + i) - whZ σ 1 + 1) (by omega) (by omega) (by omega)
    · exact ⟨fun z => c (by have : σ 4 = 1 := by omega
                            rw [this]; omega), c⟩
  · intro ⟨h1, h2⟩
    -- a time between that is no round's
    have : ∃ t, whZ σ 1 ≤ t ∧ t ≤ whZ σ (σ 4) ∧ ∀ j : Int, 1 ≤ j → j ≤ σ 4 → whZ σ j ≠ t := by
      refine Classical.byContradiction fun hno => h2 ?_
      have all : ∀ t, whZ σ 1 ≤ t → t ≤ whZ σ (σ 4) → ∃ j : Int, 1 ≤ j ∧ j ≤ σ 4 ∧ whZ σ j = t := fun t t1 t2 => Classical.byContradiction fun hn => hno ⟨t, t1, t2, fun j j1 j2 z => hn ⟨j, j1, j2, z⟩⟩
      have step : ∀ n : Nat, (n : Int) + 1 ≤ σ 4 → whZ σ ((n : Int) + 1) = whZ σ 1 + n := by
        intro n
        induction n with
        | zero => intro _; show whZ σ (0 + 1) = whZ σ 1 + 0; rw [Int.zero_add, Int.add_zero]
        | succ n ih =>
          intro h
          have a := ih (by omega)
          have b := whZ_lt hW (i := (n : Int) + 1) (j := ((n + 1 : Nat) : Int) + 1) (by omega) (by omega) h
          have l := lin (((n + 1 : Nat) : Int) + 1) (by omega) h
          obtain ⟨j, j1, j2, j3⟩ := all (whZ σ ((n : Int) + 1) + 1) (by omega) (by omega)
          rcases Int.lt_trichotomy j (((n + 1 : Nat) : Int) + 1) with z | z | z
          · have : j ≤ (n : Int) + 1 := by omega
            rcases Int.lt_or_eq_of_le this with y | y
            · have := whZ_lt hW j1 y (by omega)
              omega
            · rw [y] at j3
              omega
          · rw [← z, j3]
            omega
          · have := whZ_lt hW (i := ((n + 1 : Nat) : Int) + 1) (j := j) (by omega) z j2
            omega
      have := step (σ 4 - 1).toNat (by omega)
      rw [show (((σ 4 - 1).toNat : Nat) : Int) = σ 4 - 1 by omega, show σ 4 - 1 + 1 = σ 4 by omega] at this
      omega
    obtain ⟨t, t1, t2, t3⟩ := this
    rcases w12 t (by omega) (by omega) with ⟨j, j1, j2, j3⟩ | ⟨i, i1, i2⟩
    · exact absurd j3 (t3 (j : Int) (by omega) j2)
    · exact ⟨i, by omega, by rw [i2]; exact ⟨t1, t2⟩, by rw [i2, roZ_0 hW]; exact t3⟩
theorem btZ_s (n : Nat) : btZ σ (n + 1) = (btZ σ n || decide ((whZ σ 1 ≤ σ (20 + n) ∧ σ (20 + n) ≤ whZ σ (σ 4)) ∧ roZ σ (σ (20 + n)) = 0)) := by
  unfold btZ
  rw [← Bool.decide_or]
  refine decide_eq_decide.mpr ⟨fun ⟨i, i1, i2⟩ => ?_, fun h => ?_⟩
  · by_cases z : i = n
    · rw [z] at i2
      exact Or.inr i2
    · exact Or.inl ⟨i, by omega, i2⟩
  · rcases h with ⟨i, i1, i2⟩ | h
    · exact ⟨i, by omega, i2⟩
    · exact ⟨n, by omega, h⟩
theorem m_between_loop (hm : shM E r m) (hs : 0 ≤ s ∧ s ≤ 4) (hl : SL G m s σ) (hW : WF σ) (h4 : 1 ≤ σ 4) : ∀ (k i : Nat), (σ 3).toNat - i ≤ k → i ≤ (σ 3).toNat → btZ σ i = false →
    RK MX10_isBetween 22 [.ref m, .int (zi s), .int (zi (whZ σ 1)), .int (zi (whZ σ (σ 4))), .int (zi (i : Int))] [] (0, 0) (E, zg G, zk L, r) Q = Q (E, zg G, zk L, r) (.int (zi (bI (btZ σ (σ 3).toNat = true)))) := by
  have m0 := hm.1
  have w3 := hW.2.2.2.1
  have w5 := WF_5 hW
  have w1 := whZ_b hW (y := 1) ⟨by omega, h4⟩
  have w2 := whZ_b hW (y := σ 4) ⟨h4, by omega⟩
  intro k
  induction k with
  | zero =>
    intro i h1 h2 h3
    have e : i = (σ 3).toNat := by omega
    have h6 : ¬ (i : Int) < σ 3 := by omega
    rw [← e, h3, bI_n (by decide)]
    simp (disch := first | assumption | exact c2_int _ | exact c2_ref _ | exact c2_jk | exact c2_null | omega | exact bI_r _ | exact bI_01 _) only [↓fX10_isBetween_0, ↓fX10_isBetween_1, ↓fX10_isBetween_2, ↓fX10_isBetween_3, ↓fX10_isBetween_6, ↓fX10_isBetween_7, ↓fX10_isBetween_8, ↓fX10_isBetween_9, ↓fX10_isBetween_10, ↓fX10_isBetween_11, ↓fX10_isBetween_12, ↓fX10_isBetween_15, ↓fX10_isBetween_18, ↓fX10_isBetween_19, ↓fX10_isBetween_20, ↓fX10_isBetween_22, ↓fX10_isBetween_24, ↓fX10_isBetween_25, ↓fX10_isBetween_26, ↓fX10_isBetween_27, ↓fX10_isBetween_30, ↓fX10_isBetween_33, ↓fX10_isBetween_34, ↓fX10_isBetween_35, ↓fX10_isBetween_37, ↓fX10_isBetween_40, ↓fX10_isBetween_41, ↓fX10_isBetween_42, ↓fX10_isBetween_43, ↓fX10_isBetween_44, ↓fX10_isBetween_45, ↓fX10_isBetween_48, ↓fX10_isBetween_51, ↓fX10_isBetween_52, ↓fX10_isBetween_53, ↓fX10_isBetween_54, ↓fX10_isBetween_55, ↓fX10_isBetween_57, ↓fX10_isBetween_60, ↓fX10_isBetween_63, ↓fX10_isBetween_66, ↓fX10_isBetween_67, ↓fX10_isBetween_68, ↓fX10_isBetween_71, ↓fX10_isBetween_74, ↓fX10_isBetween_75, ↓m_of, Int.reduceToNat, h6, and_self, true_and, and_true, false_and, and_false, not_true_eq_false, not_false_eq_true, or_self, true_or, or_true, false_or, or_false, ite_not, Decidable.not_not, decide_eq_true_eq, Bool.not_true, Bool.not_false, Bool.false_eq_true, Bool.not_eq_true, n10, n20, n21, n30, n31, n32, n40, n41, n42, n43, ↓reduceIte]
  | succ k ih =>
    intro i h1 h2 h3
    by_cases h6 : (i : Int) < σ 3
    · have w9 := hW.2.2.2.2.2.2.2.2.2.1 i h6
      have ei : (i : Int).toNat = i := Int.toNat_natCast i
      have rb := roZ_b (e := σ (20 + i)) hW
      have hs' := btZ_s (σ := σ) i
      rw [h3, Bool.false_or] at hs'
      rw [fX10_isBetween_22]
      by_cases h8 : whZ σ 1 ≤ σ (20 + i) ∧ σ (20 + i) ≤ whZ σ (σ 4)
      · have h8' : (whZ σ 1 ≤ σ (20 + i) ∧ σ (20 + i) ≤ whZ σ (σ 4)) = True := eq_true h8
        by_cases h9 : roZ σ (σ (20 + i)) = 0
        · have et : btZ σ (σ 3).toNat = true := decide_eq_true ⟨i, by omega, h8, h9⟩
          rw [et, bI_p rfl]
          simp (disch := first | assumption | exact c2_int _ | exact c2_ref _ | exact c2_jk | exact c2_null | omega | exact bI_r _ | exact bI_01 _) only [↓fX10_isBetween_0, ↓fX10_isBetween_1, ↓fX10_isBetween_2, ↓fX10_isBetween_3, ↓fX10_isBetween_6, ↓fX10_isBetween_7, ↓fX10_isBetween_8, ↓fX10_isBetween_9, ↓fX10_isBetween_10, ↓fX10_isBetween_11, ↓fX10_isBetween_12, ↓fX10_isBetween_15, ↓fX10_isBetween_18, ↓fX10_isBetween_19, ↓fX10_isBetween_20, ↓fX10_isBetween_24, ↓fX10_isBetween_25, ↓fX10_isBetween_26, ↓fX10_isBetween_27, ↓fX10_isBetween_30, ↓fX10_isBetween_33, ↓fX10_isBetween_34, ↓fX10_isBetween_35, ↓fX10_isBetween_37, ↓fX10_isBetween_40, ↓fX10_isBetween_41, ↓fX10_isBetween_42, ↓fX10_isBetween_43, ↓fX10_isBetween_44, ↓fX10_isBetween_45, ↓fX10_isBetween_48, ↓fX10_isBetween_51, ↓fX10_isBetween_52, ↓fX10_isBetween_53, ↓fX10_isBetween_54, ↓fX10_isBetween_55, ↓fX10_isBetween_57, ↓fX10_isBetween_60, ↓fX10_isBetween_63, ↓fX10_isBetween_66, ↓fX10_isBetween_67, ↓fX10_isBetween_68, ↓fX10_isBetween_71, ↓fX10_isBetween_74, ↓fX10_isBetween_75, ↓m_of, ↓m_goneAt, ↓m_isIn, ↓m_roundAt, bI_0, Int.reduceToNat, ei, h6, h8', h9, and_self, true_and, and_true, false_and, and_false, not_true_eq_false, not_false_eq_true, or_self, true_or, or_true, false_or, or_false, ite_not, Decidable.not_not, decide_eq_true_eq, Bool.not_true, Bool.not_false, Bool.false_eq_true, Bool.not_eq_true, n10, n20, n21, n30, n31, n32, n40, n41, n42, n43, ↓reduceIte]
        · have e2 : btZ σ (i + 1) = false := by rw [hs', decide_eq_false (fun z => h9 z.2)]
          have ih' := ih (i + 1) (by omega) (by omega) e2
          rw [Int.natCast_add] at ih'
          have ih'' : RK MX10_isBetween 22 [.ref m, .int (zi s), .int (zi (whZ σ 1)), .int (zi (whZ σ (σ 4))), .int (zi ((i : Int) + 1))] [] (0, 0) (E, zg G, zk L, r) Q = _ := ih'
          simp (disch := first | assumption | exact c2_int _ | exact c2_ref _ | exact c2_jk | exact c2_null | omega | exact bI_r _ | exact bI_01 _) only [↓fX10_isBetween_0, ↓fX10_isBetween_1, ↓fX10_isBetween_2, ↓fX10_isBetween_3, ↓fX10_isBetween_6, ↓fX10_isBetween_7, ↓fX10_isBetween_8, ↓fX10_isBetween_9, ↓fX10_isBetween_10, ↓fX10_isBetween_11, ↓fX10_isBetween_12, ↓fX10_isBetween_15, ↓fX10_isBetween_18, ↓fX10_isBetween_19, ↓fX10_isBetween_20, ↓fX10_isBetween_24, ↓fX10_isBetween_25, ↓fX10_isBetween_26, ↓fX10_isBetween_27, ↓fX10_isBetween_30, ↓fX10_isBetween_33, ↓fX10_isBetween_34, ↓fX10_isBetween_35, ↓fX10_isBetween_37, ↓fX10_isBetween_40, ↓fX10_isBetween_41, ↓fX10_isBetween_42, ↓fX10_isBetween_43, ↓fX10_isBetween_44, ↓fX10_isBetween_45, ↓fX10_isBetween_48, ↓fX10_isBetween_51, ↓fX10_isBetween_52, ↓fX10_isBetween_53, ↓fX10_isBetween_54, ↓fX10_isBetween_55, ↓fX10_isBetween_57, ↓fX10_isBetween_60, ↓fX10_isBetween_63, ↓fX10_isBetween_66, ↓fX10_isBetween_67, ↓fX10_isBetween_68, ↓fX10_isBetween_71, ↓fX10_isBetween_74, ↓fX10_isBetween_75, ↓m_of, ↓m_goneAt, ↓m_isIn, ↓m_roundAt, bI_0, Int.reduceToNat, ei, h6, h8', h9, ↓ih'', and_self, true_and, and_true, false_and, and_false, not_true_eq_false, not_false_eq_true, or_self, true_or, or_true, false_or, or_false, ite_not, Decidable.not_not, decide_eq_true_eq, Bool.not_true, Bool.not_false, Bool.false_eq_true, Bool.not_eq_true, n10, n20, n21, n30, n31, n32, n40, n41, n42, n43, ↓reduceIte]
      · have e2 : btZ σ (i + 1) = false := by rw [hs', decide_eq_false (fun z => h8 z.1)]
        have ih' := ih (i + 1) (by omega) (by omega) e2
        rw [Int.natCast_add] at ih'
        have ih'' : RK MX10_isBetween 22 [.ref m, .int (zi s), .int (zi (whZ σ 1)), .int (zi (whZ σ (σ 4))), .int (zi ((i : Int) + 1))] [] (0, 0) (E, zg G, zk L, r) Q = _ := ih'
        simp (disch := first | assumption | exact c2_int _ | exact c2_ref _ | exact c2_jk | exact c2_null | omega | exact bI_r _ | exact bI_01 _) only [↓fX10_isBetween_0, ↓fX10_isBetween_1, ↓fX10_isBetween_2, ↓fX10_isBetween_3, ↓fX10_isBetween_6, ↓fX10_isBetween_7, ↓fX10_isBetween_8, ↓fX10_isBetween_9, ↓fX10_isBetween_10, ↓fX10_isBetween_11, ↓fX10_isBetween_12, ↓fX10_isBetween_15, ↓fX10_isBetween_18, ↓fX10_isBetween_19, ↓fX10_isBetween_20, ↓fX10_isBetween_24, ↓fX10_isBetween_25, ↓fX10_isBetween_26, ↓fX10_isBetween_27, ↓fX10_isBetween_30, ↓fX10_isBetween_33, ↓fX10_isBetween_34, ↓fX10_isBetween_35, ↓fX10_isBetween_37, ↓fX10_isBetween_40, ↓fX10_isBetween_41, ↓fX10_isBetween_42, ↓fX10_isBetween_43, ↓fX10_isBetween_44, ↓fX10_isBetween_45, ↓fX10_isBetween_48, ↓fX10_isBetween_51, ↓fX10_isBetween_52, ↓fX10_isBetween_53, ↓fX10_isBetween_54, ↓fX10_isBetween_55, ↓fX10_isBetween_57, ↓fX10_isBetween_60, ↓fX10_isBetween_63, ↓fX10_isBetween_66, ↓fX10_isBetween_67, ↓fX10_isBetween_68, ↓fX10_isBetween_71, ↓fX10_isBetween_74, ↓fX10_isBetween_75, ↓m_of, ↓m_goneAt, ↓m_isIn, bI_0, Int.reduceToNat, ei, h6, h8, ↓ih'', and_self, true_and, and_true, false_and, and_false, not_true_eq_false, not_false_eq_true, or_self, true_or, or_true, false_or, or_false, ite_not, Decidable.not_not, decide_eq_true_eq, Bool.not_true, Bool.not_false, Bool.false_eq_true, Bool.not_eq_true, n10, n20, n21, n30, n31, n32, n40, n41, n42, n43, ↓reduceIte]
    · have e : i = (σ 3).toNat := by omega
      rw [← e, h3, bI_n (by decide)]
      simp (disch := first | assumption | exact c2_int _ | exact c2_ref _ | exact c2_jk | exact c2_null | omega | exact bI_r _ | exact bI_01 _) only [↓fX10_isBetween_0, ↓fX10_isBetween_1, ↓fX10_isBetween_2, ↓fX10_isBetween_3, ↓fX10_isBetween_6, ↓fX10_isBetween_7, ↓fX10_isBetween_8, ↓fX10_isBetween_9, ↓fX10_isBetween_10, ↓fX10_isBetween_11, ↓fX10_isBetween_12, ↓fX10_isBetween_15, ↓fX10_isBetween_18, ↓fX10_isBetween_19, ↓fX10_isBetween_20, ↓fX10_isBetween_22, ↓fX10_isBetween_24, ↓fX10_isBetween_25, ↓fX10_isBetween_26, ↓fX10_isBetween_27, ↓fX10_isBetween_30, ↓fX10_isBetween_33, ↓fX10_isBetween_34, ↓fX10_isBetween_35, ↓fX10_isBetween_37, ↓fX10_isBetween_40, ↓fX10_isBetween_41, ↓fX10_isBetween_42, ↓fX10_isBetween_43, ↓fX10_isBetween_44, ↓fX10_isBetween_45, ↓fX10_isBetween_48, ↓fX10_isBetween_51, ↓fX10_isBetween_52, ↓fX10_isBetween_53, ↓fX10_isBetween_54, ↓fX10_isBetween_55, ↓fX10_isBetween_57, ↓fX10_isBetween_60, ↓fX10_isBetween_63, ↓fX10_isBetween_66, ↓fX10_isBetween_67, ↓fX10_isBetween_68, ↓fX10_isBetween_71, ↓fX10_isBetween_74, ↓fX10_isBetween_75, ↓m_of, Int.reduceToNat, h6, and_self, true_and, and_true, false_and, and_false, not_true_eq_false, not_false_eq_true, or_self, true_or, or_true, false_or, or_false, ite_not, Decidable.not_not, decide_eq_true_eq, Bool.not_true, Bool.not_false, Bool.false_eq_true, Bool.not_eq_true, n10, n20, n21, n30, n31, n32, n40, n41, n42, n43, ↓reduceIte]
theorem m_isBetween (hm : shM E r m) (hs : 0 ≤ s ∧ s ≤ 4) (hl : SL G m s σ) (hW : WF σ) (h4 : 1 ≤ σ 4) : RK MX10_isBetween 0 [.ref m, .int (zi s), jk, jk, jk] [] (0, 0) (E, zg G, zk L, r) Q = Q (E, zg G, zk L, r) (.int (zi (bI (tbZ σ = true)))) := by
  have m0 := hm.1
  have w5 := WF_5 hW
  have e0 : btZ σ 0 = false := decide_eq_false fun ⟨i, i1, _⟩ => by omega
  have e := m_between_loop (L := L) (Q := Q) hm hs hl hW h4 600 0 (by have := hW.2.2.2.1; omega) (by omega) e0
  rw [bt_tb hW h4] at e
  simp (disch := first | assumption | exact c2_int _ | exact c2_ref _ | exact c2_jk | exact c2_null | omega | exact bI_r _ | exact bI_01 _) only [↓fX10_isBetween_0, ↓fX10_isBetween_1, ↓fX10_isBetween_2, ↓fX10_isBetween_3, ↓fX10_isBetween_6, ↓fX10_isBetween_7, ↓fX10_isBetween_8, ↓fX10_isBetween_9, ↓fX10_isBetween_10, ↓fX10_isBetween_11, ↓fX10_isBetween_12, ↓fX10_isBetween_15, ↓fX10_isBetween_18, ↓fX10_isBetween_19, ↓fX10_isBetween_20, ↓fX10_isBetween_24, ↓fX10_isBetween_25, ↓fX10_isBetween_26, ↓fX10_isBetween_27, ↓fX10_isBetween_30, ↓fX10_isBetween_33, ↓fX10_isBetween_34, ↓fX10_isBetween_35, ↓fX10_isBetween_37, ↓fX10_isBetween_40, ↓fX10_isBetween_41, ↓fX10_isBetween_42, ↓fX10_isBetween_43, ↓fX10_isBetween_44, ↓fX10_isBetween_45, ↓fX10_isBetween_48, ↓fX10_isBetween_51, ↓fX10_isBetween_52, ↓fX10_isBetween_53, ↓fX10_isBetween_54, ↓fX10_isBetween_55, ↓fX10_isBetween_57, ↓fX10_isBetween_60, ↓fX10_isBetween_63, ↓fX10_isBetween_66, ↓fX10_isBetween_67, ↓fX10_isBetween_68, ↓fX10_isBetween_71, ↓fX10_isBetween_74, ↓fX10_isBetween_75, ↓m_of, ↓m_when, Int.reduceToNat]
  exact e
theorem pl_pa {ev i : Int} (hi : 0 ≤ i ∧ i < σ 3) (h : geZ σ ev i = true) : plN (geZ σ ev) (σ 3).toNat i = paZ σ i ev := by
  unfold plN paZ
  rw [if_pos ⟨hi.1, by omega, h⟩, show (i + 1).toNat = i.toNat + 1 by omega, ctN, if_pos (by rw [Int.toNat_of_nonneg hi.1]; exact h)]
theorem pl_no {ev i : Int} (h : geZ σ ev i = false) : plN (geZ σ ev) (σ 3).toNat i = -1 := by
  unfold plN
  rw [if_neg (fun z => by rw [h] at z; exact absurd z.2.2 (by decide))]
theorem ia_at (hW : WF σ) {ev : Int} (hl : LAP G m (geZ σ ev) (σ 3).toNat) (hp : 1 ≤ p) : (p ≤ G m 12 → iaZ σ p ev = G (m + 7) (p - 1).toNat ∧ (0 ≤ iaZ σ p ev ∧ iaZ σ p ev < σ 3) ∧ geZ σ ev (iaZ σ p ev) = true) ∧ (¬ p ≤ G m 12 → iaZ σ p ev = -1) ∧ 0 ≤ G m 12 ∧ G m 12 ≤ 600 := by
  have w3 := hW.2.2.2.1
  have hb := ctN_b (geZ σ ev) (σ 3).toNat
  refine ⟨fun h => ?_, fun h => ?_, by rw [hl.1]; omega, by rw [hl.1]; omega⟩
  · rw [hl.1] at h
    have e : iaZ σ p ev = (ixN (geZ σ ev) (σ 3).toNat p : Int) := if_pos ⟨hp, h⟩
    have b := ixN_ok (geZ σ ev) (σ 3).toNat p hp h
    rw [e, hl.2 p hp h]
    exact ⟨rfl, by omega, b.2.1⟩
  · rw [hl.1] at h
    exact if_neg fun z => h z.2
end BM
section BM
variable {E : AE} {G G1 G2 G' L : Nat → Nat → Int} {r : Nat → Nat → Option Nat} {h : AH} {Q : AH → Value → Prop} {m M n cl : Nat} {σ : Nat → Nat → Int} {P : Int → Bool} {s o y x w i p v lo hi t b d e c f g k : Int} {ln : Nat → Nat} {lv : Nat → Nat → Int}
theorem y_told (hM : MD E r G m n σ) (hs : I32 s) (hy : I32 y) (hw : I32 w) : ∃ G', lkM G G' m ∧ G' m 0 = (onS (decide ((y < 1) ∨ (¬ (0 ≤ w ∧ w ≤ 3)))) n s (ans (orZ (σ s.toNat) y w))).1 ∧ ∀ Q, RK MX10_told 0 [.ref m, .int (zi s), .int (zi y), .int (zi w)] [] (0, 0) (E, zg G, zk L, r) Q = Q (E, zg G', zk L, r) (.int (zi (onS (decide ((y < 1) ∨ (¬ (0 ≤ w ∧ w ≤ 3)))) n s (ans (orZ (σ s.toNat) y w))).2)) := by
  have hm := hM.1
  have m0 := hm.1
  have h6 := hM.2.1
  by_cases c1 : ¬ (0 ≤ w ∧ w ≤ 3)
  · have cb : onS (decide ((y < 1) ∨ (¬ (0 ≤ w ∧ w ≤ 3)))) n s (ans (orZ (σ s.toNat) y w)) = (1, -1) := if_pos (decide_eq_true (by omega))
    rw [cb]
    exact ⟨iG G m 1, lkM_i, iG_0, fun Q => by simp (disch := first | assumption | exact c2_int _ | exact c2_ref _ | exact c2_jk | exact c2_null | omega | exact bI_r _ | exact bI_01 _) only [↓fX10_told_0, ↓fX10_told_1, ↓fX10_told_2, ↓fX10_told_3, ↓fX10_told_4, ↓fX10_told_7, ↓fX10_told_10, ↓fX10_told_13, ↓fX10_told_14, ↓fX10_told_15, ↓fX10_told_18, ↓fX10_told_19, ↓fX10_told_22, ↓fX10_told_23, ↓fX10_told_24, ↓fX10_told_27, ↓fX10_told_30, ↓fX10_told_31, ↓fX10_told_34, ↓fX10_told_35, ↓fX10_told_36, ↓fX10_told_37, ↓fX10_told_40, ↓fX10_told_43, ↓fX10_told_44, ↓fX10_told_47, ↓fX10_told_48, ↓fX10_told_51, ↓fX10_told_54, ↓fX10_told_55, ↓fX10_told_56, ↓fX10_told_57, ↓fX10_told_60, ↓fX10_told_61, ↓fX10_told_62, ↓fX10_told_65, ↓fX10_told_66, ↓fX10_told_67, ↓fX10_told_70, ↓fX10_told_71, ↓fX10_told_72, ↓fX10_told_73, ↓fX10_told_76, ↓fX10_told_77, ↓fX10_told_78, ↓fX10_told_79, ↓fX10_told_80, ↓fX10_told_81, ↓fX10_told_84, ↓fX10_told_85, ↓fX10_told_88, ↓fX10_told_89, ↓fX10_told_92, ↓fX10_told_93, ↓fX10_told_94, ↓fX10_told_95, ↓fX10_told_96, ↓fX10_told_97, ↓fX10_told_98, ↓fX10_told_101, ↓fX10_told_102, ↓fX10_told_105, ↓fX10_told_106, ↓fX10_told_109, ↓m_isIn, bI_0, ↓m_isN, c1, and_self, true_and, and_true, false_and, and_false, not_true_eq_false, not_false_eq_true, or_self, true_or, or_true, false_or, or_false, ite_not, Decidable.not_not, decide_eq_true_eq, Bool.not_true, Bool.not_false, Bool.false_eq_true, Bool.not_eq_true, n10, n20, n21, n30, n31, n32, n40, n41, n42, n43, ↓reduceIte]⟩
  · have c1 := Decidable.not_not.mp c1
    by_cases c2 : y < 1
    · have cb : onS (decide ((y < 1) ∨ (¬ (0 ≤ w ∧ w ≤ 3)))) n s (ans (orZ (σ s.toNat) y w)) = (1, -1) := if_pos (decide_eq_true (by omega))
      rw [cb]
      exact ⟨iG G m 1, lkM_i, iG_0, fun Q => by simp (disch := first | assumption | exact c2_int _ | exact c2_ref _ | exact c2_jk | exact c2_null | omega | exact bI_r _ | exact bI_01 _) only [↓fX10_told_0, ↓fX10_told_1, ↓fX10_told_2, ↓fX10_told_3, ↓fX10_told_4, ↓fX10_told_7, ↓fX10_told_10, ↓fX10_told_13, ↓fX10_told_14, ↓fX10_told_15, ↓fX10_told_18, ↓fX10_told_19, ↓fX10_told_22, ↓fX10_told_23, ↓fX10_told_24, ↓fX10_told_27, ↓fX10_told_30, ↓fX10_told_31, ↓fX10_told_34, ↓fX10_told_35, ↓fX10_told_36, ↓fX10_told_37, ↓fX10_told_40, ↓fX10_told_43, ↓fX10_told_44, ↓fX10_told_47, ↓fX10_told_48, ↓fX10_told_51, ↓fX10_told_54, ↓fX10_told_55, ↓fX10_told_56, ↓fX10_told_57, ↓fX10_told_60, ↓fX10_told_61, ↓fX10_told_62, ↓fX10_told_65, ↓fX10_told_66, ↓fX10_told_67, ↓fX10_told_70, ↓fX10_told_71, ↓fX10_told_72, ↓fX10_told_73, ↓fX10_told_76, ↓fX10_told_77, ↓fX10_told_78, ↓fX10_told_79, ↓fX10_told_80, ↓fX10_told_81, ↓fX10_told_84, ↓fX10_told_85, ↓fX10_told_88, ↓fX10_told_89, ↓fX10_told_92, ↓fX10_told_93, ↓fX10_told_94, ↓fX10_told_95, ↓fX10_told_96, ↓fX10_told_97, ↓fX10_told_98, ↓fX10_told_101, ↓fX10_told_102, ↓fX10_told_105, ↓fX10_told_106, ↓fX10_told_109, ↓m_isIn, bI_0, ↓m_isN, c1, c2, and_self, true_and, and_true, false_and, and_false, not_true_eq_false, not_false_eq_true, or_self, true_or, or_true, false_or, or_false, ite_not, Decidable.not_not, decide_eq_true_eq, Bool.not_true, Bool.not_false, Bool.false_eq_true, Bool.not_eq_true, n10, n20, n21, n30, n31, n32, n40, n41, n42, n43, ↓reduceIte]⟩
    · have cq : (decide ((y < 1) ∨ (¬ (0 ≤ w ∧ w ≤ 3)))) = false := decide_eq_false (by omega)
      have cb : onS (decide ((y < 1) ∨ (¬ (0 ≤ w ∧ w ≤ 3)))) n s (ans (orZ (σ s.toNat) y w)) = if 0 ≤ s ∧ s < n then (ans (orZ (σ s.toNat) y w)) else (2, -1) := if_neg (by rw [cq]; decide)
      rw [cb]
      by_cases c : 0 ≤ s ∧ s < n
      · rw [if_pos c]
        obtain ⟨hl, hW⟩ := hM.2.2 s.toNat (by omega)
        rw [Int.toNat_of_nonneg c.1] at hl
        have hz := szS_b hW
        have eS := fun Q => m_isS1 (L := L) (Q := Q) hM c
        obtain ⟨G2, hl2, ha, h12, h20, lk2, tr, eN⟩ := m_now (L := L) hm (show 0 ≤ s ∧ s ≤ 4 by omega) hl hW
        have hs4 : 0 ≤ s ∧ s ≤ 4 := by omega
        have w5 := WF_5 hW
        have w3 := hW.2.2.2.1
        have hl1 := SL_i (y := 0) hl
        have eb : bI (0 ≤ w ∧ w ≤ 3) = 1 := bI_p c1
        by_cases zr : y ≤ σ s.toNat 4
        · have hy4 : 1 ≤ y ∧ y ≤ σ s.toNat 4 := by omega
          have wb := whZ_b hW hy4
          have eR : ∀ Q, RK MX10_isRound 0 [.ref m, .int (zi s), .int (zi y)] [] (0, 0) (E, zg G, zk L, r) Q = Q (E, zg G, zk L, r) (.int (zi 1)) := fun Q => by rw [m_isRound hm hs4 hl hW hy, bI_p hy4]
          unfold orZ
          rw [if_pos hy4]
          by_cases z0 : w = 0
          · have gb := (hW.2.2.2.2.2.2.2.2.2.2.1 y.toNat (by omega) (by omega)).2
            have et : (1222 + y).toNat = 1222 + y.toNat := by omega
            rw [if_pos z0, ans_y (by omega)]
            refine ⟨iG G m 0, lkM_i, iG_0, fun Q => ?_⟩
            subst z0
            simp (disch := first | assumption | exact c2_int _ | exact c2_ref _ | exact c2_jk | exact c2_null | omega | exact bI_r _ | exact bI_01 _) only [↓fX10_told_0, ↓fX10_told_1, ↓fX10_told_2, ↓fX10_told_3, ↓fX10_told_4, ↓fX10_told_7, ↓fX10_told_10, ↓fX10_told_13, ↓fX10_told_14, ↓fX10_told_15, ↓fX10_told_18, ↓fX10_told_19, ↓fX10_told_22, ↓fX10_told_23, ↓fX10_told_24, ↓fX10_told_27, ↓fX10_told_30, ↓fX10_told_31, ↓fX10_told_34, ↓fX10_told_35, ↓fX10_told_36, ↓fX10_told_37, ↓fX10_told_40, ↓fX10_told_43, ↓fX10_told_44, ↓fX10_told_47, ↓fX10_told_48, ↓fX10_told_51, ↓fX10_told_54, ↓fX10_told_55, ↓fX10_told_56, ↓fX10_told_57, ↓fX10_told_60, ↓fX10_told_61, ↓fX10_told_62, ↓fX10_told_65, ↓fX10_told_66, ↓fX10_told_67, ↓fX10_told_70, ↓fX10_told_71, ↓fX10_told_72, ↓fX10_told_73, ↓fX10_told_76, ↓fX10_told_77, ↓fX10_told_78, ↓fX10_told_79, ↓fX10_told_80, ↓fX10_told_81, ↓fX10_told_84, ↓fX10_told_85, ↓fX10_told_88, ↓fX10_told_89, ↓fX10_told_92, ↓fX10_told_93, ↓fX10_told_94, ↓fX10_told_95, ↓fX10_told_96, ↓fX10_told_97, ↓fX10_told_98, ↓fX10_told_101, ↓fX10_told_102, ↓fX10_told_105, ↓fX10_told_106, ↓fX10_told_109, ↓m_isIn, bI_0, ↓eS, ↓m_is0, eb, ↓eR, ↓m_of, et, c1, c2, and_self, true_and, and_true, false_and, and_false, not_true_eq_false, not_false_eq_true, or_self, true_or, or_true, false_or, or_false, ite_not, Decidable.not_not, decide_eq_true_eq, Bool.not_true, Bool.not_false, Bool.false_eq_true, Bool.not_eq_true, n10, n20, n21, n30, n31, n32, n40, n41, n42, n43, ↓reduceIte]
          · rw [if_neg z0]
            by_cases z1 : w = 1
            · have lp := fun Q => m_struck0_loop (L := L) (Q := Q) (G := iG G m 0) hm hs4 hl1 hW hy4 600 0 0 (by omega) (by omega) (by omega) (by omega) (by omega)
              rw [go_pa hW (by omega)] at lp
              have pb : 0 ≤ paZ (σ s.toNat) (σ s.toNat 3 - 1) (whZ (σ s.toNat) y) - paZ (σ s.toNat) (σ s.toNat 3 - 1) (whZ (σ s.toNat) y + 1) := by rw [← go_pa hW (by omega)]; exact (cnL_b _ _ _ _ _).1
              rw [if_pos z1, ans_y pb]
              have st0 : ∀ Q, RK MX10_struckBy 0 [.ref m, .int (zi s), .int (zi y), .int (zi 0), jk, jk] [] (0, 0) (E, zg (iG G m 0), zk L, r) Q = _ := fun Q => by
                simp (disch := first | assumption | exact c2_int _ | exact c2_ref _ | exact c2_jk | exact c2_null | omega | exact bI_r _ | exact bI_01 _) only [↓fX10_struckBy_0, ↓fX10_struckBy_1, ↓fX10_struckBy_3, ↓fX10_struckBy_4, ↓fX10_struckBy_8, ↓fX10_struckBy_9, ↓fX10_struckBy_10, ↓fX10_struckBy_11, ↓fX10_struckBy_14, ↓fX10_struckBy_17, ↓fX10_struckBy_18, ↓fX10_struckBy_19, ↓fX10_struckBy_21, ↓fX10_struckBy_24, ↓fX10_struckBy_25, ↓fX10_struckBy_26, ↓fX10_struckBy_27, ↓fX10_struckBy_30, ↓fX10_struckBy_33, ↓fX10_struckBy_36, ↓fX10_struckBy_37, ↓fX10_struckBy_40, ↓fX10_struckBy_41, ↓fX10_struckBy_42, ↓fX10_struckBy_44, ↓fX10_struckBy_47, ↓fX10_struckBy_48, ↓fX10_struckBy_51, ↓fX10_struckBy_54, ↓fX10_struckBy_57, ↓fX10_struckBy_58, ↓fX10_struckBy_61, ↓fX10_struckBy_62, ↓fX10_struckBy_63, ↓fX10_struckBy_66, ↓fX10_struckBy_69, ↓fX10_struckBy_71]
                exact lp Q
              have n13 : (1 : Int) < 3 := by decide
              have n12 : ¬ (1 : Int) = 2 := by decide
              refine ⟨iG G m 0, lkM_i, iG_0, fun Q => ?_⟩
              subst z1
              simp (disch := first | assumption | exact c2_int _ | exact c2_ref _ | exact c2_jk | exact c2_null | omega | exact bI_r _ | exact bI_01 _) only [↓fX10_told_0, ↓fX10_told_1, ↓fX10_told_2, ↓fX10_told_3, ↓fX10_told_4, ↓fX10_told_7, ↓fX10_told_10, ↓fX10_told_13, ↓fX10_told_14, ↓fX10_told_15, ↓fX10_told_18, ↓fX10_told_19, ↓fX10_told_22, ↓fX10_told_23, ↓fX10_told_24, ↓fX10_told_27, ↓fX10_told_30, ↓fX10_told_31, ↓fX10_told_34, ↓fX10_told_35, ↓fX10_told_36, ↓fX10_told_37, ↓fX10_told_40, ↓fX10_told_43, ↓fX10_told_44, ↓fX10_told_47, ↓fX10_told_48, ↓fX10_told_51, ↓fX10_told_54, ↓fX10_told_55, ↓fX10_told_56, ↓fX10_told_57, ↓fX10_told_60, ↓fX10_told_61, ↓fX10_told_62, ↓fX10_told_65, ↓fX10_told_66, ↓fX10_told_67, ↓fX10_told_70, ↓fX10_told_71, ↓fX10_told_72, ↓fX10_told_73, ↓fX10_told_76, ↓fX10_told_77, ↓fX10_told_78, ↓fX10_told_79, ↓fX10_told_80, ↓fX10_told_81, ↓fX10_told_84, ↓fX10_told_85, ↓fX10_told_88, ↓fX10_told_89, ↓fX10_told_92, ↓fX10_told_93, ↓fX10_told_94, ↓fX10_told_95, ↓fX10_told_96, ↓fX10_told_97, ↓fX10_told_98, ↓fX10_told_101, ↓fX10_told_102, ↓fX10_told_105, ↓fX10_told_106, ↓fX10_told_109, ↓m_isIn, bI_0, ↓eS, ↓m_is0, eb, ↓eR, ↓st0, n13, n12, c1, c2, and_self, true_and, and_true, false_and, and_false, not_true_eq_false, not_false_eq_true, or_self, true_or, or_true, false_or, or_false, ite_not, Decidable.not_not, decide_eq_true_eq, Bool.not_true, Bool.not_false, Bool.false_eq_true, Bool.not_eq_true, n10, n20, n21, n30, n31, n32, n40, n41, n42, n43, ↓reduceIte]
            · rw [if_neg z1]
              by_cases z2 : w = 2
              · have lp := fun Q => m_struck1_loop (L := L) (Q := Q) (G := iG G m 0) (l4 := jk) hm hs4 hl1 hW hy4 600 0 0 (by omega) (by omega) (by omega)
                rw [sk_fs hW (by omega)] at lp
                rw [if_pos z2]
                have st0 : ∀ Q, RK MX10_struckBy 0 [.ref m, .int (zi s), .int (zi y), .int (zi 1), jk, jk] [] (0, 0) (E, zg (iG G m 0), zk L, r) Q = _ := fun Q => by
                  simp (disch := first | assumption | exact c2_int _ | exact c2_ref _ | exact c2_jk | exact c2_null | omega | exact bI_r _ | exact bI_01 _) only [↓fX10_struckBy_0, ↓fX10_struckBy_1, ↓fX10_struckBy_3, ↓fX10_struckBy_4, ↓fX10_struckBy_8, ↓fX10_struckBy_9, ↓fX10_struckBy_10, ↓fX10_struckBy_11, ↓fX10_struckBy_14, ↓fX10_struckBy_17, ↓fX10_struckBy_18, ↓fX10_struckBy_19, ↓fX10_struckBy_21, ↓fX10_struckBy_24, ↓fX10_struckBy_25, ↓fX10_struckBy_26, ↓fX10_struckBy_27, ↓fX10_struckBy_30, ↓fX10_struckBy_33, ↓fX10_struckBy_36, ↓fX10_struckBy_37, ↓fX10_struckBy_40, ↓fX10_struckBy_41, ↓fX10_struckBy_42, ↓fX10_struckBy_44, ↓fX10_struckBy_47, ↓fX10_struckBy_48, ↓fX10_struckBy_51, ↓fX10_struckBy_54, ↓fX10_struckBy_57, ↓fX10_struckBy_58, ↓fX10_struckBy_61, ↓fX10_struckBy_62, ↓fX10_struckBy_63, ↓fX10_struckBy_66, ↓fX10_struckBy_69, ↓fX10_struckBy_71]
                  exact lp Q
                have n23 : (2 : Int) < 3 := by decide
                refine ⟨rfG (iG G m 0) m (fsZ (σ s.toNat) (whZ (σ s.toNat) y)), (lkM_i.trans rfG_lk), (rfG_st iG_0), fun Q => ?_⟩
                subst z2
                simp (disch := first | assumption | exact c2_int _ | exact c2_ref _ | exact c2_jk | exact c2_null | omega | exact bI_r _ | exact bI_01 _) only [↓fX10_told_0, ↓fX10_told_1, ↓fX10_told_2, ↓fX10_told_3, ↓fX10_told_4, ↓fX10_told_7, ↓fX10_told_10, ↓fX10_told_13, ↓fX10_told_14, ↓fX10_told_15, ↓fX10_told_18, ↓fX10_told_19, ↓fX10_told_22, ↓fX10_told_23, ↓fX10_told_24, ↓fX10_told_27, ↓fX10_told_30, ↓fX10_told_31, ↓fX10_told_34, ↓fX10_told_35, ↓fX10_told_36, ↓fX10_told_37, ↓fX10_told_40, ↓fX10_told_43, ↓fX10_told_44, ↓fX10_told_47, ↓fX10_told_48, ↓fX10_told_51, ↓fX10_told_54, ↓fX10_told_55, ↓fX10_told_56, ↓fX10_told_57, ↓fX10_told_60, ↓fX10_told_61, ↓fX10_told_62, ↓fX10_told_65, ↓fX10_told_66, ↓fX10_told_67, ↓fX10_told_70, ↓fX10_told_71, ↓fX10_told_72, ↓fX10_told_73, ↓fX10_told_76, ↓fX10_told_77, ↓fX10_told_78, ↓fX10_told_79, ↓fX10_told_80, ↓fX10_told_81, ↓fX10_told_84, ↓fX10_told_85, ↓fX10_told_88, ↓fX10_told_89, ↓fX10_told_92, ↓fX10_told_93, ↓fX10_told_94, ↓fX10_told_95, ↓fX10_told_96, ↓fX10_told_97, ↓fX10_told_98, ↓fX10_told_101, ↓fX10_told_102, ↓fX10_told_105, ↓fX10_told_106, ↓fX10_told_109, ↓m_isIn, bI_0, ↓eS, ↓m_is0, eb, ↓eR, ↓st0, n23, c1, c2, and_self, true_and, and_true, false_and, and_false, not_true_eq_false, not_false_eq_true, or_self, true_or, or_true, false_or, or_false, ite_not, Decidable.not_not, decide_eq_true_eq, Bool.not_true, Bool.not_false, Bool.false_eq_true, Bool.not_eq_true, n10, n20, n21, n30, n31, n32, n40, n41, n42, n43, ↓reduceIte]
                rfl
              · rw [if_neg z2]
                have z3 : w = 3 := by omega
                obtain ⟨G3, k3, a3, e3⟩ := m_layT (L := L) (G := iG G m 0) (t := whZ (σ s.toNat) y) (b := 1) hm hs4 hl1 hW (by omega) (Or.inr rfl)
                have e12 : G3 m 12 = paZ (σ s.toNat) (σ s.toNat 3 - 1) (whZ (σ s.toNat) y + 1) := by
                  rw [a3.1]
                  unfold paZ
                  rw [Int.sub_add_cancel]
                have pb := paZ_b (σ s.toNat) (σ s.toNat 3 - 1) (whZ (σ s.toNat) y + 1)
                rw [ans_y pb.1]
                have n33 : ¬ (3 : Int) < 3 := by decide
                refine ⟨G3, (lkM_i.trans k3.2.2), (k3.2.1.trans iG_0), fun Q => ?_⟩
                subst z3
                simp (disch := first | assumption | exact c2_int _ | exact c2_ref _ | exact c2_jk | exact c2_null | omega | exact bI_r _ | exact bI_01 _) only [↓fX10_told_0, ↓fX10_told_1, ↓fX10_told_2, ↓fX10_told_3, ↓fX10_told_4, ↓fX10_told_7, ↓fX10_told_10, ↓fX10_told_13, ↓fX10_told_14, ↓fX10_told_15, ↓fX10_told_18, ↓fX10_told_19, ↓fX10_told_22, ↓fX10_told_23, ↓fX10_told_24, ↓fX10_told_27, ↓fX10_told_30, ↓fX10_told_31, ↓fX10_told_34, ↓fX10_told_35, ↓fX10_told_36, ↓fX10_told_37, ↓fX10_told_40, ↓fX10_told_43, ↓fX10_told_44, ↓fX10_told_47, ↓fX10_told_48, ↓fX10_told_51, ↓fX10_told_54, ↓fX10_told_55, ↓fX10_told_56, ↓fX10_told_57, ↓fX10_told_60, ↓fX10_told_61, ↓fX10_told_62, ↓fX10_told_65, ↓fX10_told_66, ↓fX10_told_67, ↓fX10_told_70, ↓fX10_told_71, ↓fX10_told_72, ↓fX10_told_73, ↓fX10_told_76, ↓fX10_told_77, ↓fX10_told_78, ↓fX10_told_79, ↓fX10_told_80, ↓fX10_told_81, ↓fX10_told_84, ↓fX10_told_85, ↓fX10_told_88, ↓fX10_told_89, ↓fX10_told_92, ↓fX10_told_93, ↓fX10_told_94, ↓fX10_told_95, ↓fX10_told_96, ↓fX10_told_97, ↓fX10_told_98, ↓fX10_told_101, ↓fX10_told_102, ↓fX10_told_105, ↓fX10_told_106, ↓fX10_told_109, ↓m_isIn, bI_0, ↓eS, ↓m_is0, eb, ↓eR, ↓m_when, ↓e3, e12, n33, c1, c2, and_self, true_and, and_true, false_and, and_false, not_true_eq_false, not_false_eq_true, or_self, true_or, or_true, false_or, or_false, ite_not, Decidable.not_not, decide_eq_true_eq, Bool.not_true, Bool.not_false, Bool.false_eq_true, Bool.not_eq_true, n10, n20, n21, n30, n31, n32, n40, n41, n42, n43, ↓reduceIte]
        · have hn : ¬ (1 ≤ y ∧ y ≤ σ s.toNat 4) := by omega
          have eR : ∀ Q, RK MX10_isRound 0 [.ref m, .int (zi s), .int (zi y)] [] (0, 0) (E, zg G, zk L, r) Q = Q (E, zg G, zk L, r) (.int (zi 0)) := fun Q => by rw [m_isRound hm hs4 hl hW hy, bI_n hn]
          have eo : orZ (σ s.toNat) y w = -1 := if_neg hn
          rw [eo, ans_n]
          refine ⟨iG G m 5, lkM_i, iG_0, fun Q => ?_⟩
          simp (disch := first | assumption | exact c2_int _ | exact c2_ref _ | exact c2_jk | exact c2_null | omega | exact bI_r _ | exact bI_01 _) only [↓fX10_told_0, ↓fX10_told_1, ↓fX10_told_2, ↓fX10_told_3, ↓fX10_told_4, ↓fX10_told_7, ↓fX10_told_10, ↓fX10_told_13, ↓fX10_told_14, ↓fX10_told_15, ↓fX10_told_18, ↓fX10_told_19, ↓fX10_told_22, ↓fX10_told_23, ↓fX10_told_24, ↓fX10_told_27, ↓fX10_told_30, ↓fX10_told_31, ↓fX10_told_34, ↓fX10_told_35, ↓fX10_told_36, ↓fX10_told_37, ↓fX10_told_40, ↓fX10_told_43, ↓fX10_told_44, ↓fX10_told_47, ↓fX10_told_48, ↓fX10_told_51, ↓fX10_told_54, ↓fX10_told_55, ↓fX10_told_56, ↓fX10_told_57, ↓fX10_told_60, ↓fX10_told_61, ↓fX10_told_62, ↓fX10_told_65, ↓fX10_told_66, ↓fX10_told_67, ↓fX10_told_70, ↓fX10_told_71, ↓fX10_told_72, ↓fX10_told_73, ↓fX10_told_76, ↓fX10_told_77, ↓fX10_told_78, ↓fX10_told_79, ↓fX10_told_80, ↓fX10_told_81, ↓fX10_told_84, ↓fX10_told_85, ↓fX10_told_88, ↓fX10_told_89, ↓fX10_told_92, ↓fX10_told_93, ↓fX10_told_94, ↓fX10_told_95, ↓fX10_told_96, ↓fX10_told_97, ↓fX10_told_98, ↓fX10_told_101, ↓fX10_told_102, ↓fX10_told_105, ↓fX10_told_106, ↓fX10_told_109, ↓m_isIn, bI_0, ↓eS, ↓m_isN, eb, ↓eR, c1, c2, and_self, true_and, and_true, false_and, and_false, not_true_eq_false, not_false_eq_true, or_self, true_or, or_true, false_or, or_false, ite_not, Decidable.not_not, decide_eq_true_eq, Bool.not_true, Bool.not_false, Bool.false_eq_true, Bool.not_eq_true, n10, n20, n21, n30, n31, n32, n40, n41, n42, n43, ↓reduceIte]
      · rw [if_neg c]
        have eS := fun Q => m_isS0 (L := L) (Q := Q) hM hs c
        exact ⟨iG G m 2, lkM_i, iG_0, fun Q => by simp (disch := first | assumption | exact c2_int _ | exact c2_ref _ | exact c2_jk | exact c2_null | omega | exact bI_r _ | exact bI_01 _) only [↓fX10_told_0, ↓fX10_told_1, ↓fX10_told_2, ↓fX10_told_3, ↓fX10_told_4, ↓fX10_told_7, ↓fX10_told_10, ↓fX10_told_13, ↓fX10_told_14, ↓fX10_told_15, ↓fX10_told_18, ↓fX10_told_19, ↓fX10_told_22, ↓fX10_told_23, ↓fX10_told_24, ↓fX10_told_27, ↓fX10_told_30, ↓fX10_told_31, ↓fX10_told_34, ↓fX10_told_35, ↓fX10_told_36, ↓fX10_told_37, ↓fX10_told_40, ↓fX10_told_43, ↓fX10_told_44, ↓fX10_told_47, ↓fX10_told_48, ↓fX10_told_51, ↓fX10_told_54, ↓fX10_told_55, ↓fX10_told_56, ↓fX10_told_57, ↓fX10_told_60, ↓fX10_told_61, ↓fX10_told_62, ↓fX10_told_65, ↓fX10_told_66, ↓fX10_told_67, ↓fX10_told_70, ↓fX10_told_71, ↓fX10_told_72, ↓fX10_told_73, ↓fX10_told_76, ↓fX10_told_77, ↓fX10_told_78, ↓fX10_told_79, ↓fX10_told_80, ↓fX10_told_81, ↓fX10_told_84, ↓fX10_told_85, ↓fX10_told_88, ↓fX10_told_89, ↓fX10_told_92, ↓fX10_told_93, ↓fX10_told_94, ↓fX10_told_95, ↓fX10_told_96, ↓fX10_told_97, ↓fX10_told_98, ↓fX10_told_101, ↓fX10_told_102, ↓fX10_told_105, ↓fX10_told_106, ↓fX10_told_109, ↓m_isIn, bI_0, ↓eS, ↓m_isN, c1, c2, and_self, true_and, and_true, false_and, and_false, not_true_eq_false, not_false_eq_true, or_self, true_or, or_true, false_or, or_false, ite_not, Decidable.not_not, decide_eq_true_eq, Bool.not_true, Bool.not_false, Bool.false_eq_true, Bool.not_eq_true, n10, n20, n21, n30, n31, n32, n40, n41, n42, n43, ↓reduceIte]⟩
theorem y_fate (hM : MD E r G m n σ) (hs : I32 s) (hx' : I32 x) (hw : I32 w) : ∃ G', lkM G G' m ∧ G' m 0 = (onS (decide ((¬ (0 ≤ w ∧ w ≤ 1)))) n s (ans (osZ (σ s.toNat) x w))).1 ∧ ∀ Q, RK MX10_fate 0 [.ref m, .int (zi s), .int (zi x), .int (zi w), jk] [] (0, 0) (E, zg G, zk L, r) Q = Q (E, zg G', zk L, r) (.int (zi (onS (decide ((¬ (0 ≤ w ∧ w ≤ 1)))) n s (ans (osZ (σ s.toNat) x w))).2)) := by
  have hm := hM.1
  have m0 := hm.1
  have h6 := hM.2.1
  by_cases c1 : ¬ (0 ≤ w ∧ w ≤ 1)
  · have cb : onS (decide ((¬ (0 ≤ w ∧ w ≤ 1)))) n s (ans (osZ (σ s.toNat) x w)) = (1, -1) := if_pos (decide_eq_true (by omega))
    rw [cb]
    exact ⟨iG G m 1, lkM_i, iG_0, fun Q => by simp (disch := first | assumption | exact c2_int _ | exact c2_ref _ | exact c2_jk | exact c2_null | omega | exact bI_r _ | exact bI_01 _) only [↓fX10_fate_0, ↓fX10_fate_1, ↓fX10_fate_2, ↓fX10_fate_3, ↓fX10_fate_4, ↓fX10_fate_5, ↓fX10_fate_8, ↓fX10_fate_11, ↓fX10_fate_12, ↓fX10_fate_15, ↓fX10_fate_16, ↓fX10_fate_17, ↓fX10_fate_20, ↓fX10_fate_23, ↓fX10_fate_24, ↓fX10_fate_27, ↓fX10_fate_28, ↓fX10_fate_31, ↓fX10_fate_34, ↓fX10_fate_35, ↓fX10_fate_36, ↓fX10_fate_37, ↓fX10_fate_38, ↓fX10_fate_39, ↓fX10_fate_42, ↓fX10_fate_44, ↓fX10_fate_46, ↓fX10_fate_49, ↓fX10_fate_50, ↓fX10_fate_51, ↓fX10_fate_53, ↓fX10_fate_56, ↓fX10_fate_59, ↓fX10_fate_60, ↓fX10_fate_61, ↓fX10_fate_64, ↓fX10_fate_65, ↓fX10_fate_66, ↓fX10_fate_69, ↓fX10_fate_70, ↓fX10_fate_71, ↓fX10_fate_72, ↓fX10_fate_73, ↓fX10_fate_75, ↓fX10_fate_78, ↓fX10_fate_81, ↓fX10_fate_82, ↓fX10_fate_83, ↓fX10_fate_84, ↓fX10_fate_85, ↓fX10_fate_86, ↓fX10_fate_88, ↓fX10_fate_91, ↓fX10_fate_92, ↓fX10_fate_95, ↓fX10_fate_96, ↓fX10_fate_97, ↓fX10_fate_99, ↓fX10_fate_102, ↓m_isIn, bI_0, ↓m_isN, c1, and_self, true_and, and_true, false_and, and_false, not_true_eq_false, not_false_eq_true, or_self, true_or, or_true, false_or, or_false, ite_not, Decidable.not_not, decide_eq_true_eq, Bool.not_true, Bool.not_false, Bool.false_eq_true, Bool.not_eq_true, n10, n20, n21, n30, n31, n32, n40, n41, n42, n43, ↓reduceIte]⟩
  · have c1 := Decidable.not_not.mp c1
    have cq : (decide ((¬ (0 ≤ w ∧ w ≤ 1)))) = false := decide_eq_false (by omega)
    have cb : onS (decide ((¬ (0 ≤ w ∧ w ≤ 1)))) n s (ans (osZ (σ s.toNat) x w)) = if 0 ≤ s ∧ s < n then (ans (osZ (σ s.toNat) x w)) else (2, -1) := if_neg (by rw [cq]; decide)
    rw [cb]
    by_cases c : 0 ≤ s ∧ s < n
    · rw [if_pos c]
      obtain ⟨hl, hW⟩ := hM.2.2 s.toNat (by omega)
      rw [Int.toNat_of_nonneg c.1] at hl
      have hz := szS_b hW
      have eS := fun Q => m_isS1 (L := L) (Q := Q) hM c
      obtain ⟨G2, hl2, ha, h12, h20, lk2, tr, eN⟩ := m_now (L := L) hm (show 0 ≤ s ∧ s ≤ 4 by omega) hl hW
      have hs4 : 0 ≤ s ∧ s ≤ 4 := by omega
      have w5 := WF_5 hW
      have w3 := hW.2.2.2.1
      have hl1 := SL_i (y := 0) hl
      have eb : bI (0 ≤ w ∧ w ≤ 1) = 1 := bI_p c1
      have ib := iXS_b hW x
      by_cases zi0 : iXS (σ s.toNat) x = -1
      · have eo : osZ (σ s.toNat) x w = -1 := if_pos (Or.inl zi0)
        have zn : iXS (σ s.toNat) x < 0 := by omega
        rw [eo, ans_n]
        refine ⟨u2 (iG G m 0) m 0 5, lkM_i.trans lkM_0, u2_s _ _ _ _, fun Q => ?_⟩
        simp (disch := first | assumption | exact c2_int _ | exact c2_ref _ | exact c2_jk | exact c2_null | omega | exact bI_r _ | exact bI_01 _) only [↓fX10_fate_0, ↓fX10_fate_1, ↓fX10_fate_2, ↓fX10_fate_3, ↓fX10_fate_4, ↓fX10_fate_5, ↓fX10_fate_8, ↓fX10_fate_11, ↓fX10_fate_12, ↓fX10_fate_15, ↓fX10_fate_16, ↓fX10_fate_17, ↓fX10_fate_20, ↓fX10_fate_23, ↓fX10_fate_24, ↓fX10_fate_27, ↓fX10_fate_28, ↓fX10_fate_31, ↓fX10_fate_34, ↓fX10_fate_35, ↓fX10_fate_36, ↓fX10_fate_37, ↓fX10_fate_38, ↓fX10_fate_39, ↓fX10_fate_42, ↓fX10_fate_44, ↓fX10_fate_46, ↓fX10_fate_49, ↓fX10_fate_50, ↓fX10_fate_51, ↓fX10_fate_53, ↓fX10_fate_56, ↓fX10_fate_59, ↓fX10_fate_60, ↓fX10_fate_61, ↓fX10_fate_64, ↓fX10_fate_65, ↓fX10_fate_66, ↓fX10_fate_69, ↓fX10_fate_70, ↓fX10_fate_71, ↓fX10_fate_72, ↓fX10_fate_73, ↓fX10_fate_75, ↓fX10_fate_78, ↓fX10_fate_81, ↓fX10_fate_82, ↓fX10_fate_83, ↓fX10_fate_84, ↓fX10_fate_85, ↓fX10_fate_86, ↓fX10_fate_88, ↓fX10_fate_91, ↓fX10_fate_92, ↓fX10_fate_95, ↓fX10_fate_96, ↓fX10_fate_97, ↓fX10_fate_99, ↓fX10_fate_102, ↓m_isIn, bI_0, ↓eS, ↓m_is0, eb, ↓m_indexOf, ↓m_refuse, zn, c1, and_self, true_and, and_true, false_and, and_false, not_true_eq_false, not_false_eq_true, or_self, true_or, or_true, false_or, or_false, ite_not, Decidable.not_not, decide_eq_true_eq, Bool.not_true, Bool.not_false, Bool.false_eq_true, Bool.not_eq_true, n10, n20, n21, n30, n31, n32, n40, n41, n42, n43, ↓reduceIte]
      · have zn : ¬ iXS (σ s.toNat) x < 0 := by omega
        have w9 := hW.2.2.2.2.2.2.2.2.2.1 (iXS (σ s.toNat) x).toNat (by omega)
        by_cases zg0 : σ s.toNat (20 + (iXS (σ s.toNat) x).toNat) = 0
        · have eo : osZ (σ s.toNat) x w = -1 := if_pos (Or.inr (decide_eq_true zg0))
          rw [eo, ans_n]
          refine ⟨u2 (iG G m 0) m 0 5, lkM_i.trans lkM_0, u2_s _ _ _ _, fun Q => ?_⟩
          simp (disch := first | assumption | exact c2_int _ | exact c2_ref _ | exact c2_jk | exact c2_null | omega | exact bI_r _ | exact bI_01 _) only [↓fX10_fate_0, ↓fX10_fate_1, ↓fX10_fate_2, ↓fX10_fate_3, ↓fX10_fate_4, ↓fX10_fate_5, ↓fX10_fate_8, ↓fX10_fate_11, ↓fX10_fate_12, ↓fX10_fate_15, ↓fX10_fate_16, ↓fX10_fate_17, ↓fX10_fate_20, ↓fX10_fate_23, ↓fX10_fate_24, ↓fX10_fate_27, ↓fX10_fate_28, ↓fX10_fate_31, ↓fX10_fate_34, ↓fX10_fate_35, ↓fX10_fate_36, ↓fX10_fate_37, ↓fX10_fate_38, ↓fX10_fate_39, ↓fX10_fate_42, ↓fX10_fate_44, ↓fX10_fate_46, ↓fX10_fate_49, ↓fX10_fate_50, ↓fX10_fate_51, ↓fX10_fate_53, ↓fX10_fate_56, ↓fX10_fate_59, ↓fX10_fate_60, ↓fX10_fate_61, ↓fX10_fate_64, ↓fX10_fate_65, ↓fX10_fate_66, ↓fX10_fate_69, ↓fX10_fate_70, ↓fX10_fate_71, ↓fX10_fate_72, ↓fX10_fate_73, ↓fX10_fate_75, ↓fX10_fate_78, ↓fX10_fate_81, ↓fX10_fate_82, ↓fX10_fate_83, ↓fX10_fate_84, ↓fX10_fate_85, ↓fX10_fate_86, ↓fX10_fate_88, ↓fX10_fate_91, ↓fX10_fate_92, ↓fX10_fate_95, ↓fX10_fate_96, ↓fX10_fate_97, ↓fX10_fate_99, ↓fX10_fate_102, ↓m_isIn, bI_0, ↓eS, ↓m_is0, eb, ↓m_indexOf, ↓m_refuse, ↓m_goneAt, zn, zg0, c1, and_self, true_and, and_true, false_and, and_false, not_true_eq_false, not_false_eq_true, or_self, true_or, or_true, false_or, or_false, ite_not, Decidable.not_not, decide_eq_true_eq, Bool.not_true, Bool.not_false, Bool.false_eq_true, Bool.not_eq_true, n10, n20, n21, n30, n31, n32, n40, n41, n42, n43, ↓reduceIte]
        · have hh : ¬ (iXS (σ s.toNat) x = -1 ∨ hbS (σ s.toNat) (iXS (σ s.toNat) x) = true) := fun q => by
            rcases q with q | q
            · exact zi0 q
            · exact zg0 (of_decide_eq_true q)
          have es : skZ (σ s.toNat) (iXS (σ s.toNat) x) = σ s.toNat (20 + (iXS (σ s.toNat) x).toNat) := if_neg zg0
          unfold osZ
          rw [if_neg hh, es]
          by_cases z0 : w = 0
          · have rb := roZ_b (e := σ s.toNat (20 + (iXS (σ s.toNat) x).toNat)) hW
            rw [if_pos z0, ans_y rb.1]
            refine ⟨iG G m 0, lkM_i, iG_0, fun Q => ?_⟩
            subst z0
            simp (disch := first | assumption | exact c2_int _ | exact c2_ref _ | exact c2_jk | exact c2_null | omega | exact bI_r _ | exact bI_01 _) only [↓fX10_fate_0, ↓fX10_fate_1, ↓fX10_fate_2, ↓fX10_fate_3, ↓fX10_fate_4, ↓fX10_fate_5, ↓fX10_fate_8, ↓fX10_fate_11, ↓fX10_fate_12, ↓fX10_fate_15, ↓fX10_fate_16, ↓fX10_fate_17, ↓fX10_fate_20, ↓fX10_fate_23, ↓fX10_fate_24, ↓fX10_fate_27, ↓fX10_fate_28, ↓fX10_fate_31, ↓fX10_fate_34, ↓fX10_fate_35, ↓fX10_fate_36, ↓fX10_fate_37, ↓fX10_fate_38, ↓fX10_fate_39, ↓fX10_fate_42, ↓fX10_fate_44, ↓fX10_fate_46, ↓fX10_fate_49, ↓fX10_fate_50, ↓fX10_fate_51, ↓fX10_fate_53, ↓fX10_fate_56, ↓fX10_fate_59, ↓fX10_fate_60, ↓fX10_fate_61, ↓fX10_fate_64, ↓fX10_fate_65, ↓fX10_fate_66, ↓fX10_fate_69, ↓fX10_fate_70, ↓fX10_fate_71, ↓fX10_fate_72, ↓fX10_fate_73, ↓fX10_fate_75, ↓fX10_fate_78, ↓fX10_fate_81, ↓fX10_fate_82, ↓fX10_fate_83, ↓fX10_fate_84, ↓fX10_fate_85, ↓fX10_fate_86, ↓fX10_fate_88, ↓fX10_fate_91, ↓fX10_fate_92, ↓fX10_fate_95, ↓fX10_fate_96, ↓fX10_fate_97, ↓fX10_fate_99, ↓fX10_fate_102, ↓m_isIn, bI_0, ↓eS, ↓m_is0, eb, ↓m_indexOf, ↓m_goneAt, ↓m_roundAt, zn, zg0, c1, and_self, true_and, and_true, false_and, and_false, not_true_eq_false, not_false_eq_true, or_self, true_or, or_true, false_or, or_false, ite_not, Decidable.not_not, decide_eq_true_eq, Bool.not_true, Bool.not_false, Bool.false_eq_true, Bool.not_eq_true, n10, n20, n21, n30, n31, n32, n40, n41, n42, n43, ↓reduceIte]
          · obtain ⟨G3, k3, a3, e3⟩ := m_layT (L := L) (G := iG G m 0) (t := σ s.toNat (20 + (iXS (σ s.toNat) x).toNat)) (b := 0) hm hs4 hl1 hW (by omega) (Or.inl rfl)
            rw [Int.add_zero] at a3
            have pl := fun Q => m_placeOf (L := L) (Q := Q) (s := s) (i := iXS (σ s.toNat) x) hm a3 (by omega) ⟨by omega, by omega⟩ (by omega)
            rw [pl_pa (by omega) (decide_eq_true (by rw [es]; exact Int.le_refl _))] at pl
            have pb := paZ_b (σ s.toNat) (iXS (σ s.toNat) x) (σ s.toNat (20 + (iXS (σ s.toNat) x).toNat))
            rw [if_neg z0, ans_y pb.1]
            refine ⟨G3, lkM_i.trans k3.2.2, k3.2.1.trans iG_0, fun Q => ?_⟩
            simp (disch := first | assumption | exact c2_int _ | exact c2_ref _ | exact c2_jk | exact c2_null | omega | exact bI_r _ | exact bI_01 _) only [↓fX10_fate_0, ↓fX10_fate_1, ↓fX10_fate_2, ↓fX10_fate_3, ↓fX10_fate_4, ↓fX10_fate_5, ↓fX10_fate_8, ↓fX10_fate_11, ↓fX10_fate_12, ↓fX10_fate_15, ↓fX10_fate_16, ↓fX10_fate_17, ↓fX10_fate_20, ↓fX10_fate_23, ↓fX10_fate_24, ↓fX10_fate_27, ↓fX10_fate_28, ↓fX10_fate_31, ↓fX10_fate_34, ↓fX10_fate_35, ↓fX10_fate_36, ↓fX10_fate_37, ↓fX10_fate_38, ↓fX10_fate_39, ↓fX10_fate_42, ↓fX10_fate_44, ↓fX10_fate_46, ↓fX10_fate_49, ↓fX10_fate_50, ↓fX10_fate_51, ↓fX10_fate_53, ↓fX10_fate_56, ↓fX10_fate_59, ↓fX10_fate_60, ↓fX10_fate_61, ↓fX10_fate_64, ↓fX10_fate_65, ↓fX10_fate_66, ↓fX10_fate_69, ↓fX10_fate_70, ↓fX10_fate_71, ↓fX10_fate_72, ↓fX10_fate_73, ↓fX10_fate_75, ↓fX10_fate_78, ↓fX10_fate_81, ↓fX10_fate_82, ↓fX10_fate_83, ↓fX10_fate_84, ↓fX10_fate_85, ↓fX10_fate_86, ↓fX10_fate_88, ↓fX10_fate_91, ↓fX10_fate_92, ↓fX10_fate_95, ↓fX10_fate_96, ↓fX10_fate_97, ↓fX10_fate_99, ↓fX10_fate_102, ↓m_isIn, bI_0, ↓eS, ↓m_is0, eb, ↓m_indexOf, ↓m_goneAt, ↓e3, ↓pl, zn, zg0, z0, c1, and_self, true_and, and_true, false_and, and_false, not_true_eq_false, not_false_eq_true, or_self, true_or, or_true, false_or, or_false, ite_not, Decidable.not_not, decide_eq_true_eq, Bool.not_true, Bool.not_false, Bool.false_eq_true, Bool.not_eq_true, n10, n20, n21, n30, n31, n32, n40, n41, n42, n43, ↓reduceIte]
    · rw [if_neg c]
      have eS := fun Q => m_isS0 (L := L) (Q := Q) hM hs c
      exact ⟨iG G m 2, lkM_i, iG_0, fun Q => by simp (disch := first | assumption | exact c2_int _ | exact c2_ref _ | exact c2_jk | exact c2_null | omega | exact bI_r _ | exact bI_01 _) only [↓fX10_fate_0, ↓fX10_fate_1, ↓fX10_fate_2, ↓fX10_fate_3, ↓fX10_fate_4, ↓fX10_fate_5, ↓fX10_fate_8, ↓fX10_fate_11, ↓fX10_fate_12, ↓fX10_fate_15, ↓fX10_fate_16, ↓fX10_fate_17, ↓fX10_fate_20, ↓fX10_fate_23, ↓fX10_fate_24, ↓fX10_fate_27, ↓fX10_fate_28, ↓fX10_fate_31, ↓fX10_fate_34, ↓fX10_fate_35, ↓fX10_fate_36, ↓fX10_fate_37, ↓fX10_fate_38, ↓fX10_fate_39, ↓fX10_fate_42, ↓fX10_fate_44, ↓fX10_fate_46, ↓fX10_fate_49, ↓fX10_fate_50, ↓fX10_fate_51, ↓fX10_fate_53, ↓fX10_fate_56, ↓fX10_fate_59, ↓fX10_fate_60, ↓fX10_fate_61, ↓fX10_fate_64, ↓fX10_fate_65, ↓fX10_fate_66, ↓fX10_fate_69, ↓fX10_fate_70, ↓fX10_fate_71, ↓fX10_fate_72, ↓fX10_fate_73, ↓fX10_fate_75, ↓fX10_fate_78, ↓fX10_fate_81, ↓fX10_fate_82, ↓fX10_fate_83, ↓fX10_fate_84, ↓fX10_fate_85, ↓fX10_fate_86, ↓fX10_fate_88, ↓fX10_fate_91, ↓fX10_fate_92, ↓fX10_fate_95, ↓fX10_fate_96, ↓fX10_fate_97, ↓fX10_fate_99, ↓fX10_fate_102, ↓m_isIn, bI_0, ↓eS, ↓m_isN, c1, and_self, true_and, and_true, false_and, and_false, not_true_eq_false, not_false_eq_true, or_self, true_or, or_true, false_or, or_false, ite_not, Decidable.not_not, decide_eq_true_eq, Bool.not_true, Bool.not_false, Bool.false_eq_true, Bool.not_eq_true, n10, n20, n21, n30, n31, n32, n40, n41, n42, n43, ↓reduceIte]⟩
theorem y_back (hM : MD E r G m n σ) (hs : I32 s) (hy : I32 y) (hk : I32 k) : ∃ G', lkM G G' m ∧ G' m 0 = (onS (decide ((y < 1) ∨ (k < 1))) n s (ans (lbZ (σ s.toNat) y y k))).1 ∧ ∀ Q, RK MX10_back 0 [.ref m, .int (zi s), .int (zi y), .int (zi k), jk] [] (0, 0) (E, zg G, zk L, r) Q = Q (E, zg G', zk L, r) (.int (zi (onS (decide ((y < 1) ∨ (k < 1))) n s (ans (lbZ (σ s.toNat) y y k))).2)) := by
  have hm := hM.1
  have m0 := hm.1
  have h6 := hM.2.1
  by_cases c1 : y < 1
  · have cb : onS (decide ((y < 1) ∨ (k < 1))) n s (ans (lbZ (σ s.toNat) y y k)) = (1, -1) := if_pos (decide_eq_true (by omega))
    rw [cb]
    exact ⟨iG G m 1, lkM_i, iG_0, fun Q => by simp (disch := first | assumption | exact c2_int _ | exact c2_ref _ | exact c2_jk | exact c2_null | omega | exact bI_r _ | exact bI_01 _) only [↓fX10_back_0, ↓fX10_back_1, ↓fX10_back_2, ↓fX10_back_3, ↓fX10_back_4, ↓fX10_back_5, ↓fX10_back_8, ↓fX10_back_9, ↓fX10_back_10, ↓fX10_back_13, ↓fX10_back_14, ↓fX10_back_17, ↓fX10_back_18, ↓fX10_back_21, ↓fX10_back_24, ↓fX10_back_27, ↓fX10_back_28, ↓fX10_back_29, ↓fX10_back_30, ↓fX10_back_31, ↓fX10_back_32, ↓fX10_back_35, ↓fX10_back_38, ↓fX10_back_39, ↓fX10_back_40, ↓fX10_back_43, ↓fX10_back_44, ↓fX10_back_45, ↓fX10_back_46, ↓fX10_back_47, ↓fX10_back_48, ↓fX10_back_49, ↓fX10_back_52, ↓fX10_back_53, ↓fX10_back_56, ↓fX10_back_57, ↓fX10_back_58, ↓fX10_back_61, ↓fX10_back_64, ↓fX10_back_65, ↓fX10_back_66, ↓fX10_back_69, ↓fX10_back_70, ↓fX10_back_71, ↓fX10_back_74, ↓fX10_back_75, ↓fX10_back_76, ↓fX10_back_77, ↓fX10_back_78, ↓fX10_back_80, ↓fX10_back_81, ↓fX10_back_82, ↓fX10_back_83, ↓fX10_back_84, ↓fX10_back_85, ↓fX10_back_88, ↓fX10_back_89, ↓fX10_back_92, ↓fX10_back_93, ↓fX10_back_94, ↓fX10_back_96, ↓fX10_back_99, ↓fX10_whyPlace_0, ↓fX10_whyPlace_1, ↓fX10_whyPlace_4, ↓fX10_whyPlace_5, ↓fX10_whyPlace_8, ↓fX10_whyPlace_9, ↓fX10_whyPlace_10, ↓fX10_whyPlace_13, ↓fX10_whyPlace_16, ↓fX10_whyPlace_17, ↓fX10_whyPlace_20, ↓fX10_whyPlace_21, ↓m_isIn, bI_0, ↓m_isN, c1, and_self, true_and, and_true, false_and, and_false, not_true_eq_false, not_false_eq_true, or_self, true_or, or_true, false_or, or_false, ite_not, Decidable.not_not, decide_eq_true_eq, Bool.not_true, Bool.not_false, Bool.false_eq_true, Bool.not_eq_true, n10, n20, n21, n30, n31, n32, n40, n41, n42, n43, ↓reduceIte]⟩
  · by_cases c2 : k < 1
    · have cb : onS (decide ((y < 1) ∨ (k < 1))) n s (ans (lbZ (σ s.toNat) y y k)) = (1, -1) := if_pos (decide_eq_true (by omega))
      rw [cb]
      exact ⟨iG G m 1, lkM_i, iG_0, fun Q => by simp (disch := first | assumption | exact c2_int _ | exact c2_ref _ | exact c2_jk | exact c2_null | omega | exact bI_r _ | exact bI_01 _) only [↓fX10_back_0, ↓fX10_back_1, ↓fX10_back_2, ↓fX10_back_3, ↓fX10_back_4, ↓fX10_back_5, ↓fX10_back_8, ↓fX10_back_9, ↓fX10_back_10, ↓fX10_back_13, ↓fX10_back_14, ↓fX10_back_17, ↓fX10_back_18, ↓fX10_back_21, ↓fX10_back_24, ↓fX10_back_27, ↓fX10_back_28, ↓fX10_back_29, ↓fX10_back_30, ↓fX10_back_31, ↓fX10_back_32, ↓fX10_back_35, ↓fX10_back_38, ↓fX10_back_39, ↓fX10_back_40, ↓fX10_back_43, ↓fX10_back_44, ↓fX10_back_45, ↓fX10_back_46, ↓fX10_back_47, ↓fX10_back_48, ↓fX10_back_49, ↓fX10_back_52, ↓fX10_back_53, ↓fX10_back_56, ↓fX10_back_57, ↓fX10_back_58, ↓fX10_back_61, ↓fX10_back_64, ↓fX10_back_65, ↓fX10_back_66, ↓fX10_back_69, ↓fX10_back_70, ↓fX10_back_71, ↓fX10_back_74, ↓fX10_back_75, ↓fX10_back_76, ↓fX10_back_77, ↓fX10_back_78, ↓fX10_back_80, ↓fX10_back_81, ↓fX10_back_82, ↓fX10_back_83, ↓fX10_back_84, ↓fX10_back_85, ↓fX10_back_88, ↓fX10_back_89, ↓fX10_back_92, ↓fX10_back_93, ↓fX10_back_94, ↓fX10_back_96, ↓fX10_back_99, ↓fX10_whyPlace_0, ↓fX10_whyPlace_1, ↓fX10_whyPlace_4, ↓fX10_whyPlace_5, ↓fX10_whyPlace_8, ↓fX10_whyPlace_9, ↓fX10_whyPlace_10, ↓fX10_whyPlace_13, ↓fX10_whyPlace_16, ↓fX10_whyPlace_17, ↓fX10_whyPlace_20, ↓fX10_whyPlace_21, ↓m_isIn, bI_0, ↓m_isN, c1, c2, and_self, true_and, and_true, false_and, and_false, not_true_eq_false, not_false_eq_true, or_self, true_or, or_true, false_or, or_false, ite_not, Decidable.not_not, decide_eq_true_eq, Bool.not_true, Bool.not_false, Bool.false_eq_true, Bool.not_eq_true, n10, n20, n21, n30, n31, n32, n40, n41, n42, n43, ↓reduceIte]⟩
    · have cq : (decide ((y < 1) ∨ (k < 1))) = false := decide_eq_false (by omega)
      have cb : onS (decide ((y < 1) ∨ (k < 1))) n s (ans (lbZ (σ s.toNat) y y k)) = if 0 ≤ s ∧ s < n then (ans (lbZ (σ s.toNat) y y k)) else (2, -1) := if_neg (by rw [cq]; decide)
      rw [cb]
      by_cases c : 0 ≤ s ∧ s < n
      · rw [if_pos c]
        obtain ⟨hl, hW⟩ := hM.2.2 s.toNat (by omega)
        rw [Int.toNat_of_nonneg c.1] at hl
        have hz := szS_b hW
        have eS := fun Q => m_isS1 (L := L) (Q := Q) hM c
        obtain ⟨G2, hl2, ha, h12, h20, lk2, tr, eN⟩ := m_now (L := L) hm (show 0 ≤ s ∧ s ≤ 4 by omega) hl hW
        have hs4 : 0 ≤ s ∧ s ≤ 4 := by omega
        have w5 := WF_5 hW
        have w3 := hW.2.2.2.1
        have hl1 := SL_i (y := 0) hl
        obtain ⟨ka7, la7, ra7⟩ := hm.2.2.2.2.2.2.2.1
        by_cases zr : y ≤ σ s.toNat 4
        · have hy4 : 1 ≤ y ∧ y ≤ σ s.toNat 4 := by omega
          have wb := whZ_b hW hy4
          have eR : ∀ Q, RK MX10_isRound 0 [.ref m, .int (zi s), .int (zi y)] [] (0, 0) (E, zg (iG G m 0), zk L, r) Q = Q (E, zg (iG G m 0), zk L, r) (.int (zi 1)) := fun Q => by rw [m_isRound hm hs4 hl1 hW hy, bI_p hy4]
          obtain ⟨G3, k3, a3, e3⟩ := m_layT (L := L) (G := iG G m 0) (t := whZ (σ s.toNat) y) (b := 1) hm hs4 hl1 hW (by omega) (Or.inr rfl)
          obtain ⟨i1, i2, i3⟩ := ia_at hW a3 (p := k) (by omega)
          have hl3 := k3.1 _ _ hl1
          unfold lbZ
          rw [if_neg (show ¬ (y < y ∨ ¬ (1 ≤ y ∧ y ≤ σ s.toNat 4)) by omega)]
          by_cases zk : k ≤ G3 m 12
          · obtain ⟨j1, j2, j3⟩ := i1 zk
            rw [if_neg (show ¬ iaZ (σ s.toNat) k (whZ (σ s.toNat) y + 1) = -1 by omega)]
            generalize iaZ (σ s.toNat) k (whZ (σ s.toNat) y + 1) = ix at j1 j2 j3 ⊢
            obtain ⟨G4, k4, a4, e4⟩ := m_layT (L := L) (G := G3) (t := whZ (σ s.toNat) y) (b := 0) hm hs4 hl3 hW (by omega) (Or.inl rfl)
            rw [Int.add_zero] at a4
            have pl := fun Q => m_placeOf (L := L) (Q := Q) (s := s) (i := ix) hm a4 (by omega) ⟨by omega, by omega⟩ (by omega)
            have jg : geZ (σ s.toNat) (whZ (σ s.toNat) y) ix = true := by
              have := of_decide_eq_true j3
              exact decide_eq_true (by omega)
            rw [pl_pa j2 jg] at pl
            have pb := paZ_b (σ s.toNat) ix (whZ (σ s.toNat) y)
            rw [ans_y pb.1]
            have j1' : G3 (m + 7) (k - 1).toNat = ix := j1.symm
            refine ⟨G4, (lkM_i.trans k3.2.2).trans k4.2.2, (k4.2.1.trans k3.2.1).trans iG_0, fun Q => ?_⟩
            simp (disch := first | assumption | exact c2_int _ | exact c2_ref _ | exact c2_jk | exact c2_null | omega | exact bI_r _ | exact bI_01 _) only [↓fX10_back_0, ↓fX10_back_1, ↓fX10_back_2, ↓fX10_back_3, ↓fX10_back_4, ↓fX10_back_5, ↓fX10_back_8, ↓fX10_back_9, ↓fX10_back_10, ↓fX10_back_13, ↓fX10_back_14, ↓fX10_back_17, ↓fX10_back_18, ↓fX10_back_21, ↓fX10_back_24, ↓fX10_back_27, ↓fX10_back_28, ↓fX10_back_29, ↓fX10_back_30, ↓fX10_back_31, ↓fX10_back_32, ↓fX10_back_35, ↓fX10_back_38, ↓fX10_back_39, ↓fX10_back_40, ↓fX10_back_43, ↓fX10_back_44, ↓fX10_back_45, ↓fX10_back_46, ↓fX10_back_47, ↓fX10_back_48, ↓fX10_back_49, ↓fX10_back_52, ↓fX10_back_53, ↓fX10_back_56, ↓fX10_back_57, ↓fX10_back_58, ↓fX10_back_61, ↓fX10_back_64, ↓fX10_back_65, ↓fX10_back_66, ↓fX10_back_69, ↓fX10_back_70, ↓fX10_back_71, ↓fX10_back_74, ↓fX10_back_75, ↓fX10_back_76, ↓fX10_back_77, ↓fX10_back_78, ↓fX10_back_80, ↓fX10_back_81, ↓fX10_back_82, ↓fX10_back_83, ↓fX10_back_84, ↓fX10_back_85, ↓fX10_back_88, ↓fX10_back_89, ↓fX10_back_92, ↓fX10_back_93, ↓fX10_back_94, ↓fX10_back_96, ↓fX10_back_99, ↓fX10_whyPlace_0, ↓fX10_whyPlace_1, ↓fX10_whyPlace_4, ↓fX10_whyPlace_5, ↓fX10_whyPlace_8, ↓fX10_whyPlace_9, ↓fX10_whyPlace_10, ↓fX10_whyPlace_13, ↓fX10_whyPlace_16, ↓fX10_whyPlace_17, ↓fX10_whyPlace_20, ↓fX10_whyPlace_21, ↓m_isIn, bI_0, ↓eS, ↓m_is0, ↓eR, ↓m_when, ↓e3, ↓e4, ↓pl, zk, j1', c1, c2, and_self, true_and, and_true, false_and, and_false, not_true_eq_false, not_false_eq_true, or_self, true_or, or_true, false_or, or_false, ite_not, Decidable.not_not, decide_eq_true_eq, Bool.not_true, Bool.not_false, Bool.false_eq_true, Bool.not_eq_true, n10, n20, n21, n30, n31, n32, n40, n41, n42, n43, ↓reduceIte]
          · rw [i2 zk, if_pos rfl, ans_n]
            refine ⟨u2 G3 m 0 5, (lkM_i.trans k3.2.2).trans lkM_0, u2_s _ _ _ _, fun Q => ?_⟩
            simp (disch := first | assumption | exact c2_int _ | exact c2_ref _ | exact c2_jk | exact c2_null | omega | exact bI_r _ | exact bI_01 _) only [↓fX10_back_0, ↓fX10_back_1, ↓fX10_back_2, ↓fX10_back_3, ↓fX10_back_4, ↓fX10_back_5, ↓fX10_back_8, ↓fX10_back_9, ↓fX10_back_10, ↓fX10_back_13, ↓fX10_back_14, ↓fX10_back_17, ↓fX10_back_18, ↓fX10_back_21, ↓fX10_back_24, ↓fX10_back_27, ↓fX10_back_28, ↓fX10_back_29, ↓fX10_back_30, ↓fX10_back_31, ↓fX10_back_32, ↓fX10_back_35, ↓fX10_back_38, ↓fX10_back_39, ↓fX10_back_40, ↓fX10_back_43, ↓fX10_back_44, ↓fX10_back_45, ↓fX10_back_46, ↓fX10_back_47, ↓fX10_back_48, ↓fX10_back_49, ↓fX10_back_52, ↓fX10_back_53, ↓fX10_back_56, ↓fX10_back_57, ↓fX10_back_58, ↓fX10_back_61, ↓fX10_back_64, ↓fX10_back_65, ↓fX10_back_66, ↓fX10_back_69, ↓fX10_back_70, ↓fX10_back_71, ↓fX10_back_74, ↓fX10_back_75, ↓fX10_back_76, ↓fX10_back_77, ↓fX10_back_78, ↓fX10_back_80, ↓fX10_back_81, ↓fX10_back_82, ↓fX10_back_83, ↓fX10_back_84, ↓fX10_back_85, ↓fX10_back_88, ↓fX10_back_89, ↓fX10_back_92, ↓fX10_back_93, ↓fX10_back_94, ↓fX10_back_96, ↓fX10_back_99, ↓fX10_whyPlace_0, ↓fX10_whyPlace_1, ↓fX10_whyPlace_4, ↓fX10_whyPlace_5, ↓fX10_whyPlace_8, ↓fX10_whyPlace_9, ↓fX10_whyPlace_10, ↓fX10_whyPlace_13, ↓fX10_whyPlace_16, ↓fX10_whyPlace_17, ↓fX10_whyPlace_20, ↓fX10_whyPlace_21, ↓m_isIn, bI_0, ↓eS, ↓m_is0, ↓eR, ↓m_when, ↓e3, ↓m_refuse, zk, c1, c2, and_self, true_and, and_true, false_and, and_false, not_true_eq_false, not_false_eq_true, or_self, true_or, or_true, false_or, or_false, ite_not, Decidable.not_not, decide_eq_true_eq, Bool.not_true, Bool.not_false, Bool.false_eq_true, Bool.not_eq_true, n10, n20, n21, n30, n31, n32, n40, n41, n42, n43, ↓reduceIte]
        · have hn : ¬ (1 ≤ y ∧ y ≤ σ s.toNat 4) := by omega
          have eR : ∀ Q, RK MX10_isRound 0 [.ref m, .int (zi s), .int (zi y)] [] (0, 0) (E, zg (iG G m 0), zk L, r) Q = Q (E, zg (iG G m 0), zk L, r) (.int (zi 0)) := fun Q => by rw [m_isRound hm hs4 hl1 hW hy, bI_n hn]
          have eo : lbZ (σ s.toNat) y y k = -1 := if_pos (Or.inr hn)
          rw [eo, ans_n]
          refine ⟨u2 (iG G m 0) m 0 5, lkM_i.trans lkM_0, u2_s _ _ _ _, fun Q => ?_⟩
          simp (disch := first | assumption | exact c2_int _ | exact c2_ref _ | exact c2_jk | exact c2_null | omega | exact bI_r _ | exact bI_01 _) only [↓fX10_back_0, ↓fX10_back_1, ↓fX10_back_2, ↓fX10_back_3, ↓fX10_back_4, ↓fX10_back_5, ↓fX10_back_8, ↓fX10_back_9, ↓fX10_back_10, ↓fX10_back_13, ↓fX10_back_14, ↓fX10_back_17, ↓fX10_back_18, ↓fX10_back_21, ↓fX10_back_24, ↓fX10_back_27, ↓fX10_back_28, ↓fX10_back_29, ↓fX10_back_30, ↓fX10_back_31, ↓fX10_back_32, ↓fX10_back_35, ↓fX10_back_38, ↓fX10_back_39, ↓fX10_back_40, ↓fX10_back_43, ↓fX10_back_44, ↓fX10_back_45, ↓fX10_back_46, ↓fX10_back_47, ↓fX10_back_48, ↓fX10_back_49, ↓fX10_back_52, ↓fX10_back_53, ↓fX10_back_56, ↓fX10_back_57, ↓fX10_back_58, ↓fX10_back_61, ↓fX10_back_64, ↓fX10_back_65, ↓fX10_back_66, ↓fX10_back_69, ↓fX10_back_70, ↓fX10_back_71, ↓fX10_back_74, ↓fX10_back_75, ↓fX10_back_76, ↓fX10_back_77, ↓fX10_back_78, ↓fX10_back_80, ↓fX10_back_81, ↓fX10_back_82, ↓fX10_back_83, ↓fX10_back_84, ↓fX10_back_85, ↓fX10_back_88, ↓fX10_back_89, ↓fX10_back_92, ↓fX10_back_93, ↓fX10_back_94, ↓fX10_back_96, ↓fX10_back_99, ↓fX10_whyPlace_0, ↓fX10_whyPlace_1, ↓fX10_whyPlace_4, ↓fX10_whyPlace_5, ↓fX10_whyPlace_8, ↓fX10_whyPlace_9, ↓fX10_whyPlace_10, ↓fX10_whyPlace_13, ↓fX10_whyPlace_16, ↓fX10_whyPlace_17, ↓fX10_whyPlace_20, ↓fX10_whyPlace_21, ↓m_isIn, bI_0, ↓eS, ↓m_is0, ↓eR, ↓m_refuse, c1, c2, and_self, true_and, and_true, false_and, and_false, not_true_eq_false, not_false_eq_true, or_self, true_or, or_true, false_or, or_false, ite_not, Decidable.not_not, decide_eq_true_eq, Bool.not_true, Bool.not_false, Bool.false_eq_true, Bool.not_eq_true, n10, n20, n21, n30, n31, n32, n40, n41, n42, n43, ↓reduceIte]
      · rw [if_neg c]
        have eS := fun Q => m_isS0 (L := L) (Q := Q) hM hs c
        exact ⟨iG G m 2, lkM_i, iG_0, fun Q => by simp (disch := first | assumption | exact c2_int _ | exact c2_ref _ | exact c2_jk | exact c2_null | omega | exact bI_r _ | exact bI_01 _) only [↓fX10_back_0, ↓fX10_back_1, ↓fX10_back_2, ↓fX10_back_3, ↓fX10_back_4, ↓fX10_back_5, ↓fX10_back_8, ↓fX10_back_9, ↓fX10_back_10, ↓fX10_back_13, ↓fX10_back_14, ↓fX10_back_17, ↓fX10_back_18, ↓fX10_back_21, ↓fX10_back_24, ↓fX10_back_27, ↓fX10_back_28, ↓fX10_back_29, ↓fX10_back_30, ↓fX10_back_31, ↓fX10_back_32, ↓fX10_back_35, ↓fX10_back_38, ↓fX10_back_39, ↓fX10_back_40, ↓fX10_back_43, ↓fX10_back_44, ↓fX10_back_45, ↓fX10_back_46, ↓fX10_back_47, ↓fX10_back_48, ↓fX10_back_49, ↓fX10_back_52, ↓fX10_back_53, ↓fX10_back_56, ↓fX10_back_57, ↓fX10_back_58, ↓fX10_back_61, ↓fX10_back_64, ↓fX10_back_65, ↓fX10_back_66, ↓fX10_back_69, ↓fX10_back_70, ↓fX10_back_71, ↓fX10_back_74, ↓fX10_back_75, ↓fX10_back_76, ↓fX10_back_77, ↓fX10_back_78, ↓fX10_back_80, ↓fX10_back_81, ↓fX10_back_82, ↓fX10_back_83, ↓fX10_back_84, ↓fX10_back_85, ↓fX10_back_88, ↓fX10_back_89, ↓fX10_back_92, ↓fX10_back_93, ↓fX10_back_94, ↓fX10_back_96, ↓fX10_back_99, ↓fX10_whyPlace_0, ↓fX10_whyPlace_1, ↓fX10_whyPlace_4, ↓fX10_whyPlace_5, ↓fX10_whyPlace_8, ↓fX10_whyPlace_9, ↓fX10_whyPlace_10, ↓fX10_whyPlace_13, ↓fX10_whyPlace_16, ↓fX10_whyPlace_17, ↓fX10_whyPlace_20, ↓fX10_whyPlace_21, ↓m_isIn, bI_0, ↓eS, ↓m_isN, c1, c2, and_self, true_and, and_true, false_and, and_false, not_true_eq_false, not_false_eq_true, or_self, true_or, or_true, false_or, or_false, ite_not, Decidable.not_not, decide_eq_true_eq, Bool.not_true, Bool.not_false, Bool.false_eq_true, Bool.not_eq_true, n10, n20, n21, n30, n31, n32, n40, n41, n42, n43, ↓reduceIte]⟩
theorem y_ahead (hM : MD E r G m n σ) (hs : I32 s) (hy : I32 y) (hk : I32 k) : ∃ G', lkM G G' m ∧ G' m 0 = (onS (decide ((y < 1) ∨ (k < 1))) n s (ans (lnoZ (σ s.toNat) y k))).1 ∧ ∀ Q, RK MX10_ahead 0 [.ref m, .int (zi s), .int (zi y), .int (zi k), jk, jk] [] (0, 0) (E, zg G, zk L, r) Q = Q (E, zg G', zk L, r) (.int (zi (onS (decide ((y < 1) ∨ (k < 1))) n s (ans (lnoZ (σ s.toNat) y k))).2)) := by
  have hm := hM.1
  have m0 := hm.1
  have h6 := hM.2.1
  by_cases c1 : y < 1
  · have cb : onS (decide ((y < 1) ∨ (k < 1))) n s (ans (lnoZ (σ s.toNat) y k)) = (1, -1) := if_pos (decide_eq_true (by omega))
    rw [cb]
    exact ⟨iG G m 1, lkM_i, iG_0, fun Q => by simp (disch := first | assumption | exact c2_int _ | exact c2_ref _ | exact c2_jk | exact c2_null | omega | exact bI_r _ | exact bI_01 _) only [↓fX10_ahead_0, ↓fX10_ahead_1, ↓fX10_ahead_2, ↓fX10_ahead_3, ↓fX10_ahead_4, ↓fX10_ahead_5, ↓fX10_ahead_8, ↓fX10_ahead_9, ↓fX10_ahead_10, ↓fX10_ahead_13, ↓fX10_ahead_14, ↓fX10_ahead_17, ↓fX10_ahead_18, ↓fX10_ahead_21, ↓fX10_ahead_24, ↓fX10_ahead_27, ↓fX10_ahead_28, ↓fX10_ahead_29, ↓fX10_ahead_30, ↓fX10_ahead_31, ↓fX10_ahead_32, ↓fX10_ahead_35, ↓fX10_ahead_38, ↓fX10_ahead_39, ↓fX10_ahead_40, ↓fX10_ahead_43, ↓fX10_ahead_44, ↓fX10_ahead_45, ↓fX10_ahead_46, ↓fX10_ahead_47, ↓fX10_ahead_48, ↓fX10_ahead_49, ↓fX10_ahead_52, ↓fX10_ahead_53, ↓fX10_ahead_56, ↓fX10_ahead_57, ↓fX10_ahead_58, ↓fX10_ahead_61, ↓fX10_ahead_64, ↓fX10_ahead_65, ↓fX10_ahead_66, ↓fX10_ahead_69, ↓fX10_ahead_70, ↓fX10_ahead_71, ↓fX10_ahead_74, ↓fX10_ahead_75, ↓fX10_ahead_76, ↓fX10_ahead_77, ↓fX10_ahead_78, ↓fX10_ahead_80, ↓fX10_ahead_81, ↓fX10_ahead_82, ↓fX10_ahead_83, ↓fX10_ahead_84, ↓fX10_ahead_85, ↓fX10_ahead_88, ↓fX10_ahead_89, ↓fX10_ahead_92, ↓fX10_ahead_93, ↓fX10_ahead_94, ↓fX10_ahead_96, ↓fX10_ahead_99, ↓fX10_ahead_101, ↓fX10_ahead_103, ↓fX10_ahead_106, ↓fX10_ahead_107, ↓fX10_ahead_108, ↓fX10_ahead_111, ↓fX10_ahead_114, ↓fX10_ahead_116, ↓fX10_whyPlace_0, ↓fX10_whyPlace_1, ↓fX10_whyPlace_4, ↓fX10_whyPlace_5, ↓fX10_whyPlace_8, ↓fX10_whyPlace_9, ↓fX10_whyPlace_10, ↓fX10_whyPlace_13, ↓fX10_whyPlace_16, ↓fX10_whyPlace_17, ↓fX10_whyPlace_20, ↓fX10_whyPlace_21, ↓m_isIn, bI_0, ↓m_isN, c1, and_self, true_and, and_true, false_and, and_false, not_true_eq_false, not_false_eq_true, or_self, true_or, or_true, false_or, or_false, ite_not, Decidable.not_not, decide_eq_true_eq, Bool.not_true, Bool.not_false, Bool.false_eq_true, Bool.not_eq_true, n10, n20, n21, n30, n31, n32, n40, n41, n42, n43, ↓reduceIte]⟩
  · by_cases c2 : k < 1
    · have cb : onS (decide ((y < 1) ∨ (k < 1))) n s (ans (lnoZ (σ s.toNat) y k)) = (1, -1) := if_pos (decide_eq_true (by omega))
      rw [cb]
      exact ⟨iG G m 1, lkM_i, iG_0, fun Q => by simp (disch := first | assumption | exact c2_int _ | exact c2_ref _ | exact c2_jk | exact c2_null | omega | exact bI_r _ | exact bI_01 _) only [↓fX10_ahead_0, ↓fX10_ahead_1, ↓fX10_ahead_2, ↓fX10_ahead_3, ↓fX10_ahead_4, ↓fX10_ahead_5, ↓fX10_ahead_8, ↓fX10_ahead_9, ↓fX10_ahead_10, ↓fX10_ahead_13, ↓fX10_ahead_14, ↓fX10_ahead_17, ↓fX10_ahead_18, ↓fX10_ahead_21, ↓fX10_ahead_24, ↓fX10_ahead_27, ↓fX10_ahead_28, ↓fX10_ahead_29, ↓fX10_ahead_30, ↓fX10_ahead_31, ↓fX10_ahead_32, ↓fX10_ahead_35, ↓fX10_ahead_38, ↓fX10_ahead_39, ↓fX10_ahead_40, ↓fX10_ahead_43, ↓fX10_ahead_44, ↓fX10_ahead_45, ↓fX10_ahead_46, ↓fX10_ahead_47, ↓fX10_ahead_48, ↓fX10_ahead_49, ↓fX10_ahead_52, ↓fX10_ahead_53, ↓fX10_ahead_56, ↓fX10_ahead_57, ↓fX10_ahead_58, ↓fX10_ahead_61, ↓fX10_ahead_64, ↓fX10_ahead_65, ↓fX10_ahead_66, ↓fX10_ahead_69, ↓fX10_ahead_70, ↓fX10_ahead_71, ↓fX10_ahead_74, ↓fX10_ahead_75, ↓fX10_ahead_76, ↓fX10_ahead_77, ↓fX10_ahead_78, ↓fX10_ahead_80, ↓fX10_ahead_81, ↓fX10_ahead_82, ↓fX10_ahead_83, ↓fX10_ahead_84, ↓fX10_ahead_85, ↓fX10_ahead_88, ↓fX10_ahead_89, ↓fX10_ahead_92, ↓fX10_ahead_93, ↓fX10_ahead_94, ↓fX10_ahead_96, ↓fX10_ahead_99, ↓fX10_ahead_101, ↓fX10_ahead_103, ↓fX10_ahead_106, ↓fX10_ahead_107, ↓fX10_ahead_108, ↓fX10_ahead_111, ↓fX10_ahead_114, ↓fX10_ahead_116, ↓fX10_whyPlace_0, ↓fX10_whyPlace_1, ↓fX10_whyPlace_4, ↓fX10_whyPlace_5, ↓fX10_whyPlace_8, ↓fX10_whyPlace_9, ↓fX10_whyPlace_10, ↓fX10_whyPlace_13, ↓fX10_whyPlace_16, ↓fX10_whyPlace_17, ↓fX10_whyPlace_20, ↓fX10_whyPlace_21, ↓m_isIn, bI_0, ↓m_isN, c1, c2, and_self, true_and, and_true, false_and, and_false, not_true_eq_false, not_false_eq_true, or_self, true_or, or_true, false_or, or_false, ite_not, Decidable.not_not, decide_eq_true_eq, Bool.not_true, Bool.not_false, Bool.false_eq_true, Bool.not_eq_true, n10, n20, n21, n30, n31, n32, n40, n41, n42, n43, ↓reduceIte]⟩
    · have cq : (decide ((y < 1) ∨ (k < 1))) = false := decide_eq_false (by omega)
      have cb : onS (decide ((y < 1) ∨ (k < 1))) n s (ans (lnoZ (σ s.toNat) y k)) = if 0 ≤ s ∧ s < n then (ans (lnoZ (σ s.toNat) y k)) else (2, -1) := if_neg (by rw [cq]; decide)
      rw [cb]
      by_cases c : 0 ≤ s ∧ s < n
      · rw [if_pos c]
        obtain ⟨hl, hW⟩ := hM.2.2 s.toNat (by omega)
        rw [Int.toNat_of_nonneg c.1] at hl
        have hz := szS_b hW
        have eS := fun Q => m_isS1 (L := L) (Q := Q) hM c
        obtain ⟨G2, hl2, ha, h12, h20, lk2, tr, eN⟩ := m_now (L := L) hm (show 0 ≤ s ∧ s ≤ 4 by omega) hl hW
        have hs4 : 0 ≤ s ∧ s ≤ 4 := by omega
        have w5 := WF_5 hW
        have w3 := hW.2.2.2.1
        have hl1 := SL_i (y := 0) hl
        obtain ⟨ka7, la7, ra7⟩ := hm.2.2.2.2.2.2.2.1
        by_cases zr : y ≤ σ s.toNat 4
        · have hy4 : 1 ≤ y ∧ y ≤ σ s.toNat 4 := by omega
          have wb := whZ_b hW hy4
          have eR : ∀ Q, RK MX10_isRound 0 [.ref m, .int (zi s), .int (zi y)] [] (0, 0) (E, zg (iG G m 0), zk L, r) Q = Q (E, zg (iG G m 0), zk L, r) (.int (zi 1)) := fun Q => by rw [m_isRound hm hs4 hl1 hW hy, bI_p hy4]
          obtain ⟨G3, k3, a3, e3⟩ := m_layT (L := L) (G := iG G m 0) (t := whZ (σ s.toNat) y) (b := 0) hm hs4 hl1 hW (by omega) (Or.inl rfl)
          rw [Int.add_zero] at a3
          obtain ⟨i1, i2, i3⟩ := ia_at hW a3 (p := k) (by omega)
          have hl3 := k3.1 _ _ hl1
          unfold lnoZ
          rw [if_pos hy4]
          by_cases zk : k ≤ G3 m 12
          · obtain ⟨j1, j2, j3⟩ := i1 zk
            generalize iaZ (σ s.toNat) k (whZ (σ s.toNat) y) = ix at j1 j2 j3 ⊢
            obtain ⟨G4, k4, a4, e4⟩ := m_layT (L := L) (G := G3) (t := whZ (σ s.toNat) y) (b := 1) hm hs4 hl3 hW (by omega) (Or.inr rfl)
            have pl := fun Q => m_placeOf (L := L) (Q := Q) (s := s) (i := ix) hm a4 (by omega) ⟨by omega, by omega⟩ (by omega)
            have jg := of_decide_eq_true j3
            have j1' : G3 (m + 7) (k - 1).toNat = ix := j1.symm
            by_cases zs : skZ (σ s.toNat) ix = whZ (σ s.toNat) y
            · rw [if_pos (Or.inr zs), ans_n]
              rw [pl_no (decide_eq_false (by omega))] at pl
              have m1 : (-1 : Int) < 0 := by decide
              refine ⟨u2 G4 m 0 5, ((lkM_i.trans k3.2.2).trans k4.2.2).trans lkM_0, u2_s _ _ _ _, fun Q => ?_⟩
              simp (disch := first | assumption | exact c2_int _ | exact c2_ref _ | exact c2_jk | exact c2_null | omega | exact bI_r _ | exact bI_01 _) only [↓fX10_ahead_0, ↓fX10_ahead_1, ↓fX10_ahead_2, ↓fX10_ahead_3, ↓fX10_ahead_4, ↓fX10_ahead_5, ↓fX10_ahead_8, ↓fX10_ahead_9, ↓fX10_ahead_10, ↓fX10_ahead_13, ↓fX10_ahead_14, ↓fX10_ahead_17, ↓fX10_ahead_18, ↓fX10_ahead_21, ↓fX10_ahead_24, ↓fX10_ahead_27, ↓fX10_ahead_28, ↓fX10_ahead_29, ↓fX10_ahead_30, ↓fX10_ahead_31, ↓fX10_ahead_32, ↓fX10_ahead_35, ↓fX10_ahead_38, ↓fX10_ahead_39, ↓fX10_ahead_40, ↓fX10_ahead_43, ↓fX10_ahead_44, ↓fX10_ahead_45, ↓fX10_ahead_46, ↓fX10_ahead_47, ↓fX10_ahead_48, ↓fX10_ahead_49, ↓fX10_ahead_52, ↓fX10_ahead_53, ↓fX10_ahead_56, ↓fX10_ahead_57, ↓fX10_ahead_58, ↓fX10_ahead_61, ↓fX10_ahead_64, ↓fX10_ahead_65, ↓fX10_ahead_66, ↓fX10_ahead_69, ↓fX10_ahead_70, ↓fX10_ahead_71, ↓fX10_ahead_74, ↓fX10_ahead_75, ↓fX10_ahead_76, ↓fX10_ahead_77, ↓fX10_ahead_78, ↓fX10_ahead_80, ↓fX10_ahead_81, ↓fX10_ahead_82, ↓fX10_ahead_83, ↓fX10_ahead_84, ↓fX10_ahead_85, ↓fX10_ahead_88, ↓fX10_ahead_89, ↓fX10_ahead_92, ↓fX10_ahead_93, ↓fX10_ahead_94, ↓fX10_ahead_96, ↓fX10_ahead_99, ↓fX10_ahead_101, ↓fX10_ahead_103, ↓fX10_ahead_106, ↓fX10_ahead_107, ↓fX10_ahead_108, ↓fX10_ahead_111, ↓fX10_ahead_114, ↓fX10_ahead_116, ↓fX10_whyPlace_0, ↓fX10_whyPlace_1, ↓fX10_whyPlace_4, ↓fX10_whyPlace_5, ↓fX10_whyPlace_8, ↓fX10_whyPlace_9, ↓fX10_whyPlace_10, ↓fX10_whyPlace_13, ↓fX10_whyPlace_16, ↓fX10_whyPlace_17, ↓fX10_whyPlace_20, ↓fX10_whyPlace_21, ↓m_isIn, bI_0, ↓eS, ↓m_is0, ↓eR, ↓m_when, ↓e3, ↓e4, ↓pl, ↓m_refuse, zk, j1', m1, c1, c2, and_self, true_and, and_true, false_and, and_false, not_true_eq_false, not_false_eq_true, or_self, true_or, or_true, false_or, or_false, ite_not, Decidable.not_not, decide_eq_true_eq, Bool.not_true, Bool.not_false, Bool.false_eq_true, Bool.not_eq_true, n10, n20, n21, n30, n31, n32, n40, n41, n42, n43, ↓reduceIte]
            · rw [if_neg (show ¬ (ix = -1 ∨ skZ (σ s.toNat) ix = whZ (σ s.toNat) y) by omega)]
              rw [pl_pa j2 (decide_eq_true (by omega))] at pl
              have pb := paZ_b (σ s.toNat) ix (whZ (σ s.toNat) y + 1)
              have pb0 : ¬ paZ (σ s.toNat) ix (whZ (σ s.toNat) y + 1) < 0 := by omega
              rw [ans_y pb.1]
              refine ⟨G4, (lkM_i.trans k3.2.2).trans k4.2.2, (k4.2.1.trans k3.2.1).trans iG_0, fun Q => ?_⟩
              simp (disch := first | assumption | exact c2_int _ | exact c2_ref _ | exact c2_jk | exact c2_null | omega | exact bI_r _ | exact bI_01 _) only [↓fX10_ahead_0, ↓fX10_ahead_1, ↓fX10_ahead_2, ↓fX10_ahead_3, ↓fX10_ahead_4, ↓fX10_ahead_5, ↓fX10_ahead_8, ↓fX10_ahead_9, ↓fX10_ahead_10, ↓fX10_ahead_13, ↓fX10_ahead_14, ↓fX10_ahead_17, ↓fX10_ahead_18, ↓fX10_ahead_21, ↓fX10_ahead_24, ↓fX10_ahead_27, ↓fX10_ahead_28, ↓fX10_ahead_29, ↓fX10_ahead_30, ↓fX10_ahead_31, ↓fX10_ahead_32, ↓fX10_ahead_35, ↓fX10_ahead_38, ↓fX10_ahead_39, ↓fX10_ahead_40, ↓fX10_ahead_43, ↓fX10_ahead_44, ↓fX10_ahead_45, ↓fX10_ahead_46, ↓fX10_ahead_47, ↓fX10_ahead_48, ↓fX10_ahead_49, ↓fX10_ahead_52, ↓fX10_ahead_53, ↓fX10_ahead_56, ↓fX10_ahead_57, ↓fX10_ahead_58, ↓fX10_ahead_61, ↓fX10_ahead_64, ↓fX10_ahead_65, ↓fX10_ahead_66, ↓fX10_ahead_69, ↓fX10_ahead_70, ↓fX10_ahead_71, ↓fX10_ahead_74, ↓fX10_ahead_75, ↓fX10_ahead_76, ↓fX10_ahead_77, ↓fX10_ahead_78, ↓fX10_ahead_80, ↓fX10_ahead_81, ↓fX10_ahead_82, ↓fX10_ahead_83, ↓fX10_ahead_84, ↓fX10_ahead_85, ↓fX10_ahead_88, ↓fX10_ahead_89, ↓fX10_ahead_92, ↓fX10_ahead_93, ↓fX10_ahead_94, ↓fX10_ahead_96, ↓fX10_ahead_99, ↓fX10_ahead_101, ↓fX10_ahead_103, ↓fX10_ahead_106, ↓fX10_ahead_107, ↓fX10_ahead_108, ↓fX10_ahead_111, ↓fX10_ahead_114, ↓fX10_ahead_116, ↓fX10_whyPlace_0, ↓fX10_whyPlace_1, ↓fX10_whyPlace_4, ↓fX10_whyPlace_5, ↓fX10_whyPlace_8, ↓fX10_whyPlace_9, ↓fX10_whyPlace_10, ↓fX10_whyPlace_13, ↓fX10_whyPlace_16, ↓fX10_whyPlace_17, ↓fX10_whyPlace_20, ↓fX10_whyPlace_21, ↓m_isIn, bI_0, ↓eS, ↓m_is0, ↓eR, ↓m_when, ↓e3, ↓e4, ↓pl, zk, j1', pb0, c1, c2, and_self, true_and, and_true, false_and, and_false, not_true_eq_false, not_false_eq_true, or_self, true_or, or_true, false_or, or_false, ite_not, Decidable.not_not, decide_eq_true_eq, Bool.not_true, Bool.not_false, Bool.false_eq_true, Bool.not_eq_true, n10, n20, n21, n30, n31, n32, n40, n41, n42, n43, ↓reduceIte]
          · rw [i2 zk, if_pos (Or.inl rfl), ans_n]
            refine ⟨u2 G3 m 0 5, (lkM_i.trans k3.2.2).trans lkM_0, u2_s _ _ _ _, fun Q => ?_⟩
            simp (disch := first | assumption | exact c2_int _ | exact c2_ref _ | exact c2_jk | exact c2_null | omega | exact bI_r _ | exact bI_01 _) only [↓fX10_ahead_0, ↓fX10_ahead_1, ↓fX10_ahead_2, ↓fX10_ahead_3, ↓fX10_ahead_4, ↓fX10_ahead_5, ↓fX10_ahead_8, ↓fX10_ahead_9, ↓fX10_ahead_10, ↓fX10_ahead_13, ↓fX10_ahead_14, ↓fX10_ahead_17, ↓fX10_ahead_18, ↓fX10_ahead_21, ↓fX10_ahead_24, ↓fX10_ahead_27, ↓fX10_ahead_28, ↓fX10_ahead_29, ↓fX10_ahead_30, ↓fX10_ahead_31, ↓fX10_ahead_32, ↓fX10_ahead_35, ↓fX10_ahead_38, ↓fX10_ahead_39, ↓fX10_ahead_40, ↓fX10_ahead_43, ↓fX10_ahead_44, ↓fX10_ahead_45, ↓fX10_ahead_46, ↓fX10_ahead_47, ↓fX10_ahead_48, ↓fX10_ahead_49, ↓fX10_ahead_52, ↓fX10_ahead_53, ↓fX10_ahead_56, ↓fX10_ahead_57, ↓fX10_ahead_58, ↓fX10_ahead_61, ↓fX10_ahead_64, ↓fX10_ahead_65, ↓fX10_ahead_66, ↓fX10_ahead_69, ↓fX10_ahead_70, ↓fX10_ahead_71, ↓fX10_ahead_74, ↓fX10_ahead_75, ↓fX10_ahead_76, ↓fX10_ahead_77, ↓fX10_ahead_78, ↓fX10_ahead_80, ↓fX10_ahead_81, ↓fX10_ahead_82, ↓fX10_ahead_83, ↓fX10_ahead_84, ↓fX10_ahead_85, ↓fX10_ahead_88, ↓fX10_ahead_89, ↓fX10_ahead_92, ↓fX10_ahead_93, ↓fX10_ahead_94, ↓fX10_ahead_96, ↓fX10_ahead_99, ↓fX10_ahead_101, ↓fX10_ahead_103, ↓fX10_ahead_106, ↓fX10_ahead_107, ↓fX10_ahead_108, ↓fX10_ahead_111, ↓fX10_ahead_114, ↓fX10_ahead_116, ↓fX10_whyPlace_0, ↓fX10_whyPlace_1, ↓fX10_whyPlace_4, ↓fX10_whyPlace_5, ↓fX10_whyPlace_8, ↓fX10_whyPlace_9, ↓fX10_whyPlace_10, ↓fX10_whyPlace_13, ↓fX10_whyPlace_16, ↓fX10_whyPlace_17, ↓fX10_whyPlace_20, ↓fX10_whyPlace_21, ↓m_isIn, bI_0, ↓eS, ↓m_is0, ↓eR, ↓m_when, ↓e3, ↓m_refuse, zk, c1, c2, and_self, true_and, and_true, false_and, and_false, not_true_eq_false, not_false_eq_true, or_self, true_or, or_true, false_or, or_false, ite_not, Decidable.not_not, decide_eq_true_eq, Bool.not_true, Bool.not_false, Bool.false_eq_true, Bool.not_eq_true, n10, n20, n21, n30, n31, n32, n40, n41, n42, n43, ↓reduceIte]
        · have hn : ¬ (1 ≤ y ∧ y ≤ σ s.toNat 4) := by omega
          have eR : ∀ Q, RK MX10_isRound 0 [.ref m, .int (zi s), .int (zi y)] [] (0, 0) (E, zg (iG G m 0), zk L, r) Q = Q (E, zg (iG G m 0), zk L, r) (.int (zi 0)) := fun Q => by rw [m_isRound hm hs4 hl1 hW hy, bI_n hn]
          have eo : lnoZ (σ s.toNat) y k = -1 := if_neg hn
          rw [eo, ans_n]
          refine ⟨u2 (iG G m 0) m 0 5, lkM_i.trans lkM_0, u2_s _ _ _ _, fun Q => ?_⟩
          simp (disch := first | assumption | exact c2_int _ | exact c2_ref _ | exact c2_jk | exact c2_null | omega | exact bI_r _ | exact bI_01 _) only [↓fX10_ahead_0, ↓fX10_ahead_1, ↓fX10_ahead_2, ↓fX10_ahead_3, ↓fX10_ahead_4, ↓fX10_ahead_5, ↓fX10_ahead_8, ↓fX10_ahead_9, ↓fX10_ahead_10, ↓fX10_ahead_13, ↓fX10_ahead_14, ↓fX10_ahead_17, ↓fX10_ahead_18, ↓fX10_ahead_21, ↓fX10_ahead_24, ↓fX10_ahead_27, ↓fX10_ahead_28, ↓fX10_ahead_29, ↓fX10_ahead_30, ↓fX10_ahead_31, ↓fX10_ahead_32, ↓fX10_ahead_35, ↓fX10_ahead_38, ↓fX10_ahead_39, ↓fX10_ahead_40, ↓fX10_ahead_43, ↓fX10_ahead_44, ↓fX10_ahead_45, ↓fX10_ahead_46, ↓fX10_ahead_47, ↓fX10_ahead_48, ↓fX10_ahead_49, ↓fX10_ahead_52, ↓fX10_ahead_53, ↓fX10_ahead_56, ↓fX10_ahead_57, ↓fX10_ahead_58, ↓fX10_ahead_61, ↓fX10_ahead_64, ↓fX10_ahead_65, ↓fX10_ahead_66, ↓fX10_ahead_69, ↓fX10_ahead_70, ↓fX10_ahead_71, ↓fX10_ahead_74, ↓fX10_ahead_75, ↓fX10_ahead_76, ↓fX10_ahead_77, ↓fX10_ahead_78, ↓fX10_ahead_80, ↓fX10_ahead_81, ↓fX10_ahead_82, ↓fX10_ahead_83, ↓fX10_ahead_84, ↓fX10_ahead_85, ↓fX10_ahead_88, ↓fX10_ahead_89, ↓fX10_ahead_92, ↓fX10_ahead_93, ↓fX10_ahead_94, ↓fX10_ahead_96, ↓fX10_ahead_99, ↓fX10_ahead_101, ↓fX10_ahead_103, ↓fX10_ahead_106, ↓fX10_ahead_107, ↓fX10_ahead_108, ↓fX10_ahead_111, ↓fX10_ahead_114, ↓fX10_ahead_116, ↓fX10_whyPlace_0, ↓fX10_whyPlace_1, ↓fX10_whyPlace_4, ↓fX10_whyPlace_5, ↓fX10_whyPlace_8, ↓fX10_whyPlace_9, ↓fX10_whyPlace_10, ↓fX10_whyPlace_13, ↓fX10_whyPlace_16, ↓fX10_whyPlace_17, ↓fX10_whyPlace_20, ↓fX10_whyPlace_21, ↓m_isIn, bI_0, ↓eS, ↓m_is0, ↓eR, ↓m_refuse, c1, c2, and_self, true_and, and_true, false_and, and_false, not_true_eq_false, not_false_eq_true, or_self, true_or, or_true, false_or, or_false, ite_not, Decidable.not_not, decide_eq_true_eq, Bool.not_true, Bool.not_false, Bool.false_eq_true, Bool.not_eq_true, n10, n20, n21, n30, n31, n32, n40, n41, n42, n43, ↓reduceIte]
      · rw [if_neg c]
        have eS := fun Q => m_isS0 (L := L) (Q := Q) hM hs c
        exact ⟨iG G m 2, lkM_i, iG_0, fun Q => by simp (disch := first | assumption | exact c2_int _ | exact c2_ref _ | exact c2_jk | exact c2_null | omega | exact bI_r _ | exact bI_01 _) only [↓fX10_ahead_0, ↓fX10_ahead_1, ↓fX10_ahead_2, ↓fX10_ahead_3, ↓fX10_ahead_4, ↓fX10_ahead_5, ↓fX10_ahead_8, ↓fX10_ahead_9, ↓fX10_ahead_10, ↓fX10_ahead_13, ↓fX10_ahead_14, ↓fX10_ahead_17, ↓fX10_ahead_18, ↓fX10_ahead_21, ↓fX10_ahead_24, ↓fX10_ahead_27, ↓fX10_ahead_28, ↓fX10_ahead_29, ↓fX10_ahead_30, ↓fX10_ahead_31, ↓fX10_ahead_32, ↓fX10_ahead_35, ↓fX10_ahead_38, ↓fX10_ahead_39, ↓fX10_ahead_40, ↓fX10_ahead_43, ↓fX10_ahead_44, ↓fX10_ahead_45, ↓fX10_ahead_46, ↓fX10_ahead_47, ↓fX10_ahead_48, ↓fX10_ahead_49, ↓fX10_ahead_52, ↓fX10_ahead_53, ↓fX10_ahead_56, ↓fX10_ahead_57, ↓fX10_ahead_58, ↓fX10_ahead_61, ↓fX10_ahead_64, ↓fX10_ahead_65, ↓fX10_ahead_66, ↓fX10_ahead_69, ↓fX10_ahead_70, ↓fX10_ahead_71, ↓fX10_ahead_74, ↓fX10_ahead_75, ↓fX10_ahead_76, ↓fX10_ahead_77, ↓fX10_ahead_78, ↓fX10_ahead_80, ↓fX10_ahead_81, ↓fX10_ahead_82, ↓fX10_ahead_83, ↓fX10_ahead_84, ↓fX10_ahead_85, ↓fX10_ahead_88, ↓fX10_ahead_89, ↓fX10_ahead_92, ↓fX10_ahead_93, ↓fX10_ahead_94, ↓fX10_ahead_96, ↓fX10_ahead_99, ↓fX10_ahead_101, ↓fX10_ahead_103, ↓fX10_ahead_106, ↓fX10_ahead_107, ↓fX10_ahead_108, ↓fX10_ahead_111, ↓fX10_ahead_114, ↓fX10_ahead_116, ↓fX10_whyPlace_0, ↓fX10_whyPlace_1, ↓fX10_whyPlace_4, ↓fX10_whyPlace_5, ↓fX10_whyPlace_8, ↓fX10_whyPlace_9, ↓fX10_whyPlace_10, ↓fX10_whyPlace_13, ↓fX10_whyPlace_16, ↓fX10_whyPlace_17, ↓fX10_whyPlace_20, ↓fX10_whyPlace_21, ↓m_isIn, bI_0, ↓eS, ↓m_isN, c1, c2, and_self, true_and, and_true, false_and, and_false, not_true_eq_false, not_false_eq_true, or_self, true_or, or_true, false_or, or_false, ite_not, Decidable.not_not, decide_eq_true_eq, Bool.not_true, Bool.not_false, Bool.false_eq_true, Bool.not_eq_true, n10, n20, n21, n30, n31, n32, n40, n41, n42, n43, ↓reduceIte]⟩
theorem y_origin (hM : MD E r G m n σ) (hs : I32 s) (hy : I32 y) : ∃ G', lkM G G' m ∧ G' m 0 = (onS (decide ((y < 1))) n s (if tbZ (σ s.toNat) = true then (5, -1) else ans (lbZ (σ s.toNat) 1 (σ s.toNat 4) y))).1 ∧ ∀ Q, RK MX10_origin 0 [.ref m, .int (zi s), .int (zi y), jk] [] (0, 0) (E, zg G, zk L, r) Q = Q (E, zg G', zk L, r) (.int (zi (onS (decide ((y < 1))) n s (if tbZ (σ s.toNat) = true then (5, -1) else ans (lbZ (σ s.toNat) 1 (σ s.toNat 4) y))).2)) := by
  have hm := hM.1
  have m0 := hm.1
  have h6 := hM.2.1
  by_cases c1 : y < 1
  · have cb : onS (decide ((y < 1))) n s (if tbZ (σ s.toNat) = true then (5, -1) else ans (lbZ (σ s.toNat) 1 (σ s.toNat 4) y)) = (1, -1) := if_pos (decide_eq_true (by omega))
    rw [cb]
    exact ⟨iG G m 1, lkM_i, iG_0, fun Q => by simp (disch := first | assumption | exact c2_int _ | exact c2_ref _ | exact c2_jk | exact c2_null | omega | exact bI_r _ | exact bI_01 _) only [↓fX10_origin_0, ↓fX10_origin_1, ↓fX10_origin_2, ↓fX10_origin_3, ↓fX10_origin_4, ↓fX10_origin_5, ↓fX10_origin_8, ↓fX10_origin_9, ↓fX10_origin_12, ↓fX10_origin_13, ↓fX10_origin_16, ↓fX10_origin_19, ↓fX10_origin_22, ↓fX10_origin_23, ↓fX10_origin_24, ↓fX10_origin_25, ↓fX10_origin_26, ↓fX10_origin_27, ↓fX10_origin_30, ↓fX10_origin_33, ↓fX10_origin_34, ↓fX10_origin_35, ↓fX10_origin_38, ↓fX10_origin_41, ↓fX10_origin_42, ↓fX10_origin_43, ↓fX10_origin_46, ↓fX10_origin_47, ↓fX10_origin_48, ↓fX10_origin_49, ↓fX10_origin_50, ↓fX10_origin_51, ↓fX10_origin_52, ↓fX10_origin_53, ↓fX10_origin_54, ↓fX10_origin_57, ↓fX10_origin_60, ↓fX10_origin_61, ↓fX10_origin_64, ↓fX10_origin_65, ↓fX10_origin_66, ↓fX10_origin_69, ↓fX10_origin_72, ↓fX10_origin_73, ↓fX10_origin_74, ↓fX10_origin_77, ↓fX10_origin_78, ↓fX10_origin_79, ↓fX10_origin_82, ↓fX10_origin_83, ↓fX10_origin_84, ↓fX10_origin_85, ↓fX10_origin_86, ↓fX10_origin_87, ↓fX10_origin_88, ↓fX10_origin_89, ↓fX10_origin_90, ↓fX10_origin_91, ↓fX10_origin_92, ↓fX10_origin_95, ↓fX10_origin_96, ↓fX10_origin_99, ↓fX10_origin_100, ↓fX10_origin_101, ↓fX10_origin_102, ↓fX10_origin_105, ↓fX10_whyPlace_0, ↓fX10_whyPlace_1, ↓fX10_whyPlace_4, ↓fX10_whyPlace_5, ↓fX10_whyPlace_8, ↓fX10_whyPlace_9, ↓fX10_whyPlace_10, ↓fX10_whyPlace_13, ↓fX10_whyPlace_16, ↓fX10_whyPlace_17, ↓fX10_whyPlace_20, ↓fX10_whyPlace_21, ↓m_isIn, bI_0, ↓m_isN, c1, and_self, true_and, and_true, false_and, and_false, not_true_eq_false, not_false_eq_true, or_self, true_or, or_true, false_or, or_false, ite_not, Decidable.not_not, decide_eq_true_eq, Bool.not_true, Bool.not_false, Bool.false_eq_true, Bool.not_eq_true, n10, n20, n21, n30, n31, n32, n40, n41, n42, n43, ↓reduceIte]⟩
  · have cq : (decide ((y < 1))) = false := decide_eq_false (by omega)
    have cb : onS (decide ((y < 1))) n s (if tbZ (σ s.toNat) = true then (5, -1) else ans (lbZ (σ s.toNat) 1 (σ s.toNat 4) y)) = if 0 ≤ s ∧ s < n then (if tbZ (σ s.toNat) = true then (5, -1) else ans (lbZ (σ s.toNat) 1 (σ s.toNat 4) y)) else (2, -1) := if_neg (by rw [cq]; decide)
    rw [cb]
    by_cases c : 0 ≤ s ∧ s < n
    · rw [if_pos c]
      obtain ⟨hl, hW⟩ := hM.2.2 s.toNat (by omega)
      rw [Int.toNat_of_nonneg c.1] at hl
      have hz := szS_b hW
      have eS := fun Q => m_isS1 (L := L) (Q := Q) hM c
      obtain ⟨G2, hl2, ha, h12, h20, lk2, tr, eN⟩ := m_now (L := L) hm (show 0 ≤ s ∧ s ≤ 4 by omega) hl hW
      have hs4 : 0 ≤ s ∧ s ≤ 4 := by omega
      have w5 := WF_5 hW
      have w3 := hW.2.2.2.1
      have hl1 := SL_i (y := 0) hl
      obtain ⟨ka7, la7, ra7⟩ := hm.2.2.2.2.2.2.2.1
      have w4 := hW.2.2.2.2.1
      by_cases z4 : σ s.toNat 4 = 0
      · have et : tbZ (σ s.toNat) = false := decide_eq_false (fun q => q.1 (by omega))
        have eo : lbZ (σ s.toNat) 1 (σ s.toNat 4) y = -1 := if_pos (Or.inl (by omega))
        rw [et, if_neg (by decide), eo, ans_n]
        refine ⟨u2 (iG G m 0) m 0 5, lkM_i.trans lkM_0, u2_s _ _ _ _, fun Q => ?_⟩
        simp (disch := first | assumption | exact c2_int _ | exact c2_ref _ | exact c2_jk | exact c2_null | omega | exact bI_r _ | exact bI_01 _) only [↓fX10_origin_0, ↓fX10_origin_1, ↓fX10_origin_2, ↓fX10_origin_3, ↓fX10_origin_4, ↓fX10_origin_5, ↓fX10_origin_8, ↓fX10_origin_9, ↓fX10_origin_12, ↓fX10_origin_13, ↓fX10_origin_16, ↓fX10_origin_19, ↓fX10_origin_22, ↓fX10_origin_23, ↓fX10_origin_24, ↓fX10_origin_25, ↓fX10_origin_26, ↓fX10_origin_27, ↓fX10_origin_30, ↓fX10_origin_33, ↓fX10_origin_34, ↓fX10_origin_35, ↓fX10_origin_38, ↓fX10_origin_41, ↓fX10_origin_42, ↓fX10_origin_43, ↓fX10_origin_46, ↓fX10_origin_47, ↓fX10_origin_48, ↓fX10_origin_49, ↓fX10_origin_50, ↓fX10_origin_51, ↓fX10_origin_52, ↓fX10_origin_53, ↓fX10_origin_54, ↓fX10_origin_57, ↓fX10_origin_60, ↓fX10_origin_61, ↓fX10_origin_64, ↓fX10_origin_65, ↓fX10_origin_66, ↓fX10_origin_69, ↓fX10_origin_72, ↓fX10_origin_73, ↓fX10_origin_74, ↓fX10_origin_77, ↓fX10_origin_78, ↓fX10_origin_79, ↓fX10_origin_82, ↓fX10_origin_83, ↓fX10_origin_84, ↓fX10_origin_85, ↓fX10_origin_86, ↓fX10_origin_87, ↓fX10_origin_88, ↓fX10_origin_89, ↓fX10_origin_90, ↓fX10_origin_91, ↓fX10_origin_92, ↓fX10_origin_95, ↓fX10_origin_96, ↓fX10_origin_99, ↓fX10_origin_100, ↓fX10_origin_101, ↓fX10_origin_102, ↓fX10_origin_105, ↓fX10_whyPlace_0, ↓fX10_whyPlace_1, ↓fX10_whyPlace_4, ↓fX10_whyPlace_5, ↓fX10_whyPlace_8, ↓fX10_whyPlace_9, ↓fX10_whyPlace_10, ↓fX10_whyPlace_13, ↓fX10_whyPlace_16, ↓fX10_whyPlace_17, ↓fX10_whyPlace_20, ↓fX10_whyPlace_21, ↓m_isIn, bI_0, ↓eS, ↓m_is0, ↓m_of, Int.reduceToNat, ↓m_refuse, z4, c1, and_self, true_and, and_true, false_and, and_false, not_true_eq_false, not_false_eq_true, or_self, true_or, or_true, false_or, or_false, ite_not, Decidable.not_not, decide_eq_true_eq, Bool.not_true, Bool.not_false, Bool.false_eq_true, Bool.not_eq_true, n10, n20, n21, n30, n31, n32, n40, n41, n42, n43, ↓reduceIte]
      · have h41 : 1 ≤ σ s.toNat 4 := by omega
        have eB := fun Q => m_isBetween (L := L) (Q := Q) hm hs4 hl1 hW h41
        by_cases zt : tbZ (σ s.toNat) = true
        · rw [if_pos zt]
          rw [bI_p zt] at eB
          refine ⟨u2 (iG G m 0) m 0 5, lkM_i.trans lkM_0, u2_s _ _ _ _, fun Q => ?_⟩
          simp (disch := first | assumption | exact c2_int _ | exact c2_ref _ | exact c2_jk | exact c2_null | omega | exact bI_r _ | exact bI_01 _) only [↓fX10_origin_0, ↓fX10_origin_1, ↓fX10_origin_2, ↓fX10_origin_3, ↓fX10_origin_4, ↓fX10_origin_5, ↓fX10_origin_8, ↓fX10_origin_9, ↓fX10_origin_12, ↓fX10_origin_13, ↓fX10_origin_16, ↓fX10_origin_19, ↓fX10_origin_22, ↓fX10_origin_23, ↓fX10_origin_24, ↓fX10_origin_25, ↓fX10_origin_26, ↓fX10_origin_27, ↓fX10_origin_30, ↓fX10_origin_33, ↓fX10_origin_34, ↓fX10_origin_35, ↓fX10_origin_38, ↓fX10_origin_41, ↓fX10_origin_42, ↓fX10_origin_43, ↓fX10_origin_46, ↓fX10_origin_47, ↓fX10_origin_48, ↓fX10_origin_49, ↓fX10_origin_50, ↓fX10_origin_51, ↓fX10_origin_52, ↓fX10_origin_53, ↓fX10_origin_54, ↓fX10_origin_57, ↓fX10_origin_60, ↓fX10_origin_61, ↓fX10_origin_64, ↓fX10_origin_65, ↓fX10_origin_66, ↓fX10_origin_69, ↓fX10_origin_72, ↓fX10_origin_73, ↓fX10_origin_74, ↓fX10_origin_77, ↓fX10_origin_78, ↓fX10_origin_79, ↓fX10_origin_82, ↓fX10_origin_83, ↓fX10_origin_84, ↓fX10_origin_85, ↓fX10_origin_86, ↓fX10_origin_87, ↓fX10_origin_88, ↓fX10_origin_89, ↓fX10_origin_90, ↓fX10_origin_91, ↓fX10_origin_92, ↓fX10_origin_95, ↓fX10_origin_96, ↓fX10_origin_99, ↓fX10_origin_100, ↓fX10_origin_101, ↓fX10_origin_102, ↓fX10_origin_105, ↓fX10_whyPlace_0, ↓fX10_whyPlace_1, ↓fX10_whyPlace_4, ↓fX10_whyPlace_5, ↓fX10_whyPlace_8, ↓fX10_whyPlace_9, ↓fX10_whyPlace_10, ↓fX10_whyPlace_13, ↓fX10_whyPlace_16, ↓fX10_whyPlace_17, ↓fX10_whyPlace_20, ↓fX10_whyPlace_21, ↓m_isIn, bI_0, ↓eS, ↓m_is0, ↓m_of, Int.reduceToNat, ↓m_refuse, ↓eB, z4, c1, and_self, true_and, and_true, false_and, and_false, not_true_eq_false, not_false_eq_true, or_self, true_or, or_true, false_or, or_false, ite_not, Decidable.not_not, decide_eq_true_eq, Bool.not_true, Bool.not_false, Bool.false_eq_true, Bool.not_eq_true, n10, n20, n21, n30, n31, n32, n40, n41, n42, n43, ↓reduceIte]
        · rw [if_neg zt]
          rw [bI_n zt] at eB
          have wb := whZ_b hW (y := σ s.toNat 4) (by omega)
          have wb1 := whZ_b hW (y := 1) (by omega)
          have wle : whZ (σ s.toNat) 1 ≤ whZ (σ s.toNat) (σ s.toNat 4) := by
            by_cases q : σ s.toNat 4 = 1
            · rw [q]
              exact Int.le_refl _
            · have := whZ_lt hW (i := 1) (j := σ s.toNat 4) (by omega) (by omega) (by omega)
              omega
          obtain ⟨G3, k3, a3, e3⟩ := m_layT (L := L) (G := iG G m 0) (t := whZ (σ s.toNat) (σ s.toNat 4)) (b := 1) hm hs4 hl1 hW (by omega) (Or.inr rfl)
          obtain ⟨i1, i2, i3⟩ := ia_at hW a3 (p := y) (by omega)
          have hl3 := k3.1 _ _ hl1
          unfold lbZ
          rw [if_neg (show ¬ (σ s.toNat 4 < 1 ∨ ¬ (1 ≤ σ s.toNat 4 ∧ σ s.toNat 4 ≤ σ s.toNat 4)) by omega)]
          by_cases zk : y ≤ G3 m 12
          · obtain ⟨j1, j2, j3⟩ := i1 zk
            rw [if_neg (show ¬ iaZ (σ s.toNat) y (whZ (σ s.toNat) (σ s.toNat 4) + 1) = -1 by omega)]
            generalize iaZ (σ s.toNat) y (whZ (σ s.toNat) (σ s.toNat 4) + 1) = ix at j1 j2 j3 ⊢
            obtain ⟨G4, k4, a4, e4⟩ := m_layT (L := L) (G := G3) (t := whZ (σ s.toNat) 1) (b := 0) hm hs4 hl3 hW (by omega) (Or.inl rfl)
            rw [Int.add_zero] at a4
            have pl := fun Q => m_placeOf (L := L) (Q := Q) (s := s) (i := ix) hm a4 (by omega) ⟨by omega, by omega⟩ (by omega)
            have jg : geZ (σ s.toNat) (whZ (σ s.toNat) 1) ix = true := by
              have := of_decide_eq_true j3
              exact decide_eq_true (by omega)
            rw [pl_pa j2 jg] at pl
            have pb := paZ_b (σ s.toNat) ix (whZ (σ s.toNat) 1)
            rw [ans_y pb.1]
            have j1' : G3 (m + 7) (y - 1).toNat = ix := j1.symm
            refine ⟨G4, (lkM_i.trans k3.2.2).trans k4.2.2, (k4.2.1.trans k3.2.1).trans iG_0, fun Q => ?_⟩
            simp (disch := first | assumption | exact c2_int _ | exact c2_ref _ | exact c2_jk | exact c2_null | omega | exact bI_r _ | exact bI_01 _) only [↓fX10_origin_0, ↓fX10_origin_1, ↓fX10_origin_2, ↓fX10_origin_3, ↓fX10_origin_4, ↓fX10_origin_5, ↓fX10_origin_8, ↓fX10_origin_9, ↓fX10_origin_12, ↓fX10_origin_13, ↓fX10_origin_16, ↓fX10_origin_19, ↓fX10_origin_22, ↓fX10_origin_23, ↓fX10_origin_24, ↓fX10_origin_25, ↓fX10_origin_26, ↓fX10_origin_27, ↓fX10_origin_30, ↓fX10_origin_33, ↓fX10_origin_34, ↓fX10_origin_35, ↓fX10_origin_38, ↓fX10_origin_41, ↓fX10_origin_42, ↓fX10_origin_43, ↓fX10_origin_46, ↓fX10_origin_47, ↓fX10_origin_48, ↓fX10_origin_49, ↓fX10_origin_50, ↓fX10_origin_51, ↓fX10_origin_52, ↓fX10_origin_53, ↓fX10_origin_54, ↓fX10_origin_57, ↓fX10_origin_60, ↓fX10_origin_61, ↓fX10_origin_64, ↓fX10_origin_65, ↓fX10_origin_66, ↓fX10_origin_69, ↓fX10_origin_72, ↓fX10_origin_73, ↓fX10_origin_74, ↓fX10_origin_77, ↓fX10_origin_78, ↓fX10_origin_79, ↓fX10_origin_82, ↓fX10_origin_83, ↓fX10_origin_84, ↓fX10_origin_85, ↓fX10_origin_86, ↓fX10_origin_87, ↓fX10_origin_88, ↓fX10_origin_89, ↓fX10_origin_90, ↓fX10_origin_91, ↓fX10_origin_92, ↓fX10_origin_95, ↓fX10_origin_96, ↓fX10_origin_99, ↓fX10_origin_100, ↓fX10_origin_101, ↓fX10_origin_102, ↓fX10_origin_105, ↓fX10_whyPlace_0, ↓fX10_whyPlace_1, ↓fX10_whyPlace_4, ↓fX10_whyPlace_5, ↓fX10_whyPlace_8, ↓fX10_whyPlace_9, ↓fX10_whyPlace_10, ↓fX10_whyPlace_13, ↓fX10_whyPlace_16, ↓fX10_whyPlace_17, ↓fX10_whyPlace_20, ↓fX10_whyPlace_21, ↓m_isIn, bI_0, ↓eS, ↓m_is0, ↓m_of, Int.reduceToNat, ↓eB, ↓m_when, ↓e3, ↓e4, ↓pl, z4, zk, j1', c1, and_self, true_and, and_true, false_and, and_false, not_true_eq_false, not_false_eq_true, or_self, true_or, or_true, false_or, or_false, ite_not, Decidable.not_not, decide_eq_true_eq, Bool.not_true, Bool.not_false, Bool.false_eq_true, Bool.not_eq_true, n10, n20, n21, n30, n31, n32, n40, n41, n42, n43, ↓reduceIte]
          · rw [i2 zk, if_pos rfl, ans_n]
            refine ⟨u2 G3 m 0 5, (lkM_i.trans k3.2.2).trans lkM_0, u2_s _ _ _ _, fun Q => ?_⟩
            simp (disch := first | assumption | exact c2_int _ | exact c2_ref _ | exact c2_jk | exact c2_null | omega | exact bI_r _ | exact bI_01 _) only [↓fX10_origin_0, ↓fX10_origin_1, ↓fX10_origin_2, ↓fX10_origin_3, ↓fX10_origin_4, ↓fX10_origin_5, ↓fX10_origin_8, ↓fX10_origin_9, ↓fX10_origin_12, ↓fX10_origin_13, ↓fX10_origin_16, ↓fX10_origin_19, ↓fX10_origin_22, ↓fX10_origin_23, ↓fX10_origin_24, ↓fX10_origin_25, ↓fX10_origin_26, ↓fX10_origin_27, ↓fX10_origin_30, ↓fX10_origin_33, ↓fX10_origin_34, ↓fX10_origin_35, ↓fX10_origin_38, ↓fX10_origin_41, ↓fX10_origin_42, ↓fX10_origin_43, ↓fX10_origin_46, ↓fX10_origin_47, ↓fX10_origin_48, ↓fX10_origin_49, ↓fX10_origin_50, ↓fX10_origin_51, ↓fX10_origin_52, ↓fX10_origin_53, ↓fX10_origin_54, ↓fX10_origin_57, ↓fX10_origin_60, ↓fX10_origin_61, ↓fX10_origin_64, ↓fX10_origin_65, ↓fX10_origin_66, ↓fX10_origin_69, ↓fX10_origin_72, ↓fX10_origin_73, ↓fX10_origin_74, ↓fX10_origin_77, ↓fX10_origin_78, ↓fX10_origin_79, ↓fX10_origin_82, ↓fX10_origin_83, ↓fX10_origin_84, ↓fX10_origin_85, ↓fX10_origin_86, ↓fX10_origin_87, ↓fX10_origin_88, ↓fX10_origin_89, ↓fX10_origin_90, ↓fX10_origin_91, ↓fX10_origin_92, ↓fX10_origin_95, ↓fX10_origin_96, ↓fX10_origin_99, ↓fX10_origin_100, ↓fX10_origin_101, ↓fX10_origin_102, ↓fX10_origin_105, ↓fX10_whyPlace_0, ↓fX10_whyPlace_1, ↓fX10_whyPlace_4, ↓fX10_whyPlace_5, ↓fX10_whyPlace_8, ↓fX10_whyPlace_9, ↓fX10_whyPlace_10, ↓fX10_whyPlace_13, ↓fX10_whyPlace_16, ↓fX10_whyPlace_17, ↓fX10_whyPlace_20, ↓fX10_whyPlace_21, ↓m_isIn, bI_0, ↓eS, ↓m_is0, ↓m_of, Int.reduceToNat, ↓eB, ↓m_when, ↓e3, ↓m_refuse, z4, zk, c1, and_self, true_and, and_true, false_and, and_false, not_true_eq_false, not_false_eq_true, or_self, true_or, or_true, false_or, or_false, ite_not, Decidable.not_not, decide_eq_true_eq, Bool.not_true, Bool.not_false, Bool.false_eq_true, Bool.not_eq_true, n10, n20, n21, n30, n31, n32, n40, n41, n42, n43, ↓reduceIte]
    · rw [if_neg c]
      have eS := fun Q => m_isS0 (L := L) (Q := Q) hM hs c
      exact ⟨iG G m 2, lkM_i, iG_0, fun Q => by simp (disch := first | assumption | exact c2_int _ | exact c2_ref _ | exact c2_jk | exact c2_null | omega | exact bI_r _ | exact bI_01 _) only [↓fX10_origin_0, ↓fX10_origin_1, ↓fX10_origin_2, ↓fX10_origin_3, ↓fX10_origin_4, ↓fX10_origin_5, ↓fX10_origin_8, ↓fX10_origin_9, ↓fX10_origin_12, ↓fX10_origin_13, ↓fX10_origin_16, ↓fX10_origin_19, ↓fX10_origin_22, ↓fX10_origin_23, ↓fX10_origin_24, ↓fX10_origin_25, ↓fX10_origin_26, ↓fX10_origin_27, ↓fX10_origin_30, ↓fX10_origin_33, ↓fX10_origin_34, ↓fX10_origin_35, ↓fX10_origin_38, ↓fX10_origin_41, ↓fX10_origin_42, ↓fX10_origin_43, ↓fX10_origin_46, ↓fX10_origin_47, ↓fX10_origin_48, ↓fX10_origin_49, ↓fX10_origin_50, ↓fX10_origin_51, ↓fX10_origin_52, ↓fX10_origin_53, ↓fX10_origin_54, ↓fX10_origin_57, ↓fX10_origin_60, ↓fX10_origin_61, ↓fX10_origin_64, ↓fX10_origin_65, ↓fX10_origin_66, ↓fX10_origin_69, ↓fX10_origin_72, ↓fX10_origin_73, ↓fX10_origin_74, ↓fX10_origin_77, ↓fX10_origin_78, ↓fX10_origin_79, ↓fX10_origin_82, ↓fX10_origin_83, ↓fX10_origin_84, ↓fX10_origin_85, ↓fX10_origin_86, ↓fX10_origin_87, ↓fX10_origin_88, ↓fX10_origin_89, ↓fX10_origin_90, ↓fX10_origin_91, ↓fX10_origin_92, ↓fX10_origin_95, ↓fX10_origin_96, ↓fX10_origin_99, ↓fX10_origin_100, ↓fX10_origin_101, ↓fX10_origin_102, ↓fX10_origin_105, ↓fX10_whyPlace_0, ↓fX10_whyPlace_1, ↓fX10_whyPlace_4, ↓fX10_whyPlace_5, ↓fX10_whyPlace_8, ↓fX10_whyPlace_9, ↓fX10_whyPlace_10, ↓fX10_whyPlace_13, ↓fX10_whyPlace_16, ↓fX10_whyPlace_17, ↓fX10_whyPlace_20, ↓fX10_whyPlace_21, ↓m_isIn, bI_0, ↓eS, ↓m_isN, c1, and_self, true_and, and_true, false_and, and_false, not_true_eq_false, not_false_eq_true, or_self, true_or, or_true, false_or, or_false, ite_not, Decidable.not_not, decide_eq_true_eq, Bool.not_true, Bool.not_false, Bool.false_eq_true, Bool.not_eq_true, n10, n20, n21, n30, n31, n32, n40, n41, n42, n43, ↓reduceIte]⟩
theorem y_gone (hM : MD E r G m n σ) (hs : I32 s) (hk : I32 k) : ∃ G', lkM G G' m ∧ G' m 0 = (onS (decide ((k < -1))) n s (if k = -1 then (0, σ s.toNat 3 - szS (σ s.toNat)) else ans (snZ (σ s.toNat) k))).1 ∧ ∀ Q, RK MX10_gone 0 [.ref m, .int (zi s), .int (zi k), jk, jk] [] (0, 0) (E, zg G, zk L, r) Q = Q (E, zg G', zk L, r) (.int (zi (onS (decide ((k < -1))) n s (if k = -1 then (0, σ s.toNat 3 - szS (σ s.toNat)) else ans (snZ (σ s.toNat) k))).2)) := by
  have hm := hM.1
  have m0 := hm.1
  have h6 := hM.2.1
  by_cases c1 : k < -1
  · have cb : onS (decide ((k < -1))) n s (if k = -1 then (0, σ s.toNat 3 - szS (σ s.toNat)) else ans (snZ (σ s.toNat) k)) = (1, -1) := if_pos (decide_eq_true (by omega))
    rw [cb]
    exact ⟨iG G m 1, lkM_i, iG_0, fun Q => by simp (disch := first | assumption | exact c2_int _ | exact c2_ref _ | exact c2_jk | exact c2_null | omega | exact bI_r _ | exact bI_01 _) only [↓fX10_gone_0, ↓fX10_gone_1, ↓fX10_gone_2, ↓fX10_gone_3, ↓fX10_gone_4, ↓fX10_gone_5, ↓fX10_gone_8, ↓fX10_gone_9, ↓fX10_gone_12, ↓fX10_gone_13, ↓fX10_gone_16, ↓fX10_gone_19, ↓fX10_gone_22, ↓fX10_gone_23, ↓fX10_gone_24, ↓fX10_gone_25, ↓fX10_gone_26, ↓fX10_gone_27, ↓fX10_gone_29, ↓fX10_gone_31, ↓fX10_gone_32, ↓fX10_gone_33, ↓fX10_gone_34, ↓fX10_gone_37, ↓fX10_gone_40, ↓fX10_gone_41, ↓fX10_gone_42, ↓fX10_gone_44, ↓fX10_gone_47, ↓fX10_gone_50, ↓fX10_gone_53, ↓fX10_gone_54, ↓fX10_gone_55, ↓fX10_gone_58, ↓fX10_gone_59, ↓fX10_gone_60, ↓fX10_gone_62, ↓fX10_gone_65, ↓fX10_gone_66, ↓fX10_gone_69, ↓fX10_gone_72, ↓fX10_gone_75, ↓fX10_gone_76, ↓fX10_gone_77, ↓fX10_gone_80, ↓fX10_gone_81, ↓fX10_gone_84, ↓fX10_gone_85, ↓fX10_gone_86, ↓fX10_gone_89, ↓fX10_whyPlace_0, ↓fX10_whyPlace_1, ↓fX10_whyPlace_4, ↓fX10_whyPlace_5, ↓fX10_whyPlace_8, ↓fX10_whyPlace_9, ↓fX10_whyPlace_10, ↓fX10_whyPlace_13, ↓fX10_whyPlace_16, ↓fX10_whyPlace_17, ↓fX10_whyPlace_20, ↓fX10_whyPlace_21, ↓m_isIn, bI_0, ↓m_isN, c1, and_self, true_and, and_true, false_and, and_false, not_true_eq_false, not_false_eq_true, or_self, true_or, or_true, false_or, or_false, ite_not, Decidable.not_not, decide_eq_true_eq, Bool.not_true, Bool.not_false, Bool.false_eq_true, Bool.not_eq_true, n10, n20, n21, n30, n31, n32, n40, n41, n42, n43, ↓reduceIte]⟩
  · have cq : (decide ((k < -1))) = false := decide_eq_false (by omega)
    have cb : onS (decide ((k < -1))) n s (if k = -1 then (0, σ s.toNat 3 - szS (σ s.toNat)) else ans (snZ (σ s.toNat) k)) = if 0 ≤ s ∧ s < n then (if k = -1 then (0, σ s.toNat 3 - szS (σ s.toNat)) else ans (snZ (σ s.toNat) k)) else (2, -1) := if_neg (by rw [cq]; decide)
    rw [cb]
    by_cases c : 0 ≤ s ∧ s < n
    · rw [if_pos c]
      obtain ⟨hl, hW⟩ := hM.2.2 s.toNat (by omega)
      rw [Int.toNat_of_nonneg c.1] at hl
      have hz := szS_b hW
      have eS := fun Q => m_isS1 (L := L) (Q := Q) hM c
      obtain ⟨G2, hl2, ha, h12, h20, lk2, tr, eN⟩ := m_now (L := L) hm (show 0 ≤ s ∧ s ≤ 4 by omega) hl hW
      have hs4 : 0 ≤ s ∧ s ≤ 4 := by omega
      have w5 := WF_5 hW
      have w3 := hW.2.2.2.1
      have hl1 := SL_i (y := 0) hl
      have lp := fun Q => m_gone_loop (L := L) (Q := Q) (G := iG G m 0) (k := k) hm hs4 hl1 hW hk 600 0 0 (by omega) (by omega) (by omega) (by omega) (by omega)
      rw [gn_m hW (by omega)]
      refine ⟨rfG (iG G m 0) m (gnV (σ s.toNat) k 600 0 0), lkM_i.trans rfG_lk, rfG_st iG_0, fun Q => ?_⟩
      simp (disch := first | assumption | exact c2_int _ | exact c2_ref _ | exact c2_jk | exact c2_null | omega | exact bI_r _ | exact bI_01 _) only [↓fX10_gone_0, ↓fX10_gone_1, ↓fX10_gone_2, ↓fX10_gone_3, ↓fX10_gone_4, ↓fX10_gone_5, ↓fX10_gone_8, ↓fX10_gone_9, ↓fX10_gone_12, ↓fX10_gone_13, ↓fX10_gone_16, ↓fX10_gone_19, ↓fX10_gone_22, ↓fX10_gone_23, ↓fX10_gone_24, ↓fX10_gone_25, ↓fX10_gone_26, ↓fX10_gone_27, ↓fX10_gone_31, ↓fX10_gone_32, ↓fX10_gone_33, ↓fX10_gone_34, ↓fX10_gone_37, ↓fX10_gone_40, ↓fX10_gone_41, ↓fX10_gone_42, ↓fX10_gone_44, ↓fX10_gone_47, ↓fX10_gone_50, ↓fX10_gone_53, ↓fX10_gone_54, ↓fX10_gone_55, ↓fX10_gone_58, ↓fX10_gone_59, ↓fX10_gone_60, ↓fX10_gone_62, ↓fX10_gone_65, ↓fX10_gone_66, ↓fX10_gone_69, ↓fX10_gone_72, ↓fX10_gone_75, ↓fX10_gone_76, ↓fX10_gone_77, ↓fX10_gone_80, ↓fX10_gone_81, ↓fX10_gone_84, ↓fX10_gone_85, ↓fX10_gone_86, ↓fX10_gone_89, ↓fX10_whyPlace_0, ↓fX10_whyPlace_1, ↓fX10_whyPlace_4, ↓fX10_whyPlace_5, ↓fX10_whyPlace_8, ↓fX10_whyPlace_9, ↓fX10_whyPlace_10, ↓fX10_whyPlace_13, ↓fX10_whyPlace_16, ↓fX10_whyPlace_17, ↓fX10_whyPlace_20, ↓fX10_whyPlace_21, ↓m_isIn, bI_0, ↓eS, ↓m_is0, ↓lp, c1, and_self, true_and, and_true, false_and, and_false, not_true_eq_false, not_false_eq_true, or_self, true_or, or_true, false_or, or_false, ite_not, Decidable.not_not, decide_eq_true_eq, Bool.not_true, Bool.not_false, Bool.false_eq_true, Bool.not_eq_true, n10, n20, n21, n30, n31, n32, n40, n41, n42, n43, ↓reduceIte]
      rfl
    · rw [if_neg c]
      have eS := fun Q => m_isS0 (L := L) (Q := Q) hM hs c
      exact ⟨iG G m 2, lkM_i, iG_0, fun Q => by simp (disch := first | assumption | exact c2_int _ | exact c2_ref _ | exact c2_jk | exact c2_null | omega | exact bI_r _ | exact bI_01 _) only [↓fX10_gone_0, ↓fX10_gone_1, ↓fX10_gone_2, ↓fX10_gone_3, ↓fX10_gone_4, ↓fX10_gone_5, ↓fX10_gone_8, ↓fX10_gone_9, ↓fX10_gone_12, ↓fX10_gone_13, ↓fX10_gone_16, ↓fX10_gone_19, ↓fX10_gone_22, ↓fX10_gone_23, ↓fX10_gone_24, ↓fX10_gone_25, ↓fX10_gone_26, ↓fX10_gone_27, ↓fX10_gone_29, ↓fX10_gone_31, ↓fX10_gone_32, ↓fX10_gone_33, ↓fX10_gone_34, ↓fX10_gone_37, ↓fX10_gone_40, ↓fX10_gone_41, ↓fX10_gone_42, ↓fX10_gone_44, ↓fX10_gone_47, ↓fX10_gone_50, ↓fX10_gone_53, ↓fX10_gone_54, ↓fX10_gone_55, ↓fX10_gone_58, ↓fX10_gone_59, ↓fX10_gone_60, ↓fX10_gone_62, ↓fX10_gone_65, ↓fX10_gone_66, ↓fX10_gone_69, ↓fX10_gone_72, ↓fX10_gone_75, ↓fX10_gone_76, ↓fX10_gone_77, ↓fX10_gone_80, ↓fX10_gone_81, ↓fX10_gone_84, ↓fX10_gone_85, ↓fX10_gone_86, ↓fX10_gone_89, ↓fX10_whyPlace_0, ↓fX10_whyPlace_1, ↓fX10_whyPlace_4, ↓fX10_whyPlace_5, ↓fX10_whyPlace_8, ↓fX10_whyPlace_9, ↓fX10_whyPlace_10, ↓fX10_whyPlace_13, ↓fX10_whyPlace_16, ↓fX10_whyPlace_17, ↓fX10_whyPlace_20, ↓fX10_whyPlace_21, ↓m_isIn, bI_0, ↓eS, ↓m_isN, c1, and_self, true_and, and_true, false_and, and_false, not_true_eq_false, not_false_eq_true, or_self, true_or, or_true, false_or, or_false, ite_not, Decidable.not_not, decide_eq_true_eq, Bool.not_true, Bool.not_false, Bool.false_eq_true, Bool.not_eq_true, n10, n20, n21, n30, n31, n32, n40, n41, n42, n43, ↓reduceIte]⟩
end BM
