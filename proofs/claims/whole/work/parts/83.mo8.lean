/-! Calls of the reference that only look. -/
section BM
variable {E : AE} {G G1 G2 G' L : Nat → Nat → Int} {r : Nat → Nat → Option Nat} {h : AH} {Q : AH → Value → Prop} {m M n cl ln1 : Nat} {σ τ : Nat → Int} {σs : Nat → Nat → Int} {P : Int → Bool} {s o y x w i p v lo hi t b d e c f g k : Int} {lv1 : Nat → Int} {ln : Nat → Nat} {lv : Nat → Nat → Int}
/-- how many rounds there can be yet -/
def muS (σ : Nat → Int) : Int := if σ 0 ≤ 3 then szS σ - 1 else if σ 0 = 4 then σ 9 - σ 4 else σ 7 - σ 4
theorem mu_0 (w : WF σ) : 0 ≤ muS σ ∧ muS σ ≤ 599 := by
  have hz := szS_b w
  have w0 := w.1
  have w4 := w.2.2.2.2.1
  unfold muS
  by_cases k3 : σ 0 ≤ 3
  · rw [if_pos k3]
    omega
  · rw [if_neg k3]
    by_cases k4 : σ 0 = 4
    · have := w.2.2.2.2.2.2.2.1 k4
      rw [if_pos k4]
      omega
    · have := w.2.2.2.2.2.2.2.2.1 (by omega)
      rw [if_neg k4]
      omega
theorem mu_s (w : WF σ) (hn : ngS σ ≠ -1) : muS (swS σ (ngS σ)) + 1 ≤ muS σ := by
  obtain ⟨n1, n2, n3, n4⟩ := ngS_ok w hn
  have w0 := w.1
  have e0 : swS σ (ngS σ) 0 = σ 0 := swS_lo σ _ (by decide) (by decide) (by decide) w
  have e9 : swS σ (ngS σ) 9 = σ 9 := swS_lo σ _ (by decide) (by decide) (by decide) w
  have e7 : swS σ (ngS σ) 7 = σ 7 := swS_lo σ _ (by decide) (by decide) (by decide) w
  have e4 : swS σ (ngS σ) 4 = σ 4 + 1 := rfl
  have hz := swS_sz w n1.1
  unfold muS
  rw [e0, e9, e7, e4]
  by_cases k3 : σ 0 ≤ 3
  · have := hz.2.2 (n2 k3)
    rw [if_pos k3, if_pos k3]
    omega
  · rw [if_neg k3, if_neg k3]
    by_cases k4 : σ 0 = 4
    · rw [if_pos k4, if_pos k4]
      omega
    · rw [if_neg k4, if_neg k4]
      omega
theorem smS_WF : ∀ (k : Nat) (σ : Nat → Int), WF σ → WF (smS k σ).1 := by
  intro k
  induction k with
  | zero => intro σ w; exact w
  | succ k ih =>
    intro σ w
    unfold smS
    by_cases q : ngS σ = -1
    · rw [if_pos q]
      exact w
    · rw [if_neg q]
      exact ih _ (swS_WF w q)
theorem sm_done : ∀ (k : Nat) (σ : Nat → Int), WF σ → muS σ ≤ k → ngS (smS k σ).1 = -1 := by
  intro k
  induction k with
  | zero =>
    intro σ w h
    show ngS σ = -1
    refine Classical.byContradiction fun q => ?_
    have h1 := mu_s w q
    have h2 := (mu_0 (swS_WF w q)).1
    omega
  | succ k ih =>
    intro σ w h
    unfold smS
    by_cases q : ngS σ = -1
    · rw [if_pos q]
      exact q
    · rw [if_neg q]
      have h1 := mu_s w q
      exact ih _ (swS_WF w q) (by omega)
theorem smS_n : ∀ (k : Nat) (σ : Nat → Int), 0 ≤ (smS k σ).2 ∧ (smS k σ).2 ≤ k := by
  intro k
  induction k with
  | zero => intro σ; exact ⟨Int.le_refl _, Int.le_refl _⟩
  | succ k ih =>
    intro σ
    unfold smS
    have := ih (swS σ (ngS σ))
    split
    · show 0 ≤ (0 : Int) ∧ (0 : Int) ≤ _
      omega
    · show 0 ≤ (smS k (swS σ (ngS σ))).2 + 1 ∧ (smS k (swS σ (ngS σ))).2 + 1 ≤ _
      omega
theorem m_rAll_loop (hm : shM E r m) (hs : 0 ≤ s ∧ s ≤ 4) : ∀ (k : Nat) (σ : Nat → Int) (G : Nat → Nat → Int) (c : Int), SL G m s σ → WF σ → ngS (smS k σ).1 = -1 → 0 ≤ c → c + k ≤ 10000 →
    ∃ G2, KW G G2 m s ∧ SL G2 m s (smS k σ).1 ∧ ∀ Q, RK MX10_roundsAll 2 [.ref m, .int (zi s), .int (zi c)] [] (0, 0) (E, zg G, zk L, r) Q = Q (E, zg G2, zk L, r) (.int (zi (c + (smS k σ).2))) := by
  have m0 := hm.1
  intro k
  have stop : ∀ (σ : Nat → Int) (G : Nat → Nat → Int) (c : Int), SL G m s σ → WF σ → ngS σ = -1 → ∃ G2, KW G G2 m s ∧ SL G2 m s σ ∧ ∀ Q, RK MX10_roundsAll 2 [.ref m, .int (zi s), .int (zi c)] [] (0, 0) (E, zg G, zk L, r) Q = Q (E, zg G2, zk L, r) (.int (zi (c + 0))) := by
    intro σ G c hl hW hn
    obtain ⟨G2, k2, hl2, -, e⟩ := m_rounds0 (L := L) hm hs hl hW hn
    refine ⟨G2, k2, hl2, fun Q => ?_⟩
    have m1 : (-1 : Int) < 0 := by decide
    rw [Int.add_zero]
    simp (disch := first | assumption | exact c2_int _ | exact c2_ref _ | exact c2_jk | exact c2_null | omega | exact bI_r _ | exact bI_01 _) only [↓fX10_roundsAll_0, ↓fX10_roundsAll_1, ↓fX10_roundsAll_2, ↓fX10_roundsAll_3, ↓fX10_roundsAll_4, ↓fX10_roundsAll_7, ↓fX10_roundsAll_10, ↓fX10_roundsAll_13, ↓fX10_roundsAll_16, ↓fX10_roundsAll_17, ↓e, m1, and_self, true_and, and_true, false_and, and_false, not_true_eq_false, not_false_eq_true, or_self, true_or, or_true, false_or, or_false, ite_not, Decidable.not_not, decide_eq_true_eq, Bool.not_true, Bool.not_false, Bool.false_eq_true, Bool.not_eq_true, n10, n20, n21, n30, n31, n32, n40, n41, n42, n43, ↓reduceIte]
  induction k with
  | zero => intro σ G c hl hW hd h1 h2; exact stop σ G c hl hW hd
  | succ k ih =>
    intro σ G c hl hW hd h1 h2
    by_cases hn : ngS σ = -1
    · have es : smS (k + 1) σ = (σ, 0) := by rw [smS, if_pos hn]
      rw [es]
      exact stop σ G c hl hW hn
    · have es : smS (k + 1) σ = ((smS k (swS σ (ngS σ))).1, (smS k (swS σ (ngS σ))).2 + 1) := by rw [smS, if_neg hn]
      rw [es] at hd ⊢
      obtain ⟨G2, k2, hl2, e⟩ := m_rounds (L := L) hm hs hl hW hn
      obtain ⟨G3, k3, hl3, e3⟩ := ih (swS σ (ngS σ)) G2 (c + 1) hl2 (swS_WF hW hn) hd (by omega) (by omega)
      have hz := szS_b hW
      have hz2 := swS_sz hW (ngS_ok hW hn).1.1
      have hge : ¬ szS σ - szS (swS σ (ngS σ)) < 0 := by omega
      refine ⟨G3, k2.trans k3, hl3, fun Q => ?_⟩
      rw [fX10_roundsAll_2]
      simp (disch := first | assumption | exact c2_int _ | exact c2_ref _ | exact c2_jk | exact c2_null | omega | exact bI_r _ | exact bI_01 _) only [↓fX10_roundsAll_0, ↓fX10_roundsAll_1, ↓fX10_roundsAll_3, ↓fX10_roundsAll_4, ↓fX10_roundsAll_7, ↓fX10_roundsAll_10, ↓fX10_roundsAll_13, ↓fX10_roundsAll_16, ↓fX10_roundsAll_17, ↓e, ↓e3, hge, and_self, true_and, and_true, false_and, and_false, not_true_eq_false, not_false_eq_true, or_self, true_or, or_true, false_or, or_false, ite_not, Decidable.not_not, decide_eq_true_eq, Bool.not_true, Bool.not_false, Bool.false_eq_true, Bool.not_eq_true, n10, n20, n21, n30, n31, n32, n40, n41, n42, n43, ↓reduceIte]
      rw [show c + ((smS k (swS σ (ngS σ))).2 + 1) = c + 1 + (smS k (swS σ (ngS σ))).2 by omega]
theorem m_roundsAll (hm : shM E r m) (hs : 0 ≤ s ∧ s ≤ 4) (hl : SL G m s σ) (hW : WF σ) : ∃ G2, KW G G2 m s ∧ SL G2 m s (smS 600 σ).1 ∧ ∀ Q, RK MX10_roundsAll 0 [.ref m, .int (zi s), jk] [] (0, 0) (E, zg G, zk L, r) Q = Q (E, zg G2, zk L, r) (.int (zi (smS 600 σ).2)) := by
  have m0 := hm.1
  have mu := mu_0 hW
  obtain ⟨G2, k2, hl2, e⟩ := m_rAll_loop (L := L) hm hs 600 σ G 0 hl hW (sm_done 600 σ hW (by omega)) (by omega) (by omega)
  refine ⟨G2, k2, hl2, fun Q => ?_⟩
  have e' := e Q
  rw [Int.zero_add] at e'
  simp (disch := first | assumption | exact c2_int _ | exact c2_ref _ | exact c2_jk | exact c2_null | omega | exact bI_r _ | exact bI_01 _) only [↓fX10_roundsAll_0, ↓fX10_roundsAll_1, ↓fX10_roundsAll_3, ↓fX10_roundsAll_4, ↓fX10_roundsAll_7, ↓fX10_roundsAll_10, ↓fX10_roundsAll_13, ↓fX10_roundsAll_16, ↓fX10_roundsAll_17]
  exact e'
def taG (G : Nat → Nat → Int) (m : Nat) (s : Int) (n : Nat) : Nat → Nat → Int := fun x j => if x = m + 1 ∧ 7296 ≤ j ∧ j < 7296 + n then G (m + 1) ((1824 * s).toNat + (j - 7296)) else G x j
theorem m_tries_loop (hm : shM E r m) (hs : 0 ≤ s ∧ s ≤ 3) : ∀ (k n : Nat), 1824 - n ≤ k → n ≤ 1824 → RK MX10_triesAside 2 [.ref m, .int (zi s), .int (zi (n : Int))] [] (0, 0) (E, zg (taG G m s n), zk L, r) Q = Q (E, zg (taG G m s 1824), zk L, r) .null := by
  have m0 := hm.1
  obtain ⟨ka1, la1, ra1⟩ := hm.2.1
  intro k
  induction k with
  | zero =>
    intro n h1 h2
    have en : n = 1824 := by omega
    subst en
    have h6 : ¬ ((1824 : Nat) : Int) < 1824 := by decide
    simp (disch := first | assumption | exact c2_int _ | exact c2_ref _ | exact c2_jk | exact c2_null | omega | exact bI_r _ | exact bI_01 _) only [↓fX10_triesAside_0, ↓fX10_triesAside_1, ↓fX10_triesAside_2, ↓fX10_triesAside_3, ↓fX10_triesAside_6, ↓fX10_triesAside_9, ↓fX10_triesAside_10, ↓fX10_triesAside_13, ↓fX10_triesAside_16, ↓fX10_triesAside_17, ↓fX10_triesAside_18, ↓fX10_triesAside_19, ↓fX10_triesAside_22, ↓fX10_triesAside_25, ↓fX10_triesAside_26, ↓fX10_triesAside_27, ↓fX10_triesAside_28, ↓fX10_triesAside_29, ↓fX10_triesAside_30, ↓fX10_triesAside_31, ↓fX10_triesAside_34, ↓fX10_triesAside_37, h6, and_self, true_and, and_true, false_and, and_false, not_true_eq_false, not_false_eq_true, or_self, true_or, or_true, false_or, or_false, ite_not, Decidable.not_not, decide_eq_true_eq, Bool.not_true, Bool.not_false, Bool.false_eq_true, Bool.not_eq_true, n10, n20, n21, n30, n31, n32, n40, n41, n42, n43, ↓reduceIte]
  | succ k ih =>
    intro n h1 h2
    by_cases h6 : (n : Int) < 1824
    · have er : taG G m s n (m + 1) (1824 * s + (n : Int)).toNat = G (m + 1) ((1824 * s).toNat + n) := by
        unfold taG
        rw [if_neg (by omega)]
        congr 1
        omega
      have ew : u2 (taG G m s n) (m + 1) (7296 + (n : Int)).toNat (G (m + 1) ((1824 * s).toNat + n)) = taG G m s (n + 1) := by
        funext x j
        show (if x = m + 1 ∧ j = (7296 + (n : Int)).toNat then _ else if x = m + 1 ∧ 7296 ≤ j ∧ j < 7296 + n then _ else _) = if x = m + 1 ∧ 7296 ≤ j ∧ j < 7296 + (n + 1) then _ else _
        by_cases q : x = m + 1 ∧ j = (7296 + (n : Int)).toNat
        · rw [if_pos q, if_pos (by omega), show j - 7296 = n by omega]
        · rw [if_neg q]
          by_cases q2 : x = m + 1 ∧ 7296 ≤ j ∧ j < 7296 + n
          · rw [if_pos q2, if_pos (by omega)]
          · rw [if_neg q2, if_neg (by omega)]
      have ih' := ih (n + 1) (by omega) (by omega)
      rw [← ew, Int.natCast_add] at ih'
      have ih'' : RK MX10_triesAside 2 [.ref m, .int (zi s), .int (zi ((n : Int) + 1))] [] (0, 0) _ Q = _ := ih'
      rw [fX10_triesAside_2]
      simp (disch := first | assumption | exact c2_int _ | exact c2_ref _ | exact c2_jk | exact c2_null | omega | exact bI_r _ | exact bI_01 _) only [↓fX10_triesAside_0, ↓fX10_triesAside_1, ↓fX10_triesAside_3, ↓fX10_triesAside_6, ↓fX10_triesAside_9, ↓fX10_triesAside_10, ↓fX10_triesAside_13, ↓fX10_triesAside_16, ↓fX10_triesAside_17, ↓fX10_triesAside_18, ↓fX10_triesAside_19, ↓fX10_triesAside_22, ↓fX10_triesAside_25, ↓fX10_triesAside_26, ↓fX10_triesAside_27, ↓fX10_triesAside_28, ↓fX10_triesAside_29, ↓fX10_triesAside_30, ↓fX10_triesAside_31, ↓fX10_triesAside_34, ↓fX10_triesAside_37, er, h6, and_self, true_and, and_true, false_and, and_false, not_true_eq_false, not_false_eq_true, or_self, true_or, or_true, false_or, or_false, ite_not, Decidable.not_not, decide_eq_true_eq, Bool.not_true, Bool.not_false, Bool.false_eq_true, Bool.not_eq_true, n10, n20, n21, n30, n31, n32, n40, n41, n42, n43, ↓reduceIte]
      exact ih''
    · have en : n = 1824 := by omega
      subst en
      simp (disch := first | assumption | exact c2_int _ | exact c2_ref _ | exact c2_jk | exact c2_null | omega | exact bI_r _ | exact bI_01 _) only [↓fX10_triesAside_0, ↓fX10_triesAside_1, ↓fX10_triesAside_2, ↓fX10_triesAside_3, ↓fX10_triesAside_6, ↓fX10_triesAside_9, ↓fX10_triesAside_10, ↓fX10_triesAside_13, ↓fX10_triesAside_16, ↓fX10_triesAside_17, ↓fX10_triesAside_18, ↓fX10_triesAside_19, ↓fX10_triesAside_22, ↓fX10_triesAside_25, ↓fX10_triesAside_26, ↓fX10_triesAside_27, ↓fX10_triesAside_28, ↓fX10_triesAside_29, ↓fX10_triesAside_30, ↓fX10_triesAside_31, ↓fX10_triesAside_34, ↓fX10_triesAside_37, h6, and_self, true_and, and_true, false_and, and_false, not_true_eq_false, not_false_eq_true, or_self, true_or, or_true, false_or, or_false, ite_not, Decidable.not_not, decide_eq_true_eq, Bool.not_true, Bool.not_false, Bool.false_eq_true, Bool.not_eq_true, n10, n20, n21, n30, n31, n32, n40, n41, n42, n43, ↓reduceIte]
theorem m_tries (hm : shM E r m) (hs : 0 ≤ s ∧ s ≤ 3) (hl : SL G m s σ) : ∃ G2, KW G G2 m 4 ∧ SL G2 m 4 σ ∧ ∀ Q, RK MX10_triesAside 0 [.ref m, .int (zi s), jk] [] (0, 0) (E, zg G, zk L, r) Q = Q (E, zg G2, zk L, r) .null := by
  have m0 := hm.1
  have e0 : taG G m s 0 = G := by
    funext x j
    exact if_neg fun z => by omega
  have e := fun Q => m_tries_loop (G := G) (L := L) (Q := Q) hm hs 1824 0 (by omega) (by omega)
  rw [e0] at e
  refine ⟨taG G m s 1824, ⟨fun x a b c => ?_, fun j a => if_neg fun z => by omega, fun k hk => if_neg fun z => by omega⟩, fun k hk => ?_, fun Q => ?_⟩
  · funext j
    exact if_neg fun z => b z.1
  · unfold taG
    rw [if_pos ⟨rfl, by omega, by omega⟩, ← hl k hk, show (1824 * s).toNat + ((1824 * 4 + (k : Int)).toNat - 7296) = (1824 * s + (k : Int)).toNat by omega]
  · simp (disch := first | assumption | exact c2_int _ | exact c2_ref _ | exact c2_jk | exact c2_null | omega | exact bI_r _ | exact bI_01 _) only [↓fX10_triesAside_0, ↓fX10_triesAside_1, ↓fX10_triesAside_3, ↓fX10_triesAside_6, ↓fX10_triesAside_9, ↓fX10_triesAside_10, ↓fX10_triesAside_13, ↓fX10_triesAside_16, ↓fX10_triesAside_17, ↓fX10_triesAside_18, ↓fX10_triesAside_19, ↓fX10_triesAside_22, ↓fX10_triesAside_25, ↓fX10_triesAside_26, ↓fX10_triesAside_27, ↓fX10_triesAside_28, ↓fX10_triesAside_29, ↓fX10_triesAside_30, ↓fX10_triesAside_31, ↓fX10_triesAside_34, ↓fX10_triesAside_37]
    exact e Q
theorem KW_lk (h : KW G G1 m 4) : lkM G G1 m := ⟨fun x a b c d e => h.1 x a b c, fun j a b c => h.2.1 j c, fun k hk => h.2.2 k (by omega)⟩
theorem m_till_loop (hm : shM E r m) {l1 : Value} (hw : I32 w) : ∀ (k : Nat) (σ : Nat → Int) (G : Nat → Nat → Int) (c : Int), SL G m 4 σ → WF σ → muS σ < k → 0 ≤ c → c + k ≤ 10000 →
    ∃ G2, KW G G2 m 4 ∧ ∀ Q, RK MX10_till 30 [.ref m, l1, .int (zi w), .int (zi c)] [] (0, 0) (E, zg G, zk L, r) Q = Q (E, zg (rfG G2 m (if tlS w k σ = -1 then -1 else c + tlS w k σ)), zk L, r) (.int (zi (if tlS w k σ = -1 then -1 else c + tlS w k σ))) := by
  have m0 := hm.1
  intro k
  induction k with
  | zero =>
    intro σ G c hl hW h1 h2 h3
    have := (mu_0 hW).1
    omega
  | succ k ih =>
    intro σ G c hl hW h1 h2 h3
    have hz := szS_b hW
    have eL := fun Q => m_laysNow (L := L) (Q := Q) hm (s := 4) (by decide) hl hW
    have hl2 : SL (lyG G m (hbS σ) (σ 3).toNat) m 4 σ := SL_ly hl
    have h12 : lyG G m (hbS σ) (σ 3).toNat m 12 = szS σ := lyG_12
    have k2 : KW G (lyG G m (hbS σ) (σ 3).toNat) m 4 := KW_ly
    generalize lyG G m (hbS σ) (σ 3).toNat = G2 at eL hl2 h12 k2
    by_cases c1 : szS σ ≤ w
    · have et : tlS w (k + 1) σ = 0 := by rw [tlS, if_pos c1]
      refine ⟨G2, k2, fun Q => ?_⟩
      rw [et, if_neg (by decide), Int.add_zero, rfG_y (by omega), fX10_till_30]
      simp (disch := first | assumption | exact c2_int _ | exact c2_ref _ | exact c2_jk | exact c2_null | omega | exact bI_r _ | exact bI_01 _) only [↓fX10_till_0, ↓fX10_till_1, ↓fX10_till_2, ↓fX10_till_3, ↓fX10_till_4, ↓fX10_till_5, ↓fX10_till_6, ↓fX10_till_9, ↓fX10_till_12, ↓fX10_till_15, ↓fX10_till_18, ↓fX10_till_21, ↓fX10_till_22, ↓fX10_till_23, ↓fX10_till_24, ↓fX10_till_25, ↓fX10_till_28, ↓fX10_till_29, ↓fX10_till_31, ↓fX10_till_32, ↓fX10_till_35, ↓fX10_till_36, ↓fX10_till_39, ↓fX10_till_40, ↓fX10_till_43, ↓fX10_till_44, ↓fX10_till_45, ↓fX10_till_46, ↓fX10_till_47, ↓fX10_till_50, ↓fX10_till_53, ↓fX10_till_54, ↓fX10_till_55, ↓fX10_till_58, ↓fX10_till_59, ↓fX10_till_62, ↓eL, h12, c1, and_self, true_and, and_true, false_and, and_false, not_true_eq_false, not_false_eq_true, or_self, true_or, or_true, false_or, or_false, ite_not, Decidable.not_not, decide_eq_true_eq, Bool.not_true, Bool.not_false, Bool.false_eq_true, Bool.not_eq_true, n10, n20, n21, n30, n31, n32, n40, n41, n42, n43, ↓reduceIte]
    · by_cases hn : ngS σ = -1
      · have et : tlS w (k + 1) σ = -1 := by rw [tlS, if_neg c1, if_pos hn]
        obtain ⟨G3, k3, hl3, -, e3⟩ := m_rounds0 (L := L) hm (s := 4) (by decide) hl2 hW hn
        have m1 : (-1 : Int) < 0 := by decide
        refine ⟨G3, k2.trans k3, fun Q => ?_⟩
        rw [et, if_pos rfl, rfG_n, fX10_till_30]
        simp (disch := first | assumption | exact c2_int _ | exact c2_ref _ | exact c2_jk | exact c2_null | omega | exact bI_r _ | exact bI_01 _) only [↓fX10_till_0, ↓fX10_till_1, ↓fX10_till_2, ↓fX10_till_3, ↓fX10_till_4, ↓fX10_till_5, ↓fX10_till_6, ↓fX10_till_9, ↓fX10_till_12, ↓fX10_till_15, ↓fX10_till_18, ↓fX10_till_21, ↓fX10_till_22, ↓fX10_till_23, ↓fX10_till_24, ↓fX10_till_25, ↓fX10_till_28, ↓fX10_till_29, ↓fX10_till_31, ↓fX10_till_32, ↓fX10_till_35, ↓fX10_till_36, ↓fX10_till_39, ↓fX10_till_40, ↓fX10_till_43, ↓fX10_till_44, ↓fX10_till_45, ↓fX10_till_46, ↓fX10_till_47, ↓fX10_till_50, ↓fX10_till_53, ↓fX10_till_54, ↓fX10_till_55, ↓fX10_till_58, ↓fX10_till_59, ↓fX10_till_62, ↓eL, ↓e3, ↓m_refuse, h12, c1, m1, and_self, true_and, and_true, false_and, and_false, not_true_eq_false, not_false_eq_true, or_self, true_or, or_true, false_or, or_false, ite_not, Decidable.not_not, decide_eq_true_eq, Bool.not_true, Bool.not_false, Bool.false_eq_true, Bool.not_eq_true, n10, n20, n21, n30, n31, n32, n40, n41, n42, n43, ↓reduceIte]
      · obtain ⟨G3, k3, hl3, e3⟩ := m_rounds (L := L) hm (s := 4) (by decide) hl2 hW hn
        have hz2 := swS_sz hW (ngS_ok hW hn).1.1
        have hge : ¬ szS σ - szS (swS σ (ngS σ)) < 0 := by omega
        have mu := mu_s hW hn
        obtain ⟨G4, k4, e4⟩ := ih (swS σ (ngS σ)) G3 (c + 1) hl3 (swS_WF hW hn) (by omega) (by omega) (by omega)
        have et : (if tlS w (k + 1) σ = -1 then -1 else c + tlS w (k + 1) σ) = if tlS w k (swS σ (ngS σ)) = -1 then -1 else c + 1 + tlS w k (swS σ (ngS σ)) := by
          have hb := tlS_b w k (swS σ (ngS σ))
          rw [tlS, if_neg c1, if_neg hn]
          by_cases q : tlS w k (swS σ (ngS σ)) = -1
          · rw [if_pos q, if_pos rfl, if_pos q]
          · rw [if_neg q, if_neg (by omega), if_neg q]
            omega
        refine ⟨G4, (k2.trans k3).trans k4, fun Q => ?_⟩
        rw [et, ← e4 Q, fX10_till_30]
        simp (disch := first | assumption | exact c2_int _ | exact c2_ref _ | exact c2_jk | exact c2_null | omega | exact bI_r _ | exact bI_01 _) only [↓fX10_till_0, ↓fX10_till_1, ↓fX10_till_2, ↓fX10_till_3, ↓fX10_till_4, ↓fX10_till_5, ↓fX10_till_6, ↓fX10_till_9, ↓fX10_till_12, ↓fX10_till_15, ↓fX10_till_18, ↓fX10_till_21, ↓fX10_till_22, ↓fX10_till_23, ↓fX10_till_24, ↓fX10_till_25, ↓fX10_till_28, ↓fX10_till_29, ↓fX10_till_31, ↓fX10_till_32, ↓fX10_till_35, ↓fX10_till_36, ↓fX10_till_39, ↓fX10_till_40, ↓fX10_till_43, ↓fX10_till_44, ↓fX10_till_45, ↓fX10_till_46, ↓fX10_till_47, ↓fX10_till_50, ↓fX10_till_53, ↓fX10_till_54, ↓fX10_till_55, ↓fX10_till_58, ↓fX10_till_59, ↓fX10_till_62, ↓eL, ↓e3, h12, c1, hge, and_self, true_and, and_true, false_and, and_false, not_true_eq_false, not_false_eq_true, or_self, true_or, or_true, false_or, or_false, ite_not, Decidable.not_not, decide_eq_true_eq, Bool.not_true, Bool.not_false, Bool.false_eq_true, Bool.not_eq_true, n10, n20, n21, n30, n31, n32, n40, n41, n42, n43, ↓reduceIte]
def guZ (σ : Nat → Nat → Int) (ln : Nat) (lv : Nat → Int) (n : Nat) : Nat → Nat → Int
  | 0, _ => -1
  | k + 1, t => if t < n then (if tgtZ ln lv (smS 600 (σ t)).1 = true then (t : Int) else guZ σ ln lv n k (t + 1)) else -1
theorem guZ_b (σ : Nat → Nat → Int) (ln : Nat) (lv : Nat → Int) (n : Nat) : ∀ (k t : Nat), -1 ≤ guZ σ ln lv n k t ∧ guZ σ ln lv n k t ≤ n := by
  intro k
  induction k with
  | zero => intro t; unfold guZ; omega
  | succ k ih =>
    intro t
    unfold guZ
    have := ih (t + 1)
    repeat' split
    all_goals omega
theorem m_guess_loop (hm : shM E r m) {ln1 : Nat} {lv1 : Nat → Int} (hn : n ≤ 4) : ∀ (k t : Nat) (G : Nat → Nat → Int), n - t ≤ k → t ≤ n → G m 6 = n → (∀ s, s < n → SL G m (s : Int) (σs s) ∧ WF (σs s)) → LA G m o ln1 lv1 →
    ∃ G2, lkM G G2 m ∧ G2 m 0 = (if guZ σs ln1 lv1 n k t = -1 then 5 else G m 0) ∧ ∀ Q, RK MX10_guess 24 [.ref m, .int (zi o), .int (zi (t : Int))] [] (0, 0) (E, zg G, zk L, r) Q = Q (E, zg G2, zk L, r) (.int (zi (guZ σs ln1 lv1 n k t))) := by
  have m0 := hm.1
  intro k
  induction k with
  | zero =>
    intro t G h1 h2 h6 hA hl
    have h7 : ¬ (t : Int) < n := by omega
    refine ⟨u2 G m 0 5, lkM_0, u2_s _ _ _ _, fun Q => ?_⟩
    simp (disch := first | assumption | exact c2_int _ | exact c2_ref _ | exact c2_jk | exact c2_null | omega | exact bI_r _ | exact bI_01 _) only [↓fX10_guess_0, ↓fX10_guess_1, ↓fX10_guess_2, ↓fX10_guess_3, ↓fX10_guess_6, ↓fX10_guess_9, ↓fX10_guess_10, ↓fX10_guess_13, ↓fX10_guess_14, ↓fX10_guess_17, ↓fX10_guess_20, ↓fX10_guess_21, ↓fX10_guess_22, ↓fX10_guess_23, ↓fX10_guess_24, ↓fX10_guess_25, ↓fX10_guess_26, ↓fX10_guess_29, ↓fX10_guess_32, ↓fX10_guess_33, ↓fX10_guess_34, ↓fX10_guess_37, ↓fX10_guess_38, ↓fX10_guess_39, ↓fX10_guess_42, ↓fX10_guess_43, ↓fX10_guess_44, ↓fX10_guess_45, ↓fX10_guess_48, ↓fX10_guess_49, ↓fX10_guess_50, ↓fX10_guess_51, ↓fX10_guess_54, ↓fX10_guess_57, ↓fX10_guess_58, ↓fX10_guess_59, ↓fX10_guess_62, ↓fX10_guess_65, ↓fX10_guess_66, ↓fX10_guess_67, ↓fX10_guess_70, ↓m_refuse, h6, h7, guZ, and_self, true_and, and_true, false_and, and_false, not_true_eq_false, not_false_eq_true, or_self, true_or, or_true, false_or, or_false, ite_not, Decidable.not_not, decide_eq_true_eq, Bool.not_true, Bool.not_false, Bool.false_eq_true, Bool.not_eq_true, n10, n20, n21, n30, n31, n32, n40, n41, n42, n43, ↓reduceIte]
  | succ k ih =>
    intro t G h1 h2 h6 hA hl
    by_cases h7 : t < n
    · have h7' : (t : Int) < n := by omega
      obtain ⟨hs, hW⟩ := hA t h7
      obtain ⟨G2, k2, hl2, e2⟩ := m_tries (L := L) hm (s := (t : Int)) (by omega) hs
      obtain ⟨G3, k3, hl3, e3⟩ := m_roundsAll (L := L) hm (s := 4) (by decide) hl2 hW
      have hW3 := smS_WF 600 _ hW
      obtain ⟨G4, k4, ha4, f4, e4⟩ := m_lay (L := L) hm (s := 4) (by decide) hl3 hW3
      have kk : lkM G G4 m := ((KW_lk k2).trans (KW_lk k3)).trans k4.2.2
      have st : G4 m 0 = G m 0 := by rw [k4.2.1, k3.2.1 0 (by decide), k2.2.1 0 (by decide)]
      have hl4 : LA G4 m o ln1 lv1 := LA_c hl (kk.1 _ (by omega) (by omega) (by omega) (by omega) (by omega))
      have e5 := fun Q => m_isBeside (L := L) (Q := Q) hm (s := 4) (by decide) (k4.1 _ _ hl3) hW3 ha4 hl4
      by_cases c : tgtZ ln1 lv1 (smS 600 (σs t)).1 = true
      · have eg : guZ σs ln1 lv1 n (k + 1) t = t := by rw [guZ, if_pos h7, if_pos c]
        rw [bI_p c] at e5
        refine ⟨G4, kk, by rw [eg, if_neg (by omega)]; exact st, fun Q => ?_⟩
        rw [eg, fX10_guess_24]
        simp (disch := first | assumption | exact c2_int _ | exact c2_ref _ | exact c2_jk | exact c2_null | omega | exact bI_r _ | exact bI_01 _) only [↓fX10_guess_0, ↓fX10_guess_1, ↓fX10_guess_2, ↓fX10_guess_3, ↓fX10_guess_6, ↓fX10_guess_9, ↓fX10_guess_10, ↓fX10_guess_13, ↓fX10_guess_14, ↓fX10_guess_17, ↓fX10_guess_20, ↓fX10_guess_21, ↓fX10_guess_22, ↓fX10_guess_23, ↓fX10_guess_25, ↓fX10_guess_26, ↓fX10_guess_29, ↓fX10_guess_32, ↓fX10_guess_33, ↓fX10_guess_34, ↓fX10_guess_37, ↓fX10_guess_38, ↓fX10_guess_39, ↓fX10_guess_42, ↓fX10_guess_43, ↓fX10_guess_44, ↓fX10_guess_45, ↓fX10_guess_48, ↓fX10_guess_49, ↓fX10_guess_50, ↓fX10_guess_51, ↓fX10_guess_54, ↓fX10_guess_57, ↓fX10_guess_58, ↓fX10_guess_59, ↓fX10_guess_62, ↓fX10_guess_65, ↓fX10_guess_66, ↓fX10_guess_67, ↓fX10_guess_70, ↓e2, ↓e3, ↓e4, ↓e5, h6, h7', and_self, true_and, and_true, false_and, and_false, not_true_eq_false, not_false_eq_true, or_self, true_or, or_true, false_or, or_false, ite_not, Decidable.not_not, decide_eq_true_eq, Bool.not_true, Bool.not_false, Bool.false_eq_true, Bool.not_eq_true, n10, n20, n21, n30, n31, n32, n40, n41, n42, n43, ↓reduceIte]
      · have eg : guZ σs ln1 lv1 n (k + 1) t = guZ σs ln1 lv1 n k (t + 1) := by rw [guZ, if_pos h7, if_neg c]
        rw [bI_n c] at e5
        obtain ⟨G5, k5, s5, e6⟩ := ih (t + 1) G4 (by omega) (by omega) (by rw [kk.2.1 6 (by decide) (by decide) (by decide), h6]) (fun s hsn => ⟨fun q hq => by
          rw [kk.2.2 _ (by omega)]
          exact (hA s hsn).1 q hq, (hA s hsn).2⟩) hl4
        refine ⟨G5, kk.trans k5, by rw [eg, s5, st], fun Q => ?_⟩
        have e6' : RK MX10_guess 24 [.ref m, .int (zi o), .int (zi ((t : Int) + 1))] [] (0, 0) (E, zg G4, zk L, r) Q = _ := e6 Q
        rw [eg, fX10_guess_24]
        simp (disch := first | assumption | exact c2_int _ | exact c2_ref _ | exact c2_jk | exact c2_null | omega | exact bI_r _ | exact bI_01 _) only [↓fX10_guess_0, ↓fX10_guess_1, ↓fX10_guess_2, ↓fX10_guess_3, ↓fX10_guess_6, ↓fX10_guess_9, ↓fX10_guess_10, ↓fX10_guess_13, ↓fX10_guess_14, ↓fX10_guess_17, ↓fX10_guess_20, ↓fX10_guess_21, ↓fX10_guess_22, ↓fX10_guess_23, ↓fX10_guess_25, ↓fX10_guess_26, ↓fX10_guess_29, ↓fX10_guess_32, ↓fX10_guess_33, ↓fX10_guess_34, ↓fX10_guess_37, ↓fX10_guess_38, ↓fX10_guess_39, ↓fX10_guess_42, ↓fX10_guess_43, ↓fX10_guess_44, ↓fX10_guess_45, ↓fX10_guess_48, ↓fX10_guess_49, ↓fX10_guess_50, ↓fX10_guess_51, ↓fX10_guess_54, ↓fX10_guess_57, ↓fX10_guess_58, ↓fX10_guess_59, ↓fX10_guess_62, ↓fX10_guess_65, ↓fX10_guess_66, ↓fX10_guess_67, ↓fX10_guess_70, ↓e2, ↓e3, ↓e4, ↓e5, h6, h7', and_self, true_and, and_true, false_and, and_false, not_true_eq_false, not_false_eq_true, or_self, true_or, or_true, false_or, or_false, ite_not, Decidable.not_not, decide_eq_true_eq, Bool.not_true, Bool.not_false, Bool.false_eq_true, Bool.not_eq_true, n10, n20, n21, n30, n31, n32, n40, n41, n42, n43, ↓reduceIte]
        exact e6'
    · have h7' : ¬ (t : Int) < n := by omega
      have eg : guZ σs ln1 lv1 n (k + 1) t = -1 := by rw [guZ, if_neg h7]
      refine ⟨u2 G m 0 5, lkM_0, by rw [eg, if_pos rfl]; exact u2_s _ _ _ _, fun Q => ?_⟩
      rw [eg]
      simp (disch := first | assumption | exact c2_int _ | exact c2_ref _ | exact c2_jk | exact c2_null | omega | exact bI_r _ | exact bI_01 _) only [↓fX10_guess_0, ↓fX10_guess_1, ↓fX10_guess_2, ↓fX10_guess_3, ↓fX10_guess_6, ↓fX10_guess_9, ↓fX10_guess_10, ↓fX10_guess_13, ↓fX10_guess_14, ↓fX10_guess_17, ↓fX10_guess_20, ↓fX10_guess_21, ↓fX10_guess_22, ↓fX10_guess_23, ↓fX10_guess_24, ↓fX10_guess_25, ↓fX10_guess_26, ↓fX10_guess_29, ↓fX10_guess_32, ↓fX10_guess_33, ↓fX10_guess_34, ↓fX10_guess_37, ↓fX10_guess_38, ↓fX10_guess_39, ↓fX10_guess_42, ↓fX10_guess_43, ↓fX10_guess_44, ↓fX10_guess_45, ↓fX10_guess_48, ↓fX10_guess_49, ↓fX10_guess_50, ↓fX10_guess_51, ↓fX10_guess_54, ↓fX10_guess_57, ↓fX10_guess_58, ↓fX10_guess_59, ↓fX10_guess_62, ↓fX10_guess_65, ↓fX10_guess_66, ↓fX10_guess_67, ↓fX10_guess_70, ↓m_refuse, h6, h7', and_self, true_and, and_true, false_and, and_false, not_true_eq_false, not_false_eq_true, or_self, true_or, or_true, false_or, or_false, ite_not, Decidable.not_not, decide_eq_true_eq, Bool.not_true, Bool.not_false, Bool.false_eq_true, Bool.not_eq_true, n10, n20, n21, n30, n31, n32, n40, n41, n42, n43, ↓reduceIte]
end BM
section BM
variable {E : AE} {G G1 G2 G' L : Nat → Nat → Int} {r : Nat → Nat → Option Nat} {h : AH} {Q : AH → Value → Prop} {m M n cl : Nat} {σ : Nat → Nat → Int} {P : Int → Bool} {s o y x w i p v lo hi t b d e c f g k : Int} {ln : Nat → Nat} {lv : Nat → Nat → Int}
theorem y_would (hM : MD E r G m n σ) (hs : I32 s) (hy : I32 y) : ∃ G', lkM G G' m ∧ G' m 0 = (onS (decide ((y < 1))) n s (ans (nAS (smS 600 (σ s.toNat)).1 y))).1 ∧ ∀ Q, RK MX10_would 0 [.ref m, .int (zi s), .int (zi y)] [] (0, 0) (E, zg G, zk L, r) Q = Q (E, zg G', zk L, r) (.int (zi (onS (decide ((y < 1))) n s (ans (nAS (smS 600 (σ s.toNat)).1 y))).2)) := by
  have hm := hM.1
  have m0 := hm.1
  have h6 := hM.2.1
  by_cases c1 : y < 1
  · have cb : onS (decide ((y < 1))) n s (ans (nAS (smS 600 (σ s.toNat)).1 y)) = (1, -1) := if_pos (decide_eq_true (by omega))
    rw [cb]
    exact ⟨iG G m 1, lkM_i, iG_0, fun Q => by simp (disch := first | assumption | exact c2_int _ | exact c2_ref _ | exact c2_jk | exact c2_null | omega | exact bI_r _ | exact bI_01 _) only [↓fX10_would_0, ↓fX10_would_1, ↓fX10_would_2, ↓fX10_would_3, ↓fX10_would_4, ↓fX10_would_5, ↓fX10_would_8, ↓fX10_would_9, ↓fX10_would_12, ↓fX10_would_13, ↓fX10_would_16, ↓fX10_would_19, ↓fX10_would_22, ↓fX10_would_23, ↓fX10_would_24, ↓fX10_would_25, ↓fX10_would_26, ↓fX10_would_29, ↓fX10_would_30, ↓fX10_would_31, ↓fX10_would_34, ↓fX10_would_35, ↓fX10_would_36, ↓fX10_would_37, ↓fX10_would_40, ↓fX10_would_41, ↓fX10_would_42, ↓fX10_would_45, ↓fX10_would_48, ↓fX10_would_49, ↓fX10_would_50, ↓fX10_would_51, ↓fX10_would_54, ↓fX10_would_57, ↓fX10_would_58, ↓fX10_would_59, ↓fX10_would_62, ↓fX10_whyPlace_0, ↓fX10_whyPlace_1, ↓fX10_whyPlace_4, ↓fX10_whyPlace_5, ↓fX10_whyPlace_8, ↓fX10_whyPlace_9, ↓fX10_whyPlace_10, ↓fX10_whyPlace_13, ↓fX10_whyPlace_16, ↓fX10_whyPlace_17, ↓fX10_whyPlace_20, ↓fX10_whyPlace_21, ↓m_isIn, bI_0, ↓m_isN, c1, and_self, true_and, and_true, false_and, and_false, not_true_eq_false, not_false_eq_true, or_self, true_or, or_true, false_or, or_false, ite_not, Decidable.not_not, decide_eq_true_eq, Bool.not_true, Bool.not_false, Bool.false_eq_true, Bool.not_eq_true, n10, n20, n21, n30, n31, n32, n40, n41, n42, n43, ↓reduceIte]⟩
  · have cq : (decide ((y < 1))) = false := decide_eq_false (by omega)
    have cb : onS (decide ((y < 1))) n s (ans (nAS (smS 600 (σ s.toNat)).1 y)) = if 0 ≤ s ∧ s < n then (ans (nAS (smS 600 (σ s.toNat)).1 y)) else (2, -1) := if_neg (by rw [cq]; decide)
    rw [cb]
    by_cases c : 0 ≤ s ∧ s < n
    · rw [if_pos c]
      obtain ⟨hl, hW⟩ := hM.2.2 s.toNat (by omega)
      rw [Int.toNat_of_nonneg c.1] at hl
      have hz := szS_b hW
      have eS := fun Q => m_isS1 (L := L) (Q := Q) hM c
      obtain ⟨G2, hl2, ha, h12, h20, lk2, tr, eN⟩ := m_now (L := L) hm (show 0 ≤ s ∧ s ≤ 4 by omega) hl hW
      have hs4 : 0 ≤ s ∧ s ≤ 4 := by omega
      obtain ⟨G3, k3, hl3, e3⟩ := m_tries (L := L) (G := iG G m 0) hm (s := s) (by omega) (SL_i hl)
      obtain ⟨G4, k4, hl4, e4⟩ := m_roundsAll (L := L) hm (s := 4) (by decide) hl3 hW
      have hW4 := smS_WF 600 _ hW
      obtain ⟨G5, k5, a5, f5, e5⟩ := m_lay (L := L) hm (s := 4) (by decide) hl4 hW4
      have lk5 : lkM G G5 m := ((lkM_i.trans (KW_lk k3)).trans (KW_lk k4)).trans k5.2.2
      have st5 : G5 m 0 = 0 := by rw [k5.2.1, k4.2.1 0 (by decide), k3.2.1 0 (by decide), iG_0]
      have h512 : G5 m 12 = szS (smS 600 (σ s.toNat)).1 := a5.1
      have hl5 := k5.1 _ _ hl4
      have hz5 := szS_b hW4
      have q4 : 0 ≤ (4 : Int) ∧ (4 : Int) ≤ 4 := by decide
      by_cases z : y ≤ szS (smS 600 (σ s.toNat)).1
      · have hn := nAS_0 hW4 (p := y) (by omega)
        rw [ans_y hn.1]
        refine ⟨G5, lk5, st5, fun Q => ?_⟩
        simp (disch := first | assumption | exact c2_int _ | exact c2_ref _ | exact c2_jk | exact c2_null | omega | exact bI_r _ | exact bI_01 _) only [↓fX10_would_0, ↓fX10_would_1, ↓fX10_would_2, ↓fX10_would_3, ↓fX10_would_4, ↓fX10_would_5, ↓fX10_would_8, ↓fX10_would_9, ↓fX10_would_12, ↓fX10_would_13, ↓fX10_would_16, ↓fX10_would_19, ↓fX10_would_22, ↓fX10_would_23, ↓fX10_would_24, ↓fX10_would_25, ↓fX10_would_26, ↓fX10_would_29, ↓fX10_would_30, ↓fX10_would_31, ↓fX10_would_34, ↓fX10_would_35, ↓fX10_would_36, ↓fX10_would_37, ↓fX10_would_40, ↓fX10_would_41, ↓fX10_would_42, ↓fX10_would_45, ↓fX10_would_48, ↓fX10_would_49, ↓fX10_would_50, ↓fX10_would_51, ↓fX10_would_54, ↓fX10_would_57, ↓fX10_would_58, ↓fX10_would_59, ↓fX10_would_62, ↓fX10_whyPlace_0, ↓fX10_whyPlace_1, ↓fX10_whyPlace_4, ↓fX10_whyPlace_5, ↓fX10_whyPlace_8, ↓fX10_whyPlace_9, ↓fX10_whyPlace_10, ↓fX10_whyPlace_13, ↓fX10_whyPlace_16, ↓fX10_whyPlace_17, ↓fX10_whyPlace_20, ↓fX10_whyPlace_21, ↓m_isIn, bI_0, ↓eS, ↓m_is0, ↓e3, ↓e4, ↓e5, ↓m_at, h512, z, c1, and_self, true_and, and_true, false_and, and_false, not_true_eq_false, not_false_eq_true, or_self, true_or, or_true, false_or, or_false, ite_not, Decidable.not_not, decide_eq_true_eq, Bool.not_true, Bool.not_false, Bool.false_eq_true, Bool.not_eq_true, n10, n20, n21, n30, n31, n32, n40, n41, n42, n43, ↓reduceIte]
      · rw [nAS_no (by omega), ans_n]
        refine ⟨u2 G5 m 0 5, lk5.trans lkM_0, u2_s _ _ _ _, fun Q => ?_⟩
        simp (disch := first | assumption | exact c2_int _ | exact c2_ref _ | exact c2_jk | exact c2_null | omega | exact bI_r _ | exact bI_01 _) only [↓fX10_would_0, ↓fX10_would_1, ↓fX10_would_2, ↓fX10_would_3, ↓fX10_would_4, ↓fX10_would_5, ↓fX10_would_8, ↓fX10_would_9, ↓fX10_would_12, ↓fX10_would_13, ↓fX10_would_16, ↓fX10_would_19, ↓fX10_would_22, ↓fX10_would_23, ↓fX10_would_24, ↓fX10_would_25, ↓fX10_would_26, ↓fX10_would_29, ↓fX10_would_30, ↓fX10_would_31, ↓fX10_would_34, ↓fX10_would_35, ↓fX10_would_36, ↓fX10_would_37, ↓fX10_would_40, ↓fX10_would_41, ↓fX10_would_42, ↓fX10_would_45, ↓fX10_would_48, ↓fX10_would_49, ↓fX10_would_50, ↓fX10_would_51, ↓fX10_would_54, ↓fX10_would_57, ↓fX10_would_58, ↓fX10_would_59, ↓fX10_would_62, ↓fX10_whyPlace_0, ↓fX10_whyPlace_1, ↓fX10_whyPlace_4, ↓fX10_whyPlace_5, ↓fX10_whyPlace_8, ↓fX10_whyPlace_9, ↓fX10_whyPlace_10, ↓fX10_whyPlace_13, ↓fX10_whyPlace_16, ↓fX10_whyPlace_17, ↓fX10_whyPlace_20, ↓fX10_whyPlace_21, ↓m_isIn, bI_0, ↓eS, ↓m_is0, ↓e3, ↓e4, ↓e5, ↓m_refuse, h512, z, c1, and_self, true_and, and_true, false_and, and_false, not_true_eq_false, not_false_eq_true, or_self, true_or, or_true, false_or, or_false, ite_not, Decidable.not_not, decide_eq_true_eq, Bool.not_true, Bool.not_false, Bool.false_eq_true, Bool.not_eq_true, n10, n20, n21, n30, n31, n32, n40, n41, n42, n43, ↓reduceIte]
    · rw [if_neg c]
      have eS := fun Q => m_isS0 (L := L) (Q := Q) hM hs c
      exact ⟨iG G m 2, lkM_i, iG_0, fun Q => by simp (disch := first | assumption | exact c2_int _ | exact c2_ref _ | exact c2_jk | exact c2_null | omega | exact bI_r _ | exact bI_01 _) only [↓fX10_would_0, ↓fX10_would_1, ↓fX10_would_2, ↓fX10_would_3, ↓fX10_would_4, ↓fX10_would_5, ↓fX10_would_8, ↓fX10_would_9, ↓fX10_would_12, ↓fX10_would_13, ↓fX10_would_16, ↓fX10_would_19, ↓fX10_would_22, ↓fX10_would_23, ↓fX10_would_24, ↓fX10_would_25, ↓fX10_would_26, ↓fX10_would_29, ↓fX10_would_30, ↓fX10_would_31, ↓fX10_would_34, ↓fX10_would_35, ↓fX10_would_36, ↓fX10_would_37, ↓fX10_would_40, ↓fX10_would_41, ↓fX10_would_42, ↓fX10_would_45, ↓fX10_would_48, ↓fX10_would_49, ↓fX10_would_50, ↓fX10_would_51, ↓fX10_would_54, ↓fX10_would_57, ↓fX10_would_58, ↓fX10_would_59, ↓fX10_would_62, ↓fX10_whyPlace_0, ↓fX10_whyPlace_1, ↓fX10_whyPlace_4, ↓fX10_whyPlace_5, ↓fX10_whyPlace_8, ↓fX10_whyPlace_9, ↓fX10_whyPlace_10, ↓fX10_whyPlace_13, ↓fX10_whyPlace_16, ↓fX10_whyPlace_17, ↓fX10_whyPlace_20, ↓fX10_whyPlace_21, ↓m_isIn, bI_0, ↓eS, ↓m_isN, c1, and_self, true_and, and_true, false_and, and_false, not_true_eq_false, not_false_eq_true, or_self, true_or, or_true, false_or, or_false, ite_not, Decidable.not_not, decide_eq_true_eq, Bool.not_true, Bool.not_false, Bool.false_eq_true, Bool.not_eq_true, n10, n20, n21, n30, n31, n32, n40, n41, n42, n43, ↓reduceIte]⟩
theorem y_till (hM : MD E r G m n σ) (hs : I32 s) (hy : I32 y) : ∃ G', lkM G G' m ∧ G' m 0 = (onS (decide ((¬ (1 ≤ y ∧ y ≤ 600)))) n s (ans (tlS y 601 (σ s.toNat)))).1 ∧ ∀ Q, RK MX10_till 0 [.ref m, .int (zi s), .int (zi y), jk] [] (0, 0) (E, zg G, zk L, r) Q = Q (E, zg G', zk L, r) (.int (zi (onS (decide ((¬ (1 ≤ y ∧ y ≤ 600)))) n s (ans (tlS y 601 (σ s.toNat)))).2)) := by
  have hm := hM.1
  have m0 := hm.1
  have h6 := hM.2.1
  by_cases c1 : ¬ (1 ≤ y ∧ y ≤ 600)
  · have cb : onS (decide ((¬ (1 ≤ y ∧ y ≤ 600)))) n s (ans (tlS y 601 (σ s.toNat))) = (1, -1) := if_pos (decide_eq_true (by omega))
    rw [cb]
    exact ⟨iG G m 1, lkM_i, iG_0, fun Q => by simp (disch := first | assumption | exact c2_int _ | exact c2_ref _ | exact c2_jk | exact c2_null | omega | exact bI_r _ | exact bI_01 _) only [↓fX10_till_0, ↓fX10_till_1, ↓fX10_till_2, ↓fX10_till_3, ↓fX10_till_4, ↓fX10_till_5, ↓fX10_till_6, ↓fX10_till_9, ↓fX10_till_12, ↓fX10_till_15, ↓fX10_till_18, ↓fX10_till_21, ↓fX10_till_22, ↓fX10_till_23, ↓fX10_till_24, ↓fX10_till_25, ↓fX10_till_28, ↓fX10_till_29, ↓fX10_till_30, ↓fX10_till_31, ↓fX10_till_32, ↓fX10_till_35, ↓fX10_till_36, ↓fX10_till_39, ↓fX10_till_40, ↓fX10_till_43, ↓fX10_till_44, ↓fX10_till_45, ↓fX10_till_46, ↓fX10_till_47, ↓fX10_till_50, ↓fX10_till_53, ↓fX10_till_54, ↓fX10_till_55, ↓fX10_till_58, ↓fX10_till_59, ↓fX10_till_62, ↓fX10_whyPlace_0, ↓fX10_whyPlace_1, ↓fX10_whyPlace_4, ↓fX10_whyPlace_5, ↓fX10_whyPlace_8, ↓fX10_whyPlace_9, ↓fX10_whyPlace_10, ↓fX10_whyPlace_13, ↓fX10_whyPlace_16, ↓fX10_whyPlace_17, ↓fX10_whyPlace_20, ↓fX10_whyPlace_21, ↓m_isIn, bI_0, ↓m_isN, c1, and_self, true_and, and_true, false_and, and_false, not_true_eq_false, not_false_eq_true, or_self, true_or, or_true, false_or, or_false, ite_not, Decidable.not_not, decide_eq_true_eq, Bool.not_true, Bool.not_false, Bool.false_eq_true, Bool.not_eq_true, n10, n20, n21, n30, n31, n32, n40, n41, n42, n43, ↓reduceIte]⟩
  · have c1 := Decidable.not_not.mp c1
    have cq : (decide ((¬ (1 ≤ y ∧ y ≤ 600)))) = false := decide_eq_false (by omega)
    have cb : onS (decide ((¬ (1 ≤ y ∧ y ≤ 600)))) n s (ans (tlS y 601 (σ s.toNat))) = if 0 ≤ s ∧ s < n then (ans (tlS y 601 (σ s.toNat))) else (2, -1) := if_neg (by rw [cq]; decide)
    rw [cb]
    by_cases c : 0 ≤ s ∧ s < n
    · rw [if_pos c]
      obtain ⟨hl, hW⟩ := hM.2.2 s.toNat (by omega)
      rw [Int.toNat_of_nonneg c.1] at hl
      have hz := szS_b hW
      have eS := fun Q => m_isS1 (L := L) (Q := Q) hM c
      obtain ⟨G2, hl2, ha, h12, h20, lk2, tr, eN⟩ := m_now (L := L) hm (show 0 ≤ s ∧ s ≤ 4 by omega) hl hW
      have hs4 : 0 ≤ s ∧ s ≤ 4 := by omega
      have eb : bI (1 ≤ y ∧ y ≤ 600) = 1 := bI_p c1
      have mu := mu_0 hW
      obtain ⟨G3, k3, hl3, e3⟩ := m_tries (L := L) (G := iG G m 0) hm (s := s) (by omega) (SL_i hl)
      obtain ⟨G4, k4, e4⟩ := m_till_loop (L := L) (w := y) (l1 := .int (zi s)) hm hy 601 (σ s.toNat) G3 0 hl3 hW (by omega) (by omega) (by omega)
      have ev : (if tlS y 601 (σ s.toNat) = -1 then -1 else 0 + tlS y 601 (σ s.toNat)) = tlS y 601 (σ s.toNat) := by split <;> omega
      simp only [ev] at e4
      refine ⟨rfG G4 m (tlS y 601 (σ s.toNat)), ((lkM_i.trans (KW_lk k3)).trans (KW_lk k4)).trans rfG_lk, rfG_st (by rw [k4.2.1 0 (by decide), k3.2.1 0 (by decide), iG_0]), fun Q => ?_⟩
      simp (disch := first | assumption | exact c2_int _ | exact c2_ref _ | exact c2_jk | exact c2_null | omega | exact bI_r _ | exact bI_01 _) only [↓fX10_till_0, ↓fX10_till_1, ↓fX10_till_2, ↓fX10_till_3, ↓fX10_till_4, ↓fX10_till_5, ↓fX10_till_6, ↓fX10_till_9, ↓fX10_till_12, ↓fX10_till_15, ↓fX10_till_18, ↓fX10_till_21, ↓fX10_till_22, ↓fX10_till_23, ↓fX10_till_24, ↓fX10_till_25, ↓fX10_till_28, ↓fX10_till_29, ↓fX10_till_31, ↓fX10_till_32, ↓fX10_till_35, ↓fX10_till_36, ↓fX10_till_39, ↓fX10_till_40, ↓fX10_till_43, ↓fX10_till_44, ↓fX10_till_45, ↓fX10_till_46, ↓fX10_till_47, ↓fX10_till_50, ↓fX10_till_53, ↓fX10_till_54, ↓fX10_till_55, ↓fX10_till_58, ↓fX10_till_59, ↓fX10_till_62, ↓fX10_whyPlace_0, ↓fX10_whyPlace_1, ↓fX10_whyPlace_4, ↓fX10_whyPlace_5, ↓fX10_whyPlace_8, ↓fX10_whyPlace_9, ↓fX10_whyPlace_10, ↓fX10_whyPlace_13, ↓fX10_whyPlace_16, ↓fX10_whyPlace_17, ↓fX10_whyPlace_20, ↓fX10_whyPlace_21, ↓m_isIn, bI_0, ↓eS, ↓m_is0, ↓e3, ↓e4, eb, c1, and_self, true_and, and_true, false_and, and_false, not_true_eq_false, not_false_eq_true, or_self, true_or, or_true, false_or, or_false, ite_not, Decidable.not_not, decide_eq_true_eq, Bool.not_true, Bool.not_false, Bool.false_eq_true, Bool.not_eq_true, n10, n20, n21, n30, n31, n32, n40, n41, n42, n43, ↓reduceIte]
      rfl
    · rw [if_neg c]
      have eS := fun Q => m_isS0 (L := L) (Q := Q) hM hs c
      exact ⟨iG G m 2, lkM_i, iG_0, fun Q => by simp (disch := first | assumption | exact c2_int _ | exact c2_ref _ | exact c2_jk | exact c2_null | omega | exact bI_r _ | exact bI_01 _) only [↓fX10_till_0, ↓fX10_till_1, ↓fX10_till_2, ↓fX10_till_3, ↓fX10_till_4, ↓fX10_till_5, ↓fX10_till_6, ↓fX10_till_9, ↓fX10_till_12, ↓fX10_till_15, ↓fX10_till_18, ↓fX10_till_21, ↓fX10_till_22, ↓fX10_till_23, ↓fX10_till_24, ↓fX10_till_25, ↓fX10_till_28, ↓fX10_till_29, ↓fX10_till_30, ↓fX10_till_31, ↓fX10_till_32, ↓fX10_till_35, ↓fX10_till_36, ↓fX10_till_39, ↓fX10_till_40, ↓fX10_till_43, ↓fX10_till_44, ↓fX10_till_45, ↓fX10_till_46, ↓fX10_till_47, ↓fX10_till_50, ↓fX10_till_53, ↓fX10_till_54, ↓fX10_till_55, ↓fX10_till_58, ↓fX10_till_59, ↓fX10_till_62, ↓fX10_whyPlace_0, ↓fX10_whyPlace_1, ↓fX10_whyPlace_4, ↓fX10_whyPlace_5, ↓fX10_whyPlace_8, ↓fX10_whyPlace_9, ↓fX10_whyPlace_10, ↓fX10_whyPlace_13, ↓fX10_whyPlace_16, ↓fX10_whyPlace_17, ↓fX10_whyPlace_20, ↓fX10_whyPlace_21, ↓m_isIn, bI_0, ↓eS, ↓m_isN, c1, and_self, true_and, and_true, false_and, and_false, not_true_eq_false, not_false_eq_true, or_self, true_or, or_true, false_or, or_false, ite_not, Decidable.not_not, decide_eq_true_eq, Bool.not_true, Bool.not_false, Bool.false_eq_true, Bool.not_eq_true, n10, n20, n21, n30, n31, n32, n40, n41, n42, n43, ↓reduceIte]⟩
theorem y_guess (hM : MD E r G m n σ) (hLM : LM G m cl ln lv) (hs : I32 s) : ∃ G', lkM G G' m ∧ G' m 0 = (onS (false) cl s (ans (guZ σ (ln s.toNat) (lv s.toNat) n 4 0))).1 ∧ ∀ Q, RK MX10_guess 0 [.ref m, .int (zi s), jk] [] (0, 0) (E, zg G, zk L, r) Q = Q (E, zg G', zk L, r) (.int (zi (onS (false) cl s (ans (guZ σ (ln s.toNat) (lv s.toNat) n 4 0))).2)) := by
  have hm := hM.1
  have m0 := hm.1
  have h6 := hM.2.1
  have h8 := hLM.1
  have cb : onS (false) cl s (ans (guZ σ (ln s.toNat) (lv s.toNat) n 4 0)) = if 0 ≤ s ∧ s < cl then (ans (guZ σ (ln s.toNat) (lv s.toNat) n 4 0)) else (2, -1) := if_neg (by decide)
  rw [cb]
  by_cases c : 0 ≤ s ∧ s < cl
  · rw [if_pos c]
    have eS := fun Q => m_isL1 (L := L) (Q := Q) hm hLM c
    obtain ⟨hl0, hl1, hl3⟩ := LM_at hLM c
    have hA := LA_of hLM c
    have hA1 : LA (iG G m 0) m s (ln s.toNat) (lv s.toNat) := LA_c hA (iG_q (by omega))
    obtain ⟨G3, k3, s3, e3⟩ := m_guess_loop (L := L) (σs := σ) (n := n) (o := s) hm (by omega) 4 0 (iG G m 0) (by omega) (by omega) (by rw [iG_j (by decide) (by decide), h6.1]) (fun t ht => ⟨SL_i (hM.2.2 t ht).1, (hM.2.2 t ht).2⟩) hA1
    rw [iG_0] at s3
    refine ⟨G3, lkM_i.trans k3, by rw [s3]; rfl, fun Q => ?_⟩
    have e3' : ∀ Q, RK MX10_guess 24 [.ref m, .int (zi s), .int (zi 0)] [] (0, 0) (E, zg (iG G m 0), zk L, r) Q = _ := e3
    simp (disch := first | assumption | exact c2_int _ | exact c2_ref _ | exact c2_jk | exact c2_null | omega | exact bI_r _ | exact bI_01 _) only [↓fX10_guess_0, ↓fX10_guess_1, ↓fX10_guess_2, ↓fX10_guess_3, ↓fX10_guess_6, ↓fX10_guess_9, ↓fX10_guess_10, ↓fX10_guess_13, ↓fX10_guess_14, ↓fX10_guess_17, ↓fX10_guess_20, ↓fX10_guess_21, ↓fX10_guess_22, ↓fX10_guess_23, ↓fX10_guess_25, ↓fX10_guess_26, ↓fX10_guess_29, ↓fX10_guess_32, ↓fX10_guess_33, ↓fX10_guess_34, ↓fX10_guess_37, ↓fX10_guess_38, ↓fX10_guess_39, ↓fX10_guess_42, ↓fX10_guess_43, ↓fX10_guess_44, ↓fX10_guess_45, ↓fX10_guess_48, ↓fX10_guess_49, ↓fX10_guess_50, ↓fX10_guess_51, ↓fX10_guess_54, ↓fX10_guess_57, ↓fX10_guess_58, ↓fX10_guess_59, ↓fX10_guess_62, ↓fX10_guess_65, ↓fX10_guess_66, ↓fX10_guess_67, ↓fX10_guess_70, ↓m_isIn, bI_0, ↓eS, ↓m_is0, ↓e3', and_self, true_and, and_true, false_and, and_false, not_true_eq_false, not_false_eq_true, or_self, true_or, or_true, false_or, or_false, ite_not, Decidable.not_not, decide_eq_true_eq, Bool.not_true, Bool.not_false, Bool.false_eq_true, Bool.not_eq_true, n10, n20, n21, n30, n31, n32, n40, n41, n42, n43, ↓reduceIte]
    rfl
  · rw [if_neg c]
    have eS := fun Q => m_isL0 (L := L) (Q := Q) hm hLM hs c
    exact ⟨iG G m 2, lkM_i, iG_0, fun Q => by simp (disch := first | assumption | exact c2_int _ | exact c2_ref _ | exact c2_jk | exact c2_null | omega | exact bI_r _ | exact bI_01 _) only [↓fX10_guess_0, ↓fX10_guess_1, ↓fX10_guess_2, ↓fX10_guess_3, ↓fX10_guess_6, ↓fX10_guess_9, ↓fX10_guess_10, ↓fX10_guess_13, ↓fX10_guess_14, ↓fX10_guess_17, ↓fX10_guess_20, ↓fX10_guess_21, ↓fX10_guess_22, ↓fX10_guess_23, ↓fX10_guess_24, ↓fX10_guess_25, ↓fX10_guess_26, ↓fX10_guess_29, ↓fX10_guess_32, ↓fX10_guess_33, ↓fX10_guess_34, ↓fX10_guess_37, ↓fX10_guess_38, ↓fX10_guess_39, ↓fX10_guess_42, ↓fX10_guess_43, ↓fX10_guess_44, ↓fX10_guess_45, ↓fX10_guess_48, ↓fX10_guess_49, ↓fX10_guess_50, ↓fX10_guess_51, ↓fX10_guess_54, ↓fX10_guess_57, ↓fX10_guess_58, ↓fX10_guess_59, ↓fX10_guess_62, ↓fX10_guess_65, ↓fX10_guess_66, ↓fX10_guess_67, ↓fX10_guess_70, ↓m_isIn, bI_0, ↓eS, ↓m_isN, and_self, true_and, and_true, false_and, and_false, not_true_eq_false, not_false_eq_true, or_self, true_or, or_true, false_or, or_false, ite_not, Decidable.not_not, decide_eq_true_eq, Bool.not_true, Bool.not_false, Bool.false_eq_true, Bool.not_eq_true, n10, n20, n21, n30, n31, n32, n40, n41, n42, n43, ↓reduceIte]⟩
theorem y_sieve (hM : MD E r G m n σ) (hs : I32 s) (hw : I32 w) : ∃ G', lkM G G' m ∧ G' m 0 = (onS (decide ((¬ (0 ≤ w ∧ w ≤ 7)))) n s ((0, prpZ (σ s.toNat) w))).1 ∧ ∀ Q, RK MX10_sieve 0 [.ref m, .int (zi s), .int (zi w)] [] (0, 0) (E, zg G, zk L, r) Q = Q (E, zg G', zk L, r) (.int (zi (onS (decide ((¬ (0 ≤ w ∧ w ≤ 7)))) n s ((0, prpZ (σ s.toNat) w))).2)) := by
  have hm := hM.1
  have m0 := hm.1
  have h6 := hM.2.1
  by_cases c1 : ¬ (0 ≤ w ∧ w ≤ 7)
  · have cb : onS (decide ((¬ (0 ≤ w ∧ w ≤ 7)))) n s ((0, prpZ (σ s.toNat) w)) = (1, -1) := if_pos (decide_eq_true (by omega))
    rw [cb]
    exact ⟨iG G m 1, lkM_i, iG_0, fun Q => by simp (disch := first | assumption | exact c2_int _ | exact c2_ref _ | exact c2_jk | exact c2_null | omega | exact bI_r _ | exact bI_01 _) only [↓fX10_sieve_0, ↓fX10_sieve_1, ↓fX10_sieve_2, ↓fX10_sieve_3, ↓fX10_sieve_4, ↓fX10_sieve_7, ↓fX10_sieve_10, ↓fX10_sieve_13, ↓fX10_sieve_14, ↓fX10_sieve_17, ↓fX10_sieve_18, ↓fX10_sieve_19, ↓fX10_sieve_22, ↓fX10_sieve_25, ↓fX10_sieve_26, ↓fX10_sieve_29, ↓fX10_sieve_30, ↓fX10_sieve_33, ↓fX10_sieve_36, ↓fX10_sieve_37, ↓fX10_sieve_38, ↓fX10_sieve_39_4, ↓fX10_sieve_39_5, ↓fX10_sieve_39_6, ↓fX10_sieve_39_7, ↓fX10_sieve_39_d, ↓fX10_sieve_68, ↓fX10_sieve_69, ↓fX10_sieve_70, ↓fX10_sieve_73, ↓fX10_sieve_74, ↓fX10_sieve_77, ↓fX10_sieve_78, ↓fX10_sieve_79, ↓fX10_sieve_80, ↓fX10_sieve_81, ↓fX10_sieve_84, ↓fX10_sieve_85, ↓fX10_sieve_86, ↓fX10_sieve_87, ↓fX10_sieve_90, ↓fX10_sieve_93, ↓fX10_sieve_94, ↓fX10_sieve_97, ↓fX10_sieve_98, ↓fX10_sieve_99, ↓fX10_sieve_100, ↓fX10_sieve_101, ↓fX10_sieve_103, ↓fX10_sieve_106, ↓fX10_sieve_107, ↓fX10_sieve_108, ↓fX10_sieve_109, ↓fX10_sieve_110, ↓fX10_sieve_113, ↓m_isIn, bI_0, ↓m_isN, c1, and_self, true_and, and_true, false_and, and_false, not_true_eq_false, not_false_eq_true, or_self, true_or, or_true, false_or, or_false, ite_not, Decidable.not_not, decide_eq_true_eq, Bool.not_true, Bool.not_false, Bool.false_eq_true, Bool.not_eq_true, n10, n20, n21, n30, n31, n32, n40, n41, n42, n43, ↓reduceIte]⟩
  · have c1 := Decidable.not_not.mp c1
    have cq : (decide ((¬ (0 ≤ w ∧ w ≤ 7)))) = false := decide_eq_false (by omega)
    have cb : onS (decide ((¬ (0 ≤ w ∧ w ≤ 7)))) n s ((0, prpZ (σ s.toNat) w)) = if 0 ≤ s ∧ s < n then ((0, prpZ (σ s.toNat) w)) else (2, -1) := if_neg (by rw [cq]; decide)
    rw [cb]
    by_cases c : 0 ≤ s ∧ s < n
    · rw [if_pos c]
      obtain ⟨hl, hW⟩ := hM.2.2 s.toNat (by omega)
      rw [Int.toNat_of_nonneg c.1] at hl
      have hz := szS_b hW
      have eS := fun Q => m_isS1 (L := L) (Q := Q) hM c
      obtain ⟨G2, hl2, ha, h12, h20, lk2, tr, eN⟩ := m_now (L := L) hm (show 0 ≤ s ∧ s ≤ 4 by omega) hl hW
      have hs4 : 0 ≤ s ∧ s ≤ 4 := by omega
      have hl1 := SL_i (y := 0) hl
      have eb : bI (0 ≤ w ∧ w ≤ 7) = 1 := bI_p c1
      have hx : w = 0 ∨ w = 1 ∨ w = 2 ∨ w = 3 ∨ w = 4 ∨ w = 5 ∨ w = 6 ∨ w = 7 := by omega
      rcases hx with rfl | rfl | rfl | rfl | rfl | rfl | rfl | rfl
      · refine ⟨iG G m 0, lkM_i, iG_0, fun Q => ?_⟩
        simp (disch := first | assumption | exact c2_int _ | exact c2_ref _ | exact c2_jk | exact c2_null | omega | exact bI_r _ | exact bI_01 _) only [↓fX10_sieve_0, ↓fX10_sieve_1, ↓fX10_sieve_2, ↓fX10_sieve_3, ↓fX10_sieve_4, ↓fX10_sieve_7, ↓fX10_sieve_10, ↓fX10_sieve_13, ↓fX10_sieve_14, ↓fX10_sieve_17, ↓fX10_sieve_18, ↓fX10_sieve_19, ↓fX10_sieve_22, ↓fX10_sieve_25, ↓fX10_sieve_26, ↓fX10_sieve_29, ↓fX10_sieve_30, ↓fX10_sieve_33, ↓fX10_sieve_36, ↓fX10_sieve_37, ↓fX10_sieve_38, ↓fX10_sieve_39_4, ↓fX10_sieve_39_5, ↓fX10_sieve_39_6, ↓fX10_sieve_39_7, ↓fX10_sieve_39_d, ↓fX10_sieve_68, ↓fX10_sieve_69, ↓fX10_sieve_70, ↓fX10_sieve_73, ↓fX10_sieve_74, ↓fX10_sieve_77, ↓fX10_sieve_78, ↓fX10_sieve_79, ↓fX10_sieve_80, ↓fX10_sieve_81, ↓fX10_sieve_84, ↓fX10_sieve_85, ↓fX10_sieve_86, ↓fX10_sieve_87, ↓fX10_sieve_90, ↓fX10_sieve_93, ↓fX10_sieve_94, ↓fX10_sieve_97, ↓fX10_sieve_98, ↓fX10_sieve_99, ↓fX10_sieve_100, ↓fX10_sieve_101, ↓fX10_sieve_103, ↓fX10_sieve_106, ↓fX10_sieve_107, ↓fX10_sieve_108, ↓fX10_sieve_109, ↓fX10_sieve_110, ↓fX10_sieve_113, ↓m_isIn, bI_0, ↓eS, ↓m_is0, eb, ↓m_of, Int.reduceToNat, and_self, true_and, and_true, false_and, and_false, not_true_eq_false, not_false_eq_true, or_self, true_or, or_true, false_or, or_false, ite_not, Decidable.not_not, decide_eq_true_eq, Bool.not_true, Bool.not_false, Bool.false_eq_true, Bool.not_eq_true, n10, n20, n21, n30, n31, n32, n40, n41, n42, n43, ↓reduceIte]
        rfl
      · refine ⟨iG G m 0, lkM_i, iG_0, fun Q => ?_⟩
        simp (disch := first | assumption | exact c2_int _ | exact c2_ref _ | exact c2_jk | exact c2_null | omega | exact bI_r _ | exact bI_01 _) only [↓fX10_sieve_0, ↓fX10_sieve_1, ↓fX10_sieve_2, ↓fX10_sieve_3, ↓fX10_sieve_4, ↓fX10_sieve_7, ↓fX10_sieve_10, ↓fX10_sieve_13, ↓fX10_sieve_14, ↓fX10_sieve_17, ↓fX10_sieve_18, ↓fX10_sieve_19, ↓fX10_sieve_22, ↓fX10_sieve_25, ↓fX10_sieve_26, ↓fX10_sieve_29, ↓fX10_sieve_30, ↓fX10_sieve_33, ↓fX10_sieve_36, ↓fX10_sieve_37, ↓fX10_sieve_38, ↓fX10_sieve_39_4, ↓fX10_sieve_39_5, ↓fX10_sieve_39_6, ↓fX10_sieve_39_7, ↓fX10_sieve_39_d, ↓fX10_sieve_68, ↓fX10_sieve_69, ↓fX10_sieve_70, ↓fX10_sieve_73, ↓fX10_sieve_74, ↓fX10_sieve_77, ↓fX10_sieve_78, ↓fX10_sieve_79, ↓fX10_sieve_80, ↓fX10_sieve_81, ↓fX10_sieve_84, ↓fX10_sieve_85, ↓fX10_sieve_86, ↓fX10_sieve_87, ↓fX10_sieve_90, ↓fX10_sieve_93, ↓fX10_sieve_94, ↓fX10_sieve_97, ↓fX10_sieve_98, ↓fX10_sieve_99, ↓fX10_sieve_100, ↓fX10_sieve_101, ↓fX10_sieve_103, ↓fX10_sieve_106, ↓fX10_sieve_107, ↓fX10_sieve_108, ↓fX10_sieve_109, ↓fX10_sieve_110, ↓fX10_sieve_113, ↓m_isIn, bI_0, ↓eS, ↓m_is0, eb, ↓m_of, Int.reduceToNat, and_self, true_and, and_true, false_and, and_false, not_true_eq_false, not_false_eq_true, or_self, true_or, or_true, false_or, or_false, ite_not, Decidable.not_not, decide_eq_true_eq, Bool.not_true, Bool.not_false, Bool.false_eq_true, Bool.not_eq_true, n10, n20, n21, n30, n31, n32, n40, n41, n42, n43, ↓reduceIte]
        rfl
      · refine ⟨iG G m 0, lkM_i, iG_0, fun Q => ?_⟩
        simp (disch := first | assumption | exact c2_int _ | exact c2_ref _ | exact c2_jk | exact c2_null | omega | exact bI_r _ | exact bI_01 _) only [↓fX10_sieve_0, ↓fX10_sieve_1, ↓fX10_sieve_2, ↓fX10_sieve_3, ↓fX10_sieve_4, ↓fX10_sieve_7, ↓fX10_sieve_10, ↓fX10_sieve_13, ↓fX10_sieve_14, ↓fX10_sieve_17, ↓fX10_sieve_18, ↓fX10_sieve_19, ↓fX10_sieve_22, ↓fX10_sieve_25, ↓fX10_sieve_26, ↓fX10_sieve_29, ↓fX10_sieve_30, ↓fX10_sieve_33, ↓fX10_sieve_36, ↓fX10_sieve_37, ↓fX10_sieve_38, ↓fX10_sieve_39_4, ↓fX10_sieve_39_5, ↓fX10_sieve_39_6, ↓fX10_sieve_39_7, ↓fX10_sieve_39_d, ↓fX10_sieve_68, ↓fX10_sieve_69, ↓fX10_sieve_70, ↓fX10_sieve_73, ↓fX10_sieve_74, ↓fX10_sieve_77, ↓fX10_sieve_78, ↓fX10_sieve_79, ↓fX10_sieve_80, ↓fX10_sieve_81, ↓fX10_sieve_84, ↓fX10_sieve_85, ↓fX10_sieve_86, ↓fX10_sieve_87, ↓fX10_sieve_90, ↓fX10_sieve_93, ↓fX10_sieve_94, ↓fX10_sieve_97, ↓fX10_sieve_98, ↓fX10_sieve_99, ↓fX10_sieve_100, ↓fX10_sieve_101, ↓fX10_sieve_103, ↓fX10_sieve_106, ↓fX10_sieve_107, ↓fX10_sieve_108, ↓fX10_sieve_109, ↓fX10_sieve_110, ↓fX10_sieve_113, ↓m_isIn, bI_0, ↓eS, ↓m_is0, eb, ↓m_of, Int.reduceToNat, and_self, true_and, and_true, false_and, and_false, not_true_eq_false, not_false_eq_true, or_self, true_or, or_true, false_or, or_false, ite_not, Decidable.not_not, decide_eq_true_eq, Bool.not_true, Bool.not_false, Bool.false_eq_true, Bool.not_eq_true, n10, n20, n21, n30, n31, n32, n40, n41, n42, n43, ↓reduceIte]
        rfl
      · refine ⟨iG G m 0, lkM_i, iG_0, fun Q => ?_⟩
        simp (disch := first | assumption | exact c2_int _ | exact c2_ref _ | exact c2_jk | exact c2_null | omega | exact bI_r _ | exact bI_01 _) only [↓fX10_sieve_0, ↓fX10_sieve_1, ↓fX10_sieve_2, ↓fX10_sieve_3, ↓fX10_sieve_4, ↓fX10_sieve_7, ↓fX10_sieve_10, ↓fX10_sieve_13, ↓fX10_sieve_14, ↓fX10_sieve_17, ↓fX10_sieve_18, ↓fX10_sieve_19, ↓fX10_sieve_22, ↓fX10_sieve_25, ↓fX10_sieve_26, ↓fX10_sieve_29, ↓fX10_sieve_30, ↓fX10_sieve_33, ↓fX10_sieve_36, ↓fX10_sieve_37, ↓fX10_sieve_38, ↓fX10_sieve_39_4, ↓fX10_sieve_39_5, ↓fX10_sieve_39_6, ↓fX10_sieve_39_7, ↓fX10_sieve_39_d, ↓fX10_sieve_68, ↓fX10_sieve_69, ↓fX10_sieve_70, ↓fX10_sieve_73, ↓fX10_sieve_74, ↓fX10_sieve_77, ↓fX10_sieve_78, ↓fX10_sieve_79, ↓fX10_sieve_80, ↓fX10_sieve_81, ↓fX10_sieve_84, ↓fX10_sieve_85, ↓fX10_sieve_86, ↓fX10_sieve_87, ↓fX10_sieve_90, ↓fX10_sieve_93, ↓fX10_sieve_94, ↓fX10_sieve_97, ↓fX10_sieve_98, ↓fX10_sieve_99, ↓fX10_sieve_100, ↓fX10_sieve_101, ↓fX10_sieve_103, ↓fX10_sieve_106, ↓fX10_sieve_107, ↓fX10_sieve_108, ↓fX10_sieve_109, ↓fX10_sieve_110, ↓fX10_sieve_113, ↓m_isIn, bI_0, ↓eS, ↓m_is0, eb, ↓m_of, Int.reduceToNat, and_self, true_and, and_true, false_and, and_false, not_true_eq_false, not_false_eq_true, or_self, true_or, or_true, false_or, or_false, ite_not, Decidable.not_not, decide_eq_true_eq, Bool.not_true, Bool.not_false, Bool.false_eq_true, Bool.not_eq_true, n10, n20, n21, n30, n31, n32, n40, n41, n42, n43, ↓reduceIte]
        rfl
      · refine ⟨G2, lk2, h20, fun Q => ?_⟩
        simp (disch := first | assumption | exact c2_int _ | exact c2_ref _ | exact c2_jk | exact c2_null | omega | exact bI_r _ | exact bI_01 _) only [↓fX10_sieve_0, ↓fX10_sieve_1, ↓fX10_sieve_2, ↓fX10_sieve_3, ↓fX10_sieve_4, ↓fX10_sieve_7, ↓fX10_sieve_10, ↓fX10_sieve_13, ↓fX10_sieve_14, ↓fX10_sieve_17, ↓fX10_sieve_18, ↓fX10_sieve_19, ↓fX10_sieve_22, ↓fX10_sieve_25, ↓fX10_sieve_26, ↓fX10_sieve_29, ↓fX10_sieve_30, ↓fX10_sieve_33, ↓fX10_sieve_36, ↓fX10_sieve_37, ↓fX10_sieve_38, ↓fX10_sieve_39_4, ↓fX10_sieve_39_5, ↓fX10_sieve_39_6, ↓fX10_sieve_39_7, ↓fX10_sieve_39_d, ↓fX10_sieve_68, ↓fX10_sieve_69, ↓fX10_sieve_70, ↓fX10_sieve_73, ↓fX10_sieve_74, ↓fX10_sieve_77, ↓fX10_sieve_78, ↓fX10_sieve_79, ↓fX10_sieve_80, ↓fX10_sieve_81, ↓fX10_sieve_84, ↓fX10_sieve_85, ↓fX10_sieve_86, ↓fX10_sieve_87, ↓fX10_sieve_90, ↓fX10_sieve_93, ↓fX10_sieve_94, ↓fX10_sieve_97, ↓fX10_sieve_98, ↓fX10_sieve_99, ↓fX10_sieve_100, ↓fX10_sieve_101, ↓fX10_sieve_103, ↓fX10_sieve_106, ↓fX10_sieve_107, ↓fX10_sieve_108, ↓fX10_sieve_109, ↓fX10_sieve_110, ↓fX10_sieve_113, ↓m_isIn, bI_0, ↓eS, ↓m_is0, eb, ↓m_of, Int.reduceToNat, ↓eN, h12, and_self, true_and, and_true, false_and, and_false, not_true_eq_false, not_false_eq_true, or_self, true_or, or_true, false_or, or_false, ite_not, Decidable.not_not, decide_eq_true_eq, Bool.not_true, Bool.not_false, Bool.false_eq_true, Bool.not_eq_true, n10, n20, n21, n30, n31, n32, n40, n41, n42, n43, ↓reduceIte]
        rfl
      · refine ⟨iG G m 0, lkM_i, iG_0, fun Q => ?_⟩
        simp (disch := first | assumption | exact c2_int _ | exact c2_ref _ | exact c2_jk | exact c2_null | omega | exact bI_r _ | exact bI_01 _) only [↓fX10_sieve_0, ↓fX10_sieve_1, ↓fX10_sieve_2, ↓fX10_sieve_3, ↓fX10_sieve_4, ↓fX10_sieve_7, ↓fX10_sieve_10, ↓fX10_sieve_13, ↓fX10_sieve_14, ↓fX10_sieve_17, ↓fX10_sieve_18, ↓fX10_sieve_19, ↓fX10_sieve_22, ↓fX10_sieve_25, ↓fX10_sieve_26, ↓fX10_sieve_29, ↓fX10_sieve_30, ↓fX10_sieve_33, ↓fX10_sieve_36, ↓fX10_sieve_37, ↓fX10_sieve_38, ↓fX10_sieve_39_4, ↓fX10_sieve_39_5, ↓fX10_sieve_39_6, ↓fX10_sieve_39_7, ↓fX10_sieve_39_d, ↓fX10_sieve_68, ↓fX10_sieve_69, ↓fX10_sieve_70, ↓fX10_sieve_73, ↓fX10_sieve_74, ↓fX10_sieve_77, ↓fX10_sieve_78, ↓fX10_sieve_79, ↓fX10_sieve_80, ↓fX10_sieve_81, ↓fX10_sieve_84, ↓fX10_sieve_85, ↓fX10_sieve_86, ↓fX10_sieve_87, ↓fX10_sieve_90, ↓fX10_sieve_93, ↓fX10_sieve_94, ↓fX10_sieve_97, ↓fX10_sieve_98, ↓fX10_sieve_99, ↓fX10_sieve_100, ↓fX10_sieve_101, ↓fX10_sieve_103, ↓fX10_sieve_106, ↓fX10_sieve_107, ↓fX10_sieve_108, ↓fX10_sieve_109, ↓fX10_sieve_110, ↓fX10_sieve_113, ↓m_isIn, bI_0, ↓eS, ↓m_is0, eb, ↓m_of, Int.reduceToNat, and_self, true_and, and_true, false_and, and_false, not_true_eq_false, not_false_eq_true, or_self, true_or, or_true, false_or, or_false, ite_not, Decidable.not_not, decide_eq_true_eq, Bool.not_true, Bool.not_false, Bool.false_eq_true, Bool.not_eq_true, n10, n20, n21, n30, n31, n32, n40, n41, n42, n43, ↓reduceIte]
        rfl
      · obtain ⟨G3, k3, hl3, ha3, f3, e3⟩ := m_nextGap (L := L) (G := iG G m 0) hm hs4 hl1 hW
        have lk3 : lkM G G3 m := lkM_i.trans ⟨fun x a b c d e => f3 x a c, fun j a b c => k3.2.1 j c, fun k hk => by rw [f3 (m + 1) (by omega) (by omega)]⟩
        have nb := ngS_b hW
        have nr : I32 (nmS (σ s.toNat)) := by unfold nmS; split <;> omega
        refine ⟨G3, lk3, (k3.2.1 0 (by decide)).trans iG_0, fun Q => ?_⟩
        by_cases z : ngS (σ s.toNat) = -1
        · have en : nmS (σ s.toNat) = 0 := if_pos z
          simp (disch := first | assumption | exact c2_int _ | exact c2_ref _ | exact c2_jk | exact c2_null | omega | exact bI_r _ | exact bI_01 _) only [↓fX10_sieve_0, ↓fX10_sieve_1, ↓fX10_sieve_2, ↓fX10_sieve_3, ↓fX10_sieve_4, ↓fX10_sieve_7, ↓fX10_sieve_10, ↓fX10_sieve_13, ↓fX10_sieve_14, ↓fX10_sieve_17, ↓fX10_sieve_18, ↓fX10_sieve_19, ↓fX10_sieve_22, ↓fX10_sieve_25, ↓fX10_sieve_26, ↓fX10_sieve_29, ↓fX10_sieve_30, ↓fX10_sieve_33, ↓fX10_sieve_36, ↓fX10_sieve_37, ↓fX10_sieve_38, ↓fX10_sieve_39_4, ↓fX10_sieve_39_5, ↓fX10_sieve_39_6, ↓fX10_sieve_39_7, ↓fX10_sieve_39_d, ↓fX10_sieve_68, ↓fX10_sieve_69, ↓fX10_sieve_70, ↓fX10_sieve_73, ↓fX10_sieve_74, ↓fX10_sieve_77, ↓fX10_sieve_78, ↓fX10_sieve_79, ↓fX10_sieve_80, ↓fX10_sieve_81, ↓fX10_sieve_84, ↓fX10_sieve_85, ↓fX10_sieve_86, ↓fX10_sieve_87, ↓fX10_sieve_90, ↓fX10_sieve_93, ↓fX10_sieve_94, ↓fX10_sieve_97, ↓fX10_sieve_98, ↓fX10_sieve_99, ↓fX10_sieve_100, ↓fX10_sieve_101, ↓fX10_sieve_103, ↓fX10_sieve_106, ↓fX10_sieve_107, ↓fX10_sieve_108, ↓fX10_sieve_109, ↓fX10_sieve_110, ↓fX10_sieve_113, ↓m_isIn, bI_0, ↓eS, ↓m_is0, eb, ↓e3, en, and_self, true_and, and_true, false_and, and_false, not_true_eq_false, not_false_eq_true, or_self, true_or, or_true, false_or, or_false, ite_not, Decidable.not_not, decide_eq_true_eq, Bool.not_true, Bool.not_false, Bool.false_eq_true, Bool.not_eq_true, n10, n20, n21, n30, n31, n32, n40, n41, n42, n43, ↓reduceIte]
          have ep : prpZ (σ s.toNat) 6 = 1 := bI_p z
          rw [ep]
        · have gb := (ngS_ok hW z).1
          have en : ¬ nmS (σ s.toNat) = 0 := by unfold nmS; rw [if_neg z]; omega
          simp (disch := first | assumption | exact c2_int _ | exact c2_ref _ | exact c2_jk | exact c2_null | omega | exact bI_r _ | exact bI_01 _) only [↓fX10_sieve_0, ↓fX10_sieve_1, ↓fX10_sieve_2, ↓fX10_sieve_3, ↓fX10_sieve_4, ↓fX10_sieve_7, ↓fX10_sieve_10, ↓fX10_sieve_13, ↓fX10_sieve_14, ↓fX10_sieve_17, ↓fX10_sieve_18, ↓fX10_sieve_19, ↓fX10_sieve_22, ↓fX10_sieve_25, ↓fX10_sieve_26, ↓fX10_sieve_29, ↓fX10_sieve_30, ↓fX10_sieve_33, ↓fX10_sieve_36, ↓fX10_sieve_37, ↓fX10_sieve_38, ↓fX10_sieve_39_4, ↓fX10_sieve_39_5, ↓fX10_sieve_39_6, ↓fX10_sieve_39_7, ↓fX10_sieve_39_d, ↓fX10_sieve_68, ↓fX10_sieve_69, ↓fX10_sieve_70, ↓fX10_sieve_73, ↓fX10_sieve_74, ↓fX10_sieve_77, ↓fX10_sieve_78, ↓fX10_sieve_79, ↓fX10_sieve_80, ↓fX10_sieve_81, ↓fX10_sieve_84, ↓fX10_sieve_85, ↓fX10_sieve_86, ↓fX10_sieve_87, ↓fX10_sieve_90, ↓fX10_sieve_93, ↓fX10_sieve_94, ↓fX10_sieve_97, ↓fX10_sieve_98, ↓fX10_sieve_99, ↓fX10_sieve_100, ↓fX10_sieve_101, ↓fX10_sieve_103, ↓fX10_sieve_106, ↓fX10_sieve_107, ↓fX10_sieve_108, ↓fX10_sieve_109, ↓fX10_sieve_110, ↓fX10_sieve_113, ↓m_isIn, bI_0, ↓eS, ↓m_is0, eb, ↓e3, en, and_self, true_and, and_true, false_and, and_false, not_true_eq_false, not_false_eq_true, or_self, true_or, or_true, false_or, or_false, ite_not, Decidable.not_not, decide_eq_true_eq, Bool.not_true, Bool.not_false, Bool.false_eq_true, Bool.not_eq_true, n10, n20, n21, n30, n31, n32, n40, n41, n42, n43, ↓reduceIte]
          have ep : prpZ (σ s.toNat) 6 = 0 := bI_n z
          rw [ep]
      · refine ⟨iG G m 0, lkM_i, iG_0, fun Q => ?_⟩
        simp (disch := first | assumption | exact c2_int _ | exact c2_ref _ | exact c2_jk | exact c2_null | omega | exact bI_r _ | exact bI_01 _) only [↓fX10_sieve_0, ↓fX10_sieve_1, ↓fX10_sieve_2, ↓fX10_sieve_3, ↓fX10_sieve_4, ↓fX10_sieve_7, ↓fX10_sieve_10, ↓fX10_sieve_13, ↓fX10_sieve_14, ↓fX10_sieve_17, ↓fX10_sieve_18, ↓fX10_sieve_19, ↓fX10_sieve_22, ↓fX10_sieve_25, ↓fX10_sieve_26, ↓fX10_sieve_29, ↓fX10_sieve_30, ↓fX10_sieve_33, ↓fX10_sieve_36, ↓fX10_sieve_37, ↓fX10_sieve_38, ↓fX10_sieve_39_4, ↓fX10_sieve_39_5, ↓fX10_sieve_39_6, ↓fX10_sieve_39_7, ↓fX10_sieve_39_d, ↓fX10_sieve_68, ↓fX10_sieve_69, ↓fX10_sieve_70, ↓fX10_sieve_73, ↓fX10_sieve_74, ↓fX10_sieve_77, ↓fX10_sieve_78, ↓fX10_sieve_79, ↓fX10_sieve_80, ↓fX10_sieve_81, ↓fX10_sieve_84, ↓fX10_sieve_85, ↓fX10_sieve_86, ↓fX10_sieve_87, ↓fX10_sieve_90, ↓fX10_sieve_93, ↓fX10_sieve_94, ↓fX10_sieve_97, ↓fX10_sieve_98, ↓fX10_sieve_99, ↓fX10_sieve_100, ↓fX10_sieve_101, ↓fX10_sieve_103, ↓fX10_sieve_106, ↓fX10_sieve_107, ↓fX10_sieve_108, ↓fX10_sieve_109, ↓fX10_sieve_110, ↓fX10_sieve_113, ↓m_isIn, bI_0, ↓eS, ↓m_is0, eb, ↓m_of, Int.reduceToNat, and_self, true_and, and_true, false_and, and_false, not_true_eq_false, not_false_eq_true, or_self, true_or, or_true, false_or, or_false, ite_not, Decidable.not_not, decide_eq_true_eq, Bool.not_true, Bool.not_false, Bool.false_eq_true, Bool.not_eq_true, n10, n20, n21, n30, n31, n32, n40, n41, n42, n43, ↓reduceIte]
        rfl
    · rw [if_neg c]
      have eS := fun Q => m_isS0 (L := L) (Q := Q) hM hs c
      exact ⟨iG G m 2, lkM_i, iG_0, fun Q => by simp (disch := first | assumption | exact c2_int _ | exact c2_ref _ | exact c2_jk | exact c2_null | omega | exact bI_r _ | exact bI_01 _) only [↓fX10_sieve_0, ↓fX10_sieve_1, ↓fX10_sieve_2, ↓fX10_sieve_3, ↓fX10_sieve_4, ↓fX10_sieve_7, ↓fX10_sieve_10, ↓fX10_sieve_13, ↓fX10_sieve_14, ↓fX10_sieve_17, ↓fX10_sieve_18, ↓fX10_sieve_19, ↓fX10_sieve_22, ↓fX10_sieve_25, ↓fX10_sieve_26, ↓fX10_sieve_29, ↓fX10_sieve_30, ↓fX10_sieve_33, ↓fX10_sieve_36, ↓fX10_sieve_37, ↓fX10_sieve_38, ↓fX10_sieve_39_4, ↓fX10_sieve_39_5, ↓fX10_sieve_39_6, ↓fX10_sieve_39_7, ↓fX10_sieve_39_d, ↓fX10_sieve_68, ↓fX10_sieve_69, ↓fX10_sieve_70, ↓fX10_sieve_73, ↓fX10_sieve_74, ↓fX10_sieve_77, ↓fX10_sieve_78, ↓fX10_sieve_79, ↓fX10_sieve_80, ↓fX10_sieve_81, ↓fX10_sieve_84, ↓fX10_sieve_85, ↓fX10_sieve_86, ↓fX10_sieve_87, ↓fX10_sieve_90, ↓fX10_sieve_93, ↓fX10_sieve_94, ↓fX10_sieve_97, ↓fX10_sieve_98, ↓fX10_sieve_99, ↓fX10_sieve_100, ↓fX10_sieve_101, ↓fX10_sieve_103, ↓fX10_sieve_106, ↓fX10_sieve_107, ↓fX10_sieve_108, ↓fX10_sieve_109, ↓fX10_sieve_110, ↓fX10_sieve_113, ↓m_isIn, bI_0, ↓eS, ↓m_isN, c1, and_self, true_and, and_true, false_and, and_false, not_true_eq_false, not_false_eq_true, or_self, true_or, or_true, false_or, or_false, ite_not, Decidable.not_not, decide_eq_true_eq, Bool.not_true, Bool.not_false, Bool.false_eq_true, Bool.not_eq_true, n10, n20, n21, n30, n31, n32, n40, n41, n42, n43, ↓reduceIte]⟩
end BM
