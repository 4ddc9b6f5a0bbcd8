/-! Loops of the reference that count and look. -/
theorem fdL_at (P : Int → Bool) (e q : Int) (hq : P q = true) (hqe : q < e) : ∀ (k : Nat) (i : Int), e ≤ i + k → i ≤ q → (∀ j, i ≤ j → j < q → P j = false) → fdL P e k i = q := by
  intro k
  induction k with
  | zero => intro i h1 h2 h3; omega
  | succ k ih =>
    intro i h1 h2 h3
    unfold fdL
    rw [if_pos (by omega)]
    by_cases z : i = q
    · rw [z, if_pos hq]
    · rw [h3 i (Int.le_refl _) (by omega)]
      simp only [Bool.false_eq_true, if_false]
      exact ih (i + 1) (by omega) (by omega) fun j j1 j2 => h3 j (by omega) j2
theorem fdL_no (P : Int → Bool) (e : Int) : ∀ (k : Nat) (i : Int), (∀ j, i ≤ j → j < e → P j = false) → fdL P e k i = e := by
  intro k
  induction k with
  | zero => intro i h; rfl
  | succ k ih =>
    intro i h
    unfold fdL
    by_cases z : i < e
    · rw [if_pos z, h i (Int.le_refl _) z]
      simp only [Bool.false_eq_true, if_false]
      exact ih (i + 1) fun j j1 j2 => h j (by omega) j2
    · rw [if_neg z]
def bel (e v : Int) : Int := if v < e then v else -1
theorem bel_n {e v : Int} (h : ¬ v < e) : bel e v = -1 := if_neg h
theorem bel_y {e v : Int} (h : v < e) : bel e v = v := if_pos h
/-- the place of an index in what is laid -/
def plN (P : Int → Bool) (M : Nat) (i : Int) : Int := if 0 ≤ i ∧ i < M ∧ P i = true then ctN P i.toNat + 1 else -1
theorem plN_fd (P : Int → Bool) (M : Nat) (i : Int) {k : Nat} (hk : ctN P M ≤ k) : bel (ctN P M + 1) (fdL (fun p => decide ((ixN P M p : Int) = i)) (ctN P M + 1) k 1) = plN P M i := by
  have hb := ctN_b P M
  unfold plN
  by_cases c : 0 ≤ i ∧ i < M ∧ P i = true
  · have hP : P ((i.toNat : Nat) : Int) = true := by rw [Int.toNat_of_nonneg c.1]; exact c.2.2
    have h1 := ctN_lt P (m := i.toNat) (n := M) (by omega) hP
    have h2 := ctN_b P i.toNat
    have e : fdL (fun p => decide ((ixN P M p : Int) = i)) (ctN P M + 1) k 1 = ctN P i.toNat + 1 := by
      refine fdL_at _ _ _ ?_ (by omega) k 1 (by omega) (by omega) fun j j1 j2 => ?_
      · rw [decide_eq_true_eq, ixN_eq P (m := M) (i := i.toNat) (by omega) hP (by omega)]
        omega
      · rw [decide_eq_false_iff_not]
        obtain ⟨q1, q2, q3⟩ := ixN_ok P M j j1 (by omega)
        intro z
        have : ixN P M j = i.toNat := by omega
        rw [this] at q3
        omega
    unfold bel
    rw [e, if_pos (by omega), if_pos c]
  · have e : fdL (fun p => decide ((ixN P M p : Int) = i)) (ctN P M + 1) k 1 = ctN P M + 1 := by
      refine fdL_no _ _ k 1 fun j j1 j2 => ?_
      rw [decide_eq_false_iff_not]
      obtain ⟨q1, q2, q3⟩ := ixN_ok P M j j1 (by omega)
      intro z
      exact c ⟨by omega, by omega, by rw [← z]; exact q2⟩
    unfold bel
    rw [e, if_neg (by omega), if_neg c]
def wtL (A : Int → Int) (P : Int → Bool) (n d : Int) : Nat → Int → Int → Int
  | 0, _, c => c
  | k + 1, i, c => if i ≤ n ∧ 2 * A i ≤ d then wtL A P n d k (i + 1) (if P (d - A i) = true then c + 1 else c) else c
def wtZ (σ : Nat → Int) (d : Int) : Int := wtL (nAS σ) (hasS σ) (szS σ) d 601 1 0
section BM
variable {E : AE} {G G1 G2 G' L : Nat → Nat → Int} {r : Nat → Nat → Option Nat} {h : AH} {Q : AH → Value → Prop} {m M n : Nat} {σ τ : Nat → Int} {P : Int → Bool} {s o y x w i p v lo hi t b d e c f g k : Int}
theorem m_placeOf_loop (hm : shM E r m) (ha : LAP G m P M) (hM : M ≤ 600) (hi : I32 i) (hs : I32 s) : ∀ (k : Nat) (p : Int), ctN P M + 1 - p ≤ k → 1 ≤ p → p + k ≤ 10000 →
    RK MX10_placeOf 2 [.ref m, .int (zi s), .int (zi i), .int (zi p)] [] (0, 0) (E, zg G, zk L, r) Q = Q (E, zg G, zk L, r) (.int (zi (bel (ctN P M + 1) (fdL (fun p => decide ((ixN P M p : Int) = i)) (ctN P M + 1) k p)))) := by
  have m0 := hm.1
  obtain ⟨k7, l7, r7⟩ := hm.2.2.2.2.2.2.2.1
  have h12 := ha.1
  have hc := ctN_b P M
  intro k
  induction k with
  | zero =>
    intro p h1 h2 h3
    have h6 : ¬ p ≤ ctN P M := by omega
    simp (disch := first | assumption | exact c2_int _ | exact c2_ref _ | exact c2_jk | exact c2_null | omega | exact bI_r _ | exact bI_01 _) only [↓fX10_placeOf_0, ↓fX10_placeOf_1, ↓fX10_placeOf_2, ↓fX10_placeOf_3, ↓fX10_placeOf_4, ↓fX10_placeOf_7, ↓fX10_placeOf_10, ↓fX10_placeOf_11, ↓fX10_placeOf_14, ↓fX10_placeOf_15, ↓fX10_placeOf_16, ↓fX10_placeOf_17, ↓fX10_placeOf_18, ↓fX10_placeOf_19, ↓fX10_placeOf_22, ↓fX10_placeOf_23, ↓fX10_placeOf_24, ↓fX10_placeOf_27, ↓fX10_placeOf_30, ↓fX10_placeOf_31, h12, h6, fdL, and_self, true_and, and_true, false_and, and_false, not_true_eq_false, not_false_eq_true, or_self, true_or, or_true, false_or, or_false, ite_not, Decidable.not_not, decide_eq_true_eq, Bool.not_true, Bool.not_false, Bool.false_eq_true, Bool.not_eq_true, n10, n20, n21, n30, n31, n32, n40, n41, n42, n43, ↓reduceIte]
    rw [bel_n (by omega)]
  | succ k ih =>
    intro p h1 h2 h3
    by_cases h6 : p ≤ ctN P M
    · have h6' : p < ctN P M + 1 := by omega
      have e := ha.2 p h2 h6
      have b := ixN_ok P M p h2 h6
      rw [fX10_placeOf_2]
      by_cases h9 : (ixN P M p : Int) = i
      · simp (disch := first | assumption | exact c2_int _ | exact c2_ref _ | exact c2_jk | exact c2_null | omega | exact bI_r _ | exact bI_01 _) only [↓fX10_placeOf_0, ↓fX10_placeOf_1, ↓fX10_placeOf_3, ↓fX10_placeOf_4, ↓fX10_placeOf_7, ↓fX10_placeOf_10, ↓fX10_placeOf_11, ↓fX10_placeOf_14, ↓fX10_placeOf_15, ↓fX10_placeOf_16, ↓fX10_placeOf_17, ↓fX10_placeOf_18, ↓fX10_placeOf_19, ↓fX10_placeOf_22, ↓fX10_placeOf_23, ↓fX10_placeOf_24, ↓fX10_placeOf_27, ↓fX10_placeOf_30, ↓fX10_placeOf_31, e, h12, h6, h6', h9, fdL, decide_true, bel_y, and_self, true_and, and_true, false_and, and_false, not_true_eq_false, not_false_eq_true, or_self, true_or, or_true, false_or, or_false, ite_not, Decidable.not_not, decide_eq_true_eq, Bool.not_true, Bool.not_false, Bool.false_eq_true, Bool.not_eq_true, n10, n20, n21, n30, n31, n32, n40, n41, n42, n43, ↓reduceIte]
      · have h9' : decide ((ixN P M p : Int) = i) = false := decide_eq_false h9
        simp (disch := first | assumption | exact c2_int _ | exact c2_ref _ | exact c2_jk | exact c2_null | omega | exact bI_r _ | exact bI_01 _) only [↓fX10_placeOf_0, ↓fX10_placeOf_1, ↓fX10_placeOf_3, ↓fX10_placeOf_4, ↓fX10_placeOf_7, ↓fX10_placeOf_10, ↓fX10_placeOf_11, ↓fX10_placeOf_14, ↓fX10_placeOf_15, ↓fX10_placeOf_16, ↓fX10_placeOf_17, ↓fX10_placeOf_18, ↓fX10_placeOf_19, ↓fX10_placeOf_22, ↓fX10_placeOf_23, ↓fX10_placeOf_24, ↓fX10_placeOf_27, ↓fX10_placeOf_30, ↓fX10_placeOf_31, e, ↓ih, h12, h6, h6', h9, h9', fdL, and_self, true_and, and_true, false_and, and_false, not_true_eq_false, not_false_eq_true, or_self, true_or, or_true, false_or, or_false, ite_not, Decidable.not_not, decide_eq_true_eq, Bool.not_true, Bool.not_false, Bool.false_eq_true, Bool.not_eq_true, n10, n20, n21, n30, n31, n32, n40, n41, n42, n43, ↓reduceIte]
    · have h6' : ¬ p < ctN P M + 1 := by omega
      simp (disch := first | assumption | exact c2_int _ | exact c2_ref _ | exact c2_jk | exact c2_null | omega | exact bI_r _ | exact bI_01 _) only [↓fX10_placeOf_0, ↓fX10_placeOf_1, ↓fX10_placeOf_2, ↓fX10_placeOf_3, ↓fX10_placeOf_4, ↓fX10_placeOf_7, ↓fX10_placeOf_10, ↓fX10_placeOf_11, ↓fX10_placeOf_14, ↓fX10_placeOf_15, ↓fX10_placeOf_16, ↓fX10_placeOf_17, ↓fX10_placeOf_18, ↓fX10_placeOf_19, ↓fX10_placeOf_22, ↓fX10_placeOf_23, ↓fX10_placeOf_24, ↓fX10_placeOf_27, ↓fX10_placeOf_30, ↓fX10_placeOf_31, h12, h6, fdL, h6', and_self, true_and, and_true, false_and, and_false, not_true_eq_false, not_false_eq_true, or_self, true_or, or_true, false_or, or_false, ite_not, Decidable.not_not, decide_eq_true_eq, Bool.not_true, Bool.not_false, Bool.false_eq_true, Bool.not_eq_true, n10, n20, n21, n30, n31, n32, n40, n41, n42, n43, ↓reduceIte]
      rw [bel_n (by omega)]
theorem m_placeOf (hm : shM E r m) (ha : LAP G m P M) (hM : M ≤ 600) (hi : I32 i) (hs : I32 s) : RK MX10_placeOf 0 [.ref m, .int (zi s), .int (zi i), jk] [] (0, 0) (E, zg G, zk L, r) Q = Q (E, zg G, zk L, r) (.int (zi (plN P M i))) := by
  have hc := ctN_b P M
  rw [← plN_fd P M i (k := 600) (by omega)]
  rw [fX10_placeOf_0, fX10_placeOf_1 (c2_int _)]
  exact m_placeOf_loop hm ha hM hi hs 600 1 (by omega) (by omega) (by omega)
theorem m_gapsBy_loop (hm : shM E r m) (hs : 0 ≤ s ∧ s ≤ 4) (hl : SL G m s σ) (hW : WF σ) (ha : LAS G m σ) (hd : I32 d) : ∀ (k : Nat) (i c : Int), szS σ - i ≤ k → 1 ≤ i → i + k ≤ 10000 → 0 ≤ c → c + k ≤ 10000 →
    RK MX10_gapsBy 5 [.ref m, .int (zi s), .int (zi d), .int (zi c), .int (zi i)] [] (0, 0) (E, zg G, zk L, r) Q = Q (E, zg G, zk L, r) (.int (zi (cnL (fun p => decide (gAS σ p = d)) (szS σ) k i c))) := by
  have m0 := hm.1
  have h12 := ha.1
  have hz := szS_b hW
  have h12 : G m 12 = szS σ := h12
  intro k
  induction k with
  | zero =>
    intro i c h1 h2 h3 h4 h5
    have h6 : ¬ i < szS σ := by omega
    simp (disch := first | assumption | exact c2_int _ | exact c2_ref _ | exact c2_jk | exact c2_null | omega | exact bI_r _ | exact bI_01 _) only [↓fX10_gapsBy_0, ↓fX10_gapsBy_1, ↓fX10_gapsBy_2, ↓fX10_gapsBy_3, ↓fX10_gapsBy_5, ↓fX10_gapsBy_7, ↓fX10_gapsBy_8, ↓fX10_gapsBy_11, ↓fX10_gapsBy_14, ↓fX10_gapsBy_15, ↓fX10_gapsBy_16, ↓fX10_gapsBy_17, ↓fX10_gapsBy_19, ↓fX10_gapsBy_22, ↓fX10_gapsBy_23, ↓fX10_gapsBy_26, ↓fX10_gapsBy_27, ↓fX10_gapsBy_30, ↓fX10_gapsBy_31, ↓fX10_gapsBy_32, ↓fX10_gapsBy_33, ↓fX10_gapsBy_36, ↓fX10_gapsBy_39, ↓fX10_gapsBy_40, h12, h6, cnL, and_self, true_and, and_true, false_and, and_false, not_true_eq_false, not_false_eq_true, or_self, true_or, or_true, false_or, or_false, ite_not, Decidable.not_not, decide_eq_true_eq, Bool.not_true, Bool.not_false, Bool.false_eq_true, Bool.not_eq_true, n10, n20, n21, n30, n31, n32, n40, n41, n42, n43, ↓reduceIte]
  | succ k ih =>
    intro i c h1 h2 h3 h4 h5
    by_cases h6 : i < szS σ
    · have h6' : i < szS σ := h6
      have hb := gAS_b hW i
      rw [fX10_gapsBy_5]
      by_cases h9 : gAS σ i = d
      · simp (disch := first | assumption | exact c2_int _ | exact c2_ref _ | exact c2_jk | exact c2_null | omega | exact bI_r _ | exact bI_01 _) only [↓fX10_gapsBy_0, ↓fX10_gapsBy_1, ↓fX10_gapsBy_2, ↓fX10_gapsBy_3, ↓fX10_gapsBy_7, ↓fX10_gapsBy_8, ↓fX10_gapsBy_11, ↓fX10_gapsBy_14, ↓fX10_gapsBy_15, ↓fX10_gapsBy_16, ↓fX10_gapsBy_17, ↓fX10_gapsBy_19, ↓fX10_gapsBy_22, ↓fX10_gapsBy_23, ↓fX10_gapsBy_26, ↓fX10_gapsBy_27, ↓fX10_gapsBy_30, ↓fX10_gapsBy_31, ↓fX10_gapsBy_32, ↓fX10_gapsBy_33, ↓fX10_gapsBy_36, ↓fX10_gapsBy_39, ↓fX10_gapsBy_40, ↓m_gapAt, ↓ih, bI_0, h12, h6, h6', h9, decide_true, cnL, Int.add_zero, and_self, true_and, and_true, false_and, and_false, not_true_eq_false, not_false_eq_true, or_self, true_or, or_true, false_or, or_false, ite_not, Decidable.not_not, decide_eq_true_eq, Bool.not_true, Bool.not_false, Bool.false_eq_true, Bool.not_eq_true, n10, n20, n21, n30, n31, n32, n40, n41, n42, n43, ↓reduceIte]
      · simp (disch := first | assumption | exact c2_int _ | exact c2_ref _ | exact c2_jk | exact c2_null | omega | exact bI_r _ | exact bI_01 _) only [↓fX10_gapsBy_0, ↓fX10_gapsBy_1, ↓fX10_gapsBy_2, ↓fX10_gapsBy_3, ↓fX10_gapsBy_7, ↓fX10_gapsBy_8, ↓fX10_gapsBy_11, ↓fX10_gapsBy_14, ↓fX10_gapsBy_15, ↓fX10_gapsBy_16, ↓fX10_gapsBy_17, ↓fX10_gapsBy_19, ↓fX10_gapsBy_22, ↓fX10_gapsBy_23, ↓fX10_gapsBy_26, ↓fX10_gapsBy_27, ↓fX10_gapsBy_30, ↓fX10_gapsBy_31, ↓fX10_gapsBy_32, ↓fX10_gapsBy_33, ↓fX10_gapsBy_36, ↓fX10_gapsBy_39, ↓fX10_gapsBy_40, ↓m_gapAt, ↓ih, bI_0, h12, h6, h6', h9, decide_false, cnL, Int.add_zero, and_self, true_and, and_true, false_and, and_false, not_true_eq_false, not_false_eq_true, or_self, true_or, or_true, false_or, or_false, ite_not, Decidable.not_not, decide_eq_true_eq, Bool.not_true, Bool.not_false, Bool.false_eq_true, Bool.not_eq_true, n10, n20, n21, n30, n31, n32, n40, n41, n42, n43, ↓reduceIte]
    · have h6' : ¬ i < szS σ := by omega
      simp (disch := first | assumption | exact c2_int _ | exact c2_ref _ | exact c2_jk | exact c2_null | omega | exact bI_r _ | exact bI_01 _) only [↓fX10_gapsBy_0, ↓fX10_gapsBy_1, ↓fX10_gapsBy_2, ↓fX10_gapsBy_3, ↓fX10_gapsBy_5, ↓fX10_gapsBy_7, ↓fX10_gapsBy_8, ↓fX10_gapsBy_11, ↓fX10_gapsBy_14, ↓fX10_gapsBy_15, ↓fX10_gapsBy_16, ↓fX10_gapsBy_17, ↓fX10_gapsBy_19, ↓fX10_gapsBy_22, ↓fX10_gapsBy_23, ↓fX10_gapsBy_26, ↓fX10_gapsBy_27, ↓fX10_gapsBy_30, ↓fX10_gapsBy_31, ↓fX10_gapsBy_32, ↓fX10_gapsBy_33, ↓fX10_gapsBy_36, ↓fX10_gapsBy_39, ↓fX10_gapsBy_40, h12, h6, h6', cnL, and_self, true_and, and_true, false_and, and_false, not_true_eq_false, not_false_eq_true, or_self, true_or, or_true, false_or, or_false, ite_not, Decidable.not_not, decide_eq_true_eq, Bool.not_true, Bool.not_false, Bool.false_eq_true, Bool.not_eq_true, n10, n20, n21, n30, n31, n32, n40, n41, n42, n43, ↓reduceIte]
theorem m_gapsBy (hm : shM E r m) (hs : 0 ≤ s ∧ s ≤ 4) (hl : SL G m s σ) (hW : WF σ) (ha : LAS G m σ) (hd : I32 d) : RK MX10_gapsBy 0 [.ref m, .int (zi s), .int (zi d), jk, jk] [] (0, 0) (E, zg G, zk L, r) Q = Q (E, zg G, zk L, r) (.int (zi (cgZ σ d))) := by
  have hz := szS_b hW
  rw [fX10_gapsBy_0, fX10_gapsBy_1 (c2_int _), fX10_gapsBy_2, fX10_gapsBy_3 (c2_int _)]
  exact m_gapsBy_loop hm hs hl hW ha hd 600 1 0 (by omega) (by omega) (by omega) (by omega) (by omega)
theorem m_handUpTo_loop (hm : shM E r m) (hs : 0 ≤ s ∧ s ≤ 4) (hl : SL G m s σ) (hW : WF σ) (ha : LAS G m σ) (hd : I32 d) : ∀ (k : Nat) (i c : Int), szS σ + 1 - i ≤ k → 1 ≤ i → i + k ≤ 10000 → 0 ≤ c → c + k ≤ 10000 →
    RK MX10_handUpTo 5 [.ref m, .int (zi s), .int (zi d), .int (zi c), .int (zi i)] [] (0, 0) (E, zg G, zk L, r) Q = Q (E, zg G, zk L, r) (.int (zi (cnL (fun p => decide (nAS σ p ≤ d)) (szS σ + 1) k i c))) := by
  have m0 := hm.1
  have h12 := ha.1
  have hz := szS_b hW
  have h12 : G m 12 = szS σ := h12
  intro k
  induction k with
  | zero =>
    intro i c h1 h2 h3 h4 h5
    have h6 : ¬ i ≤ szS σ := by omega
    simp (disch := first | assumption | exact c2_int _ | exact c2_ref _ | exact c2_jk | exact c2_null | omega | exact bI_r _ | exact bI_01 _) only [↓fX10_handUpTo_0, ↓fX10_handUpTo_1, ↓fX10_handUpTo_2, ↓fX10_handUpTo_3, ↓fX10_handUpTo_5, ↓fX10_handUpTo_7, ↓fX10_handUpTo_8, ↓fX10_handUpTo_11, ↓fX10_handUpTo_14, ↓fX10_handUpTo_15, ↓fX10_handUpTo_16, ↓fX10_handUpTo_17, ↓fX10_handUpTo_19, ↓fX10_handUpTo_22, ↓fX10_handUpTo_23, ↓fX10_handUpTo_26, ↓fX10_handUpTo_27, ↓fX10_handUpTo_30, ↓fX10_handUpTo_31, ↓fX10_handUpTo_32, ↓fX10_handUpTo_33, ↓fX10_handUpTo_36, ↓fX10_handUpTo_39, ↓fX10_handUpTo_40, h12, h6, cnL, and_self, true_and, and_true, false_and, and_false, not_true_eq_false, not_false_eq_true, or_self, true_or, or_true, false_or, or_false, ite_not, Decidable.not_not, decide_eq_true_eq, Bool.not_true, Bool.not_false, Bool.false_eq_true, Bool.not_eq_true, n10, n20, n21, n30, n31, n32, n40, n41, n42, n43, ↓reduceIte]
  | succ k ih =>
    intro i c h1 h2 h3 h4 h5
    by_cases h6 : i ≤ szS σ
    · have h6' : i < szS σ + 1 := by omega
      have hb := nAS_b hW i
      rw [fX10_handUpTo_5]
      by_cases h9 : nAS σ i ≤ d
      · simp (disch := first | assumption | exact c2_int _ | exact c2_ref _ | exact c2_jk | exact c2_null | omega | exact bI_r _ | exact bI_01 _) only [↓fX10_handUpTo_0, ↓fX10_handUpTo_1, ↓fX10_handUpTo_2, ↓fX10_handUpTo_3, ↓fX10_handUpTo_7, ↓fX10_handUpTo_8, ↓fX10_handUpTo_11, ↓fX10_handUpTo_14, ↓fX10_handUpTo_15, ↓fX10_handUpTo_16, ↓fX10_handUpTo_17, ↓fX10_handUpTo_19, ↓fX10_handUpTo_22, ↓fX10_handUpTo_23, ↓fX10_handUpTo_26, ↓fX10_handUpTo_27, ↓fX10_handUpTo_30, ↓fX10_handUpTo_31, ↓fX10_handUpTo_32, ↓fX10_handUpTo_33, ↓fX10_handUpTo_36, ↓fX10_handUpTo_39, ↓fX10_handUpTo_40, ↓m_at, ↓ih, bI_0, h12, h6, h6', h9, decide_true, cnL, Int.add_zero, and_self, true_and, and_true, false_and, and_false, not_true_eq_false, not_false_eq_true, or_self, true_or, or_true, false_or, or_false, ite_not, Decidable.not_not, decide_eq_true_eq, Bool.not_true, Bool.not_false, Bool.false_eq_true, Bool.not_eq_true, n10, n20, n21, n30, n31, n32, n40, n41, n42, n43, ↓reduceIte]
      · simp (disch := first | assumption | exact c2_int _ | exact c2_ref _ | exact c2_jk | exact c2_null | omega | exact bI_r _ | exact bI_01 _) only [↓fX10_handUpTo_0, ↓fX10_handUpTo_1, ↓fX10_handUpTo_2, ↓fX10_handUpTo_3, ↓fX10_handUpTo_7, ↓fX10_handUpTo_8, ↓fX10_handUpTo_11, ↓fX10_handUpTo_14, ↓fX10_handUpTo_15, ↓fX10_handUpTo_16, ↓fX10_handUpTo_17, ↓fX10_handUpTo_19, ↓fX10_handUpTo_22, ↓fX10_handUpTo_23, ↓fX10_handUpTo_26, ↓fX10_handUpTo_27, ↓fX10_handUpTo_30, ↓fX10_handUpTo_31, ↓fX10_handUpTo_32, ↓fX10_handUpTo_33, ↓fX10_handUpTo_36, ↓fX10_handUpTo_39, ↓fX10_handUpTo_40, ↓m_at, ↓ih, bI_0, h12, h6, h6', h9, decide_false, cnL, Int.add_zero, and_self, true_and, and_true, false_and, and_false, not_true_eq_false, not_false_eq_true, or_self, true_or, or_true, false_or, or_false, ite_not, Decidable.not_not, decide_eq_true_eq, Bool.not_true, Bool.not_false, Bool.false_eq_true, Bool.not_eq_true, n10, n20, n21, n30, n31, n32, n40, n41, n42, n43, ↓reduceIte]
    · have h6' : ¬ i < szS σ + 1 := by omega
      simp (disch := first | assumption | exact c2_int _ | exact c2_ref _ | exact c2_jk | exact c2_null | omega | exact bI_r _ | exact bI_01 _) only [↓fX10_handUpTo_0, ↓fX10_handUpTo_1, ↓fX10_handUpTo_2, ↓fX10_handUpTo_3, ↓fX10_handUpTo_5, ↓fX10_handUpTo_7, ↓fX10_handUpTo_8, ↓fX10_handUpTo_11, ↓fX10_handUpTo_14, ↓fX10_handUpTo_15, ↓fX10_handUpTo_16, ↓fX10_handUpTo_17, ↓fX10_handUpTo_19, ↓fX10_handUpTo_22, ↓fX10_handUpTo_23, ↓fX10_handUpTo_26, ↓fX10_handUpTo_27, ↓fX10_handUpTo_30, ↓fX10_handUpTo_31, ↓fX10_handUpTo_32, ↓fX10_handUpTo_33, ↓fX10_handUpTo_36, ↓fX10_handUpTo_39, ↓fX10_handUpTo_40, h12, h6, h6', cnL, and_self, true_and, and_true, false_and, and_false, not_true_eq_false, not_false_eq_true, or_self, true_or, or_true, false_or, or_false, ite_not, Decidable.not_not, decide_eq_true_eq, Bool.not_true, Bool.not_false, Bool.false_eq_true, Bool.not_eq_true, n10, n20, n21, n30, n31, n32, n40, n41, n42, n43, ↓reduceIte]
theorem m_handUpTo (hm : shM E r m) (hs : 0 ≤ s ∧ s ≤ 4) (hl : SL G m s σ) (hW : WF σ) (ha : LAS G m σ) (hd : I32 d) : RK MX10_handUpTo 0 [.ref m, .int (zi s), .int (zi d), jk, jk] [] (0, 0) (E, zg G, zk L, r) Q = Q (E, zg G, zk L, r) (.int (zi (cnL (fun p => decide (nAS σ p ≤ d)) (szS σ + 1) 601 1 0))) := by
  have hz := szS_b hW
  rw [fX10_handUpTo_0, fX10_handUpTo_1 (c2_int _), fX10_handUpTo_2, fX10_handUpTo_3 (c2_int _)]
  exact m_handUpTo_loop hm hs hl hW ha hd 601 1 0 (by omega) (by omega) (by omega) (by omega) (by omega)
theorem m_restMany_loop (hm : shM E r m) (hs : 0 ≤ s ∧ s ≤ 4) (hl : SL G m s σ) (hW : WF σ) (ha : LAS G m σ) (hd : 1 ≤ d ∧ d ≤ 999) (he : I32 e) : ∀ (k : Nat) (i c : Int), szS σ + 1 - i ≤ k → 1 ≤ i → i + k ≤ 10000 → 0 ≤ c → c + k ≤ 10000 →
    RK MX10_restMany 6 [.ref m, .int (zi s), .int (zi d), .int (zi e), .int (zi c), .int (zi i)] [] (0, 0) (E, zg G, zk L, r) Q = Q (E, zg G, zk L, r) (.int (zi (cnL (fun p => decide (nAS σ p % d = e)) (szS σ + 1) k i c))) := by
  have m0 := hm.1
  have h12 := ha.1
  have hz := szS_b hW
  have h12 : G m 12 = szS σ := h12
  intro k
  induction k with
  | zero =>
    intro i c h1 h2 h3 h4 h5
    have h6 : ¬ i ≤ szS σ := by omega
    simp (disch := first | assumption | exact c2_int _ | exact c2_ref _ | exact c2_jk | exact c2_null | omega | exact bI_r _ | exact bI_01 _) only [↓fX10_restMany_0, ↓fX10_restMany_1, ↓fX10_restMany_3, ↓fX10_restMany_4, ↓fX10_restMany_6, ↓fX10_restMany_8, ↓fX10_restMany_9, ↓fX10_restMany_12, ↓fX10_restMany_15, ↓fX10_restMany_17, ↓fX10_restMany_18, ↓fX10_restMany_19, ↓fX10_restMany_21, ↓fX10_restMany_24, ↓fX10_restMany_25, ↓fX10_restMany_26, ↓fX10_restMany_27, ↓fX10_restMany_30, ↓fX10_restMany_31, ↓fX10_restMany_34, ↓fX10_restMany_35, ↓fX10_restMany_36, ↓fX10_restMany_38, ↓fX10_restMany_41, ↓fX10_restMany_44, ↓fX10_restMany_46, h12, h6, cnL, and_self, true_and, and_true, false_and, and_false, not_true_eq_false, not_false_eq_true, or_self, true_or, or_true, false_or, or_false, ite_not, Decidable.not_not, decide_eq_true_eq, Bool.not_true, Bool.not_false, Bool.false_eq_true, Bool.not_eq_true, n10, n20, n21, n30, n31, n32, n40, n41, n42, n43, ↓reduceIte]
  | succ k ih =>
    intro i c h1 h2 h3 h4 h5
    by_cases h6 : i ≤ szS σ
    · have h6' : i < szS σ + 1 := by omega
      have hb := nAS_ix hW (p := i) ⟨h2, h6⟩
      obtain ⟨-, -, -, -, -, hb1, hb2⟩ := hb
      have q1 : 0 ≤ nAS σ i % d := Int.emod_nonneg _ (by omega)
      have q2 : nAS σ i % d < d := Int.emod_lt_of_pos _ (by omega)
      rw [fX10_restMany_6]
      by_cases h9 : nAS σ i % d = e
      · simp (disch := first | assumption | exact c2_int _ | exact c2_ref _ | exact c2_jk | exact c2_null | omega | exact bI_r _ | exact bI_01 _) only [↓fX10_restMany_0, ↓fX10_restMany_1, ↓fX10_restMany_3, ↓fX10_restMany_4, ↓fX10_restMany_8, ↓fX10_restMany_9, ↓fX10_restMany_12, ↓fX10_restMany_15, ↓fX10_restMany_17, ↓fX10_restMany_18, ↓fX10_restMany_19, ↓fX10_restMany_21, ↓fX10_restMany_24, ↓fX10_restMany_25, ↓fX10_restMany_26, ↓fX10_restMany_27, ↓fX10_restMany_30, ↓fX10_restMany_31, ↓fX10_restMany_34, ↓fX10_restMany_35, ↓fX10_restMany_36, ↓fX10_restMany_38, ↓fX10_restMany_41, ↓fX10_restMany_44, ↓fX10_restMany_46, ↓m_at, ↓ih, bI_0, h12, h6, h6', h9, decide_true, cnL, Int.add_zero, and_self, true_and, and_true, false_and, and_false, not_true_eq_false, not_false_eq_true, or_self, true_or, or_true, false_or, or_false, ite_not, Decidable.not_not, decide_eq_true_eq, Bool.not_true, Bool.not_false, Bool.false_eq_true, Bool.not_eq_true, n10, n20, n21, n30, n31, n32, n40, n41, n42, n43, ↓reduceIte]
      · simp (disch := first | assumption | exact c2_int _ | exact c2_ref _ | exact c2_jk | exact c2_null | omega | exact bI_r _ | exact bI_01 _) only [↓fX10_restMany_0, ↓fX10_restMany_1, ↓fX10_restMany_3, ↓fX10_restMany_4, ↓fX10_restMany_8, ↓fX10_restMany_9, ↓fX10_restMany_12, ↓fX10_restMany_15, ↓fX10_restMany_17, ↓fX10_restMany_18, ↓fX10_restMany_19, ↓fX10_restMany_21, ↓fX10_restMany_24, ↓fX10_restMany_25, ↓fX10_restMany_26, ↓fX10_restMany_27, ↓fX10_restMany_30, ↓fX10_restMany_31, ↓fX10_restMany_34, ↓fX10_restMany_35, ↓fX10_restMany_36, ↓fX10_restMany_38, ↓fX10_restMany_41, ↓fX10_restMany_44, ↓fX10_restMany_46, ↓m_at, ↓ih, bI_0, h12, h6, h6', h9, decide_false, cnL, Int.add_zero, and_self, true_and, and_true, false_and, and_false, not_true_eq_false, not_false_eq_true, or_self, true_or, or_true, false_or, or_false, ite_not, Decidable.not_not, decide_eq_true_eq, Bool.not_true, Bool.not_false, Bool.false_eq_true, Bool.not_eq_true, n10, n20, n21, n30, n31, n32, n40, n41, n42, n43, ↓reduceIte]
    · have h6' : ¬ i < szS σ + 1 := by omega
      simp (disch := first | assumption | exact c2_int _ | exact c2_ref _ | exact c2_jk | exact c2_null | omega | exact bI_r _ | exact bI_01 _) only [↓fX10_restMany_0, ↓fX10_restMany_1, ↓fX10_restMany_3, ↓fX10_restMany_4, ↓fX10_restMany_6, ↓fX10_restMany_8, ↓fX10_restMany_9, ↓fX10_restMany_12, ↓fX10_restMany_15, ↓fX10_restMany_17, ↓fX10_restMany_18, ↓fX10_restMany_19, ↓fX10_restMany_21, ↓fX10_restMany_24, ↓fX10_restMany_25, ↓fX10_restMany_26, ↓fX10_restMany_27, ↓fX10_restMany_30, ↓fX10_restMany_31, ↓fX10_restMany_34, ↓fX10_restMany_35, ↓fX10_restMany_36, ↓fX10_restMany_38, ↓fX10_restMany_41, ↓fX10_restMany_44, ↓fX10_restMany_46, h12, h6, h6', cnL, and_self, true_and, and_true, false_and, and_false, not_true_eq_false, not_false_eq_true, or_self, true_or, or_true, false_or, or_false, ite_not, Decidable.not_not, decide_eq_true_eq, Bool.not_true, Bool.not_false, Bool.false_eq_true, Bool.not_eq_true, n10, n20, n21, n30, n31, n32, n40, n41, n42, n43, ↓reduceIte]
theorem m_restMany (hm : shM E r m) (hs : 0 ≤ s ∧ s ≤ 4) (hl : SL G m s σ) (hW : WF σ) (ha : LAS G m σ) (hd : 1 ≤ d ∧ d ≤ 999) (he : I32 e) : RK MX10_restMany 0 [.ref m, .int (zi s), .int (zi d), .int (zi e), jk, jk] [] (0, 0) (E, zg G, zk L, r) Q = Q (E, zg G, zk L, r) (.int (zi (cnL (fun p => decide (nAS σ p % d = e)) (szS σ + 1) 601 1 0))) := by
  have hz := szS_b hW
  simp (disch := first | assumption | exact c2_int _ | exact c2_ref _ | exact c2_jk | exact c2_null | omega | exact bI_r _ | exact bI_01 _) only [↓fX10_restMany_0, ↓fX10_restMany_1, ↓fX10_restMany_3, ↓fX10_restMany_4, ↓fX10_restMany_8, ↓fX10_restMany_9, ↓fX10_restMany_12, ↓fX10_restMany_15, ↓fX10_restMany_17, ↓fX10_restMany_18, ↓fX10_restMany_19, ↓fX10_restMany_21, ↓fX10_restMany_24, ↓fX10_restMany_25, ↓fX10_restMany_26, ↓fX10_restMany_27, ↓fX10_restMany_30, ↓fX10_restMany_31, ↓fX10_restMany_34, ↓fX10_restMany_35, ↓fX10_restMany_36, ↓fX10_restMany_38, ↓fX10_restMany_41, ↓fX10_restMany_44, ↓fX10_restMany_46]
  exact m_restMany_loop hm hs hl hW ha hd he 601 1 0 (by omega) (by omega) (by omega) (by omega) (by omega)
theorem m_runFrom_loop (hm : shM E r m) (hs : 0 ≤ s ∧ s ≤ 4) (hl : SL G m s σ) (hW : WF σ) (ha : LAS G m σ) {p0 : Int} : ∀ (k : Nat) (q : Int), szS σ - q ≤ k → 1 ≤ q → q + k ≤ 10000 →
    RK MX10_runFrom 2 [.ref m, .int (zi s), .int (zi p0), .int (zi q)] [] (0, 0) (E, zg G, zk L, r) Q = Q (E, zg G, zk L, r) (.int (zi (reL (gAS σ) (szS σ) (σ 2) k q - p0 + 1))) := by
  have m0 := hm.1
  have hz := szS_b hW
  have w2 := hW.2.2.1
  have h12 : G m 12 = szS σ := ha.1
  intro k
  induction k with
  | zero =>
    intro q h1 h2 h3
    have h6 : ¬ q < szS σ := by omega
    simp (disch := first | assumption | exact c2_int _ | exact c2_ref _ | exact c2_jk | exact c2_null | omega | exact bI_r _ | exact bI_01 _) only [↓fX10_runFrom_0, ↓fX10_runFrom_1, ↓fX10_runFrom_2, ↓fX10_runFrom_3, ↓fX10_runFrom_4, ↓fX10_runFrom_7, ↓fX10_runFrom_10, ↓fX10_runFrom_11, ↓fX10_runFrom_12, ↓fX10_runFrom_13, ↓fX10_runFrom_16, ↓fX10_runFrom_17, ↓fX10_runFrom_18, ↓fX10_runFrom_19, ↓fX10_runFrom_22, ↓fX10_runFrom_25, ↓fX10_runFrom_28, ↓fX10_runFrom_31, ↓fX10_runFrom_32, ↓fX10_runFrom_33, ↓fX10_runFrom_34, ↓fX10_runFrom_35, ↓fX10_runFrom_36, h12, h6, reL, and_self, true_and, and_true, false_and, and_false, not_true_eq_false, not_false_eq_true, or_self, true_or, or_true, false_or, or_false, ite_not, Decidable.not_not, decide_eq_true_eq, Bool.not_true, Bool.not_false, Bool.false_eq_true, Bool.not_eq_true, n10, n20, n21, n30, n31, n32, n40, n41, n42, n43, ↓reduceIte]
  | succ k ih =>
    intro q h1 h2 h3
    by_cases h6 : q < szS σ
    · have hb := gAS_b hW q
      rw [fX10_runFrom_2]
      by_cases h9 : gAS σ q = σ 2
      · simp (disch := first | assumption | exact c2_int _ | exact c2_ref _ | exact c2_jk | exact c2_null | omega | exact bI_r _ | exact bI_01 _) only [↓fX10_runFrom_0, ↓fX10_runFrom_1, ↓fX10_runFrom_3, ↓fX10_runFrom_4, ↓fX10_runFrom_7, ↓fX10_runFrom_10, ↓fX10_runFrom_11, ↓fX10_runFrom_12, ↓fX10_runFrom_13, ↓fX10_runFrom_16, ↓fX10_runFrom_17, ↓fX10_runFrom_18, ↓fX10_runFrom_19, ↓fX10_runFrom_22, ↓fX10_runFrom_25, ↓fX10_runFrom_28, ↓fX10_runFrom_31, ↓fX10_runFrom_32, ↓fX10_runFrom_33, ↓fX10_runFrom_34, ↓fX10_runFrom_35, ↓fX10_runFrom_36, ↓m_gapAt, ↓m_of, Int.reduceToNat, ↓ih, h12, h6, h9, reL, and_self, true_and, and_true, false_and, and_false, not_true_eq_false, not_false_eq_true, or_self, true_or, or_true, false_or, or_false, ite_not, Decidable.not_not, decide_eq_true_eq, Bool.not_true, Bool.not_false, Bool.false_eq_true, Bool.not_eq_true, n10, n20, n21, n30, n31, n32, n40, n41, n42, n43, ↓reduceIte]
      · simp (disch := first | assumption | exact c2_int _ | exact c2_ref _ | exact c2_jk | exact c2_null | omega | exact bI_r _ | exact bI_01 _) only [↓fX10_runFrom_0, ↓fX10_runFrom_1, ↓fX10_runFrom_3, ↓fX10_runFrom_4, ↓fX10_runFrom_7, ↓fX10_runFrom_10, ↓fX10_runFrom_11, ↓fX10_runFrom_12, ↓fX10_runFrom_13, ↓fX10_runFrom_16, ↓fX10_runFrom_17, ↓fX10_runFrom_18, ↓fX10_runFrom_19, ↓fX10_runFrom_22, ↓fX10_runFrom_25, ↓fX10_runFrom_28, ↓fX10_runFrom_31, ↓fX10_runFrom_32, ↓fX10_runFrom_33, ↓fX10_runFrom_34, ↓fX10_runFrom_35, ↓fX10_runFrom_36, ↓m_gapAt, ↓m_of, Int.reduceToNat, ↓ih, h12, h6, h9, reL, and_self, true_and, and_true, false_and, and_false, not_true_eq_false, not_false_eq_true, or_self, true_or, or_true, false_or, or_false, ite_not, Decidable.not_not, decide_eq_true_eq, Bool.not_true, Bool.not_false, Bool.false_eq_true, Bool.not_eq_true, n10, n20, n21, n30, n31, n32, n40, n41, n42, n43, ↓reduceIte]
    · simp (disch := first | assumption | exact c2_int _ | exact c2_ref _ | exact c2_jk | exact c2_null | omega | exact bI_r _ | exact bI_01 _) only [↓fX10_runFrom_0, ↓fX10_runFrom_1, ↓fX10_runFrom_2, ↓fX10_runFrom_3, ↓fX10_runFrom_4, ↓fX10_runFrom_7, ↓fX10_runFrom_10, ↓fX10_runFrom_11, ↓fX10_runFrom_12, ↓fX10_runFrom_13, ↓fX10_runFrom_16, ↓fX10_runFrom_17, ↓fX10_runFrom_18, ↓fX10_runFrom_19, ↓fX10_runFrom_22, ↓fX10_runFrom_25, ↓fX10_runFrom_28, ↓fX10_runFrom_31, ↓fX10_runFrom_32, ↓fX10_runFrom_33, ↓fX10_runFrom_34, ↓fX10_runFrom_35, ↓fX10_runFrom_36, h12, h6, reL, and_self, true_and, and_true, false_and, and_false, not_true_eq_false, not_false_eq_true, or_self, true_or, or_true, false_or, or_false, ite_not, Decidable.not_not, decide_eq_true_eq, Bool.not_true, Bool.not_false, Bool.false_eq_true, Bool.not_eq_true, n10, n20, n21, n30, n31, n32, n40, n41, n42, n43, ↓reduceIte]
theorem m_runFrom (hm : shM E r m) (hs : 0 ≤ s ∧ s ≤ 4) (hl : SL G m s σ) (hW : WF σ) (ha : LAS G m σ) (hp : 1 ≤ p ∧ p ≤ 601) : RK MX10_runFrom 0 [.ref m, .int (zi s), .int (zi p), jk] [] (0, 0) (E, zg G, zk L, r) Q = Q (E, zg G, zk L, r) (.int (zi (reZ σ p - p + 1))) := by
  have hz := szS_b hW
  rw [fX10_runFrom_0, fX10_runFrom_1 (c2_int _)]
  exact m_runFrom_loop hm hs hl hW ha 600 p (by omega) (by omega) (by omega)
theorem hasS_x (w : WF σ) (h : hasS σ x = true) : 0 ≤ x ∧ x ≤ 100000 := by
  have b := iXS_b w x
  obtain ⟨-, w1, w2, w3, -⟩ := w
  unfold hasS at h
  rw [Bool.and_eq_true, decide_eq_true_eq] at h
  have h1 := h.1
  unfold iXS at h1
  by_cases c : x < σ 1
  · rw [if_pos c] at h1
    omega
  · rw [if_neg c] at h1
    by_cases c2 : σ 3 ≤ (x - σ 1) / σ 2 ∨ ¬ (x - σ 1) % σ 2 = 0
    · rw [if_pos c2] at h1
      omega
    · have e := Int.emod_def (x - σ 1) (σ 2)
      have e2 : σ 2 * ((x - σ 1) / σ 2) ≤ 99 * ((x - σ 1) / σ 2) := Int.mul_le_mul_of_nonneg_right (by omega) (Int.ediv_nonneg (by omega) (by omega))
      omega
theorem m_isBeyond (hm : shM E r m) (hs : 0 ≤ s ∧ s ≤ 4) (hl : SL G m s σ) (hW : WF σ) (hx : -1 ≤ x ∧ x ≤ 1000000) (hd : 1 ≤ d ∧ d < 2147483648) : RK MX10_isBeyond 0 [.ref m, .int (zi s), .int (zi x), .int (zi d)] [] (0, 0) (E, zg G, zk L, r) Q = Q (E, zg G, zk L, r) (.int (zi (bI (hasS σ (x + d) = true)))) := by
  have m0 := hm.1
  by_cases c : d ≤ 200000
  · by_cases c2 : hasS σ (x + d) = true
    · rw [bI_p c2]
      simp (disch := first | assumption | exact c2_int _ | exact c2_ref _ | exact c2_jk | exact c2_null | omega | exact bI_r _ | exact bI_01 _) only [↓fX10_isBeyond_0, ↓fX10_isBeyond_1, ↓fX10_isBeyond_3, ↓fX10_isBeyond_6, ↓fX10_isBeyond_7, ↓fX10_isBeyond_8, ↓fX10_isBeyond_9, ↓fX10_isBeyond_10, ↓fX10_isBeyond_11, ↓fX10_isBeyond_14, ↓fX10_isBeyond_17, ↓fX10_isBeyond_18, ↓fX10_isBeyond_21, ↓fX10_isBeyond_22, ↓m_isThere, bI_0, c, c2, and_self, true_and, and_true, false_and, and_false, not_true_eq_false, not_false_eq_true, or_self, true_or, or_true, false_or, or_false, ite_not, Decidable.not_not, decide_eq_true_eq, Bool.not_true, Bool.not_false, Bool.false_eq_true, Bool.not_eq_true, n10, n20, n21, n30, n31, n32, n40, n41, n42, n43, ↓reduceIte]
    · rw [bI_n c2]
      simp (disch := first | assumption | exact c2_int _ | exact c2_ref _ | exact c2_jk | exact c2_null | omega | exact bI_r _ | exact bI_01 _) only [↓fX10_isBeyond_0, ↓fX10_isBeyond_1, ↓fX10_isBeyond_3, ↓fX10_isBeyond_6, ↓fX10_isBeyond_7, ↓fX10_isBeyond_8, ↓fX10_isBeyond_9, ↓fX10_isBeyond_10, ↓fX10_isBeyond_11, ↓fX10_isBeyond_14, ↓fX10_isBeyond_17, ↓fX10_isBeyond_18, ↓fX10_isBeyond_21, ↓fX10_isBeyond_22, ↓m_isThere, bI_0, c, c2, and_self, true_and, and_true, false_and, and_false, not_true_eq_false, not_false_eq_true, or_self, true_or, or_true, false_or, or_false, ite_not, Decidable.not_not, decide_eq_true_eq, Bool.not_true, Bool.not_false, Bool.false_eq_true, Bool.not_eq_true, n10, n20, n21, n30, n31, n32, n40, n41, n42, n43, ↓reduceIte]
  · have c2 : ¬ hasS σ (x + d) = true := fun z => by
      have := hasS_x hW z
      omega
    rw [bI_n c2]
    simp (disch := first | assumption | exact c2_int _ | exact c2_ref _ | exact c2_jk | exact c2_null | omega | exact bI_r _ | exact bI_01 _) only [↓fX10_isBeyond_0, ↓fX10_isBeyond_1, ↓fX10_isBeyond_3, ↓fX10_isBeyond_6, ↓fX10_isBeyond_7, ↓fX10_isBeyond_8, ↓fX10_isBeyond_9, ↓fX10_isBeyond_10, ↓fX10_isBeyond_11, ↓fX10_isBeyond_14, ↓fX10_isBeyond_17, ↓fX10_isBeyond_18, ↓fX10_isBeyond_21, ↓fX10_isBeyond_22, c, and_self, true_and, and_true, false_and, and_false, not_true_eq_false, not_false_eq_true, or_self, true_or, or_true, false_or, or_false, ite_not, Decidable.not_not, decide_eq_true_eq, Bool.not_true, Bool.not_false, Bool.false_eq_true, Bool.not_eq_true, n10, n20, n21, n30, n31, n32, n40, n41, n42, n43, ↓reduceIte]
def swZ (σ : Nat → Int) (d : Int) : Nat → Int → Int
  | 0, _ => 1
  | k + 1, x => if hasS σ (x + d) = true then swZ σ d k (x + d) + 1 else 1
theorem m_stepsFrom_loop (hm : shM E r m) (hs : 0 ≤ s ∧ s ≤ 4) (hl : SL G m s σ) (hW : WF σ) (hd : 1 ≤ d ∧ d < 2147483648) {l2 : Value} : ∀ (k : Nat) (x c : Int), 100001 ≤ x + k → (0 ≤ x ∧ x ≤ 100000) → 0 ≤ c → c + k ≤ 1000000 →
    RK MX10_stepsFrom 6 [.ref m, .int (zi s), l2, .int (zi d), .int (zi (c + 1)), .int (zi x)] [] (0, 0) (E, zg G, zk L, r) Q = Q (E, zg G, zk L, r) (.int (zi (c + swZ σ d k x))) := by
  have m0 := hm.1
  intro k
  induction k with
  | zero =>
    intro x c h1 h2 h3 h4
    omega
  | succ k ih =>
    intro x c h1 h2 h3 h4
    rw [fX10_stepsFrom_6]
    by_cases h9 : hasS σ (x + d) = true
    · have hx := hasS_x hW h9
      have ih' := ih (x + d) (c + 1) (by omega) hx (by omega) (by omega)
      simp (disch := first | assumption | exact c2_int _ | exact c2_ref _ | exact c2_jk | exact c2_null | omega | exact bI_r _ | exact bI_01 _) only [↓fX10_stepsFrom_0, ↓fX10_stepsFrom_1, ↓fX10_stepsFrom_3, ↓fX10_stepsFrom_4, ↓fX10_stepsFrom_7, ↓fX10_stepsFrom_8, ↓fX10_stepsFrom_10, ↓fX10_stepsFrom_11, ↓fX10_stepsFrom_14, ↓fX10_stepsFrom_17, ↓fX10_stepsFrom_19, ↓fX10_stepsFrom_20, ↓fX10_stepsFrom_21, ↓fX10_stepsFrom_23, ↓fX10_stepsFrom_26, ↓fX10_stepsFrom_29, ↓fX10_stepsFrom_31, ↓m_isBeyond, bI_0, h9, swZ, and_self, true_and, and_true, false_and, and_false, not_true_eq_false, not_false_eq_true, or_self, true_or, or_true, false_or, or_false, ite_not, Decidable.not_not, decide_eq_true_eq, Bool.not_true, Bool.not_false, Bool.false_eq_true, Bool.not_eq_true, n10, n20, n21, n30, n31, n32, n40, n41, n42, n43, ↓reduceIte]
      rw [show c + (swZ σ d k (x + d) + 1) = c + 1 + swZ σ d k (x + d) by omega]
      exact ih'
    · simp (disch := first | assumption | exact c2_int _ | exact c2_ref _ | exact c2_jk | exact c2_null | omega | exact bI_r _ | exact bI_01 _) only [↓fX10_stepsFrom_0, ↓fX10_stepsFrom_1, ↓fX10_stepsFrom_3, ↓fX10_stepsFrom_4, ↓fX10_stepsFrom_7, ↓fX10_stepsFrom_8, ↓fX10_stepsFrom_10, ↓fX10_stepsFrom_11, ↓fX10_stepsFrom_14, ↓fX10_stepsFrom_17, ↓fX10_stepsFrom_19, ↓fX10_stepsFrom_20, ↓fX10_stepsFrom_21, ↓fX10_stepsFrom_23, ↓fX10_stepsFrom_26, ↓fX10_stepsFrom_29, ↓fX10_stepsFrom_31, ↓m_isBeyond, bI_0, h9, swZ, and_self, true_and, and_true, false_and, and_false, not_true_eq_false, not_false_eq_true, or_self, true_or, or_true, false_or, or_false, ite_not, Decidable.not_not, decide_eq_true_eq, Bool.not_true, Bool.not_false, Bool.false_eq_true, Bool.not_eq_true, n10, n20, n21, n30, n31, n32, n40, n41, n42, n43, ↓reduceIte]
theorem m_stepsFrom (hm : shM E r m) (hs : 0 ≤ s ∧ s ≤ 4) (hl : SL G m s σ) (hW : WF σ) (hd : 1 ≤ d ∧ d < 2147483648) (hx : 0 ≤ x ∧ x ≤ 100000) : RK MX10_stepsFrom 0 [.ref m, .int (zi s), .int (zi x), .int (zi d), jk, jk] [] (0, 0) (E, zg G, zk L, r) Q = Q (E, zg G, zk L, r) (.int (zi (swZ σ d 100002 x))) := by
  have e := m_stepsFrom_loop (L := L) (Q := Q) hm hs hl hW hd (l2 := .int (zi x)) 100002 x 0 (by omega) hx (by omega) (by omega)
  rw [Int.zero_add, Int.zero_add] at e
  simp (disch := first | assumption | exact c2_int _ | exact c2_ref _ | exact c2_jk | exact c2_null | omega | exact bI_r _ | exact bI_01 _) only [↓fX10_stepsFrom_0, ↓fX10_stepsFrom_1, ↓fX10_stepsFrom_3, ↓fX10_stepsFrom_4, ↓fX10_stepsFrom_7, ↓fX10_stepsFrom_8, ↓fX10_stepsFrom_10, ↓fX10_stepsFrom_11, ↓fX10_stepsFrom_14, ↓fX10_stepsFrom_17, ↓fX10_stepsFrom_19, ↓fX10_stepsFrom_20, ↓fX10_stepsFrom_21, ↓fX10_stepsFrom_23, ↓fX10_stepsFrom_26, ↓fX10_stepsFrom_29, ↓fX10_stepsFrom_31]
  exact e
theorem m_waysTo_loop (hm : shM E r m) (hs : 0 ≤ s ∧ s ≤ 4) (hl : SL G m s σ) (hW : WF σ) (ha : LAS G m σ) (hd : I32 d) : ∀ (k : Nat) (c i : Int), szS σ + 1 - i ≤ k → 1 ≤ i → i + k ≤ 10000 → 0 ≤ c → c + k ≤ 10000 →
    RK MX10_waysTo 5 [.ref m, .int (zi s), .int (zi d), .int (zi c), .int (zi i)] [] (0, 0) (E, zg G, zk L, r) Q = Q (E, zg G, zk L, r) (.int (zi (wtL (nAS σ) (hasS σ) (szS σ) d k i c))) := by
  have m0 := hm.1
  have hz := szS_b hW
  have h12 : G m 12 = szS σ := ha.1
  intro k
  induction k with
  | zero =>
    intro c i h1 h2 h3 h4 h5
    have h6 : ¬ i ≤ szS σ := by omega
    simp (disch := first | assumption | exact c2_int _ | exact c2_ref _ | exact c2_jk | exact c2_null | omega | exact bI_r _ | exact bI_01 _) only [↓fX10_waysTo_0, ↓fX10_waysTo_1, ↓fX10_waysTo_2, ↓fX10_waysTo_3, ↓fX10_waysTo_5, ↓fX10_waysTo_7, ↓fX10_waysTo_8, ↓fX10_waysTo_11, ↓fX10_waysTo_14, ↓fX10_waysTo_17, ↓fX10_waysTo_18, ↓fX10_waysTo_19, ↓fX10_waysTo_21, ↓fX10_waysTo_24, ↓fX10_waysTo_25, ↓fX10_waysTo_26, ↓fX10_waysTo_27, ↓fX10_waysTo_28, ↓fX10_waysTo_32, ↓fX10_waysTo_33, ↓fX10_waysTo_34, ↓fX10_waysTo_35, ↓fX10_waysTo_36, ↓fX10_waysTo_37, ↓fX10_waysTo_38, ↓fX10_waysTo_40, ↓fX10_waysTo_43, ↓fX10_waysTo_44, ↓fX10_waysTo_47, ↓fX10_waysTo_50, ↓fX10_waysTo_51, ↓fX10_waysTo_54, ↓fX10_waysTo_55, ↓fX10_waysTo_56, ↓fX10_waysTo_57, ↓fX10_waysTo_60, ↓fX10_waysTo_63, ↓fX10_waysTo_64, h12, h6, wtL, and_self, true_and, and_true, false_and, and_false, not_true_eq_false, not_false_eq_true, or_self, true_or, or_true, false_or, or_false, ite_not, Decidable.not_not, decide_eq_true_eq, Bool.not_true, Bool.not_false, Bool.false_eq_true, Bool.not_eq_true, n10, n20, n21, n30, n31, n32, n40, n41, n42, n43, ↓reduceIte]
  | succ k ih =>
    intro c i h1 h2 h3 h4 h5
    by_cases h6 : i ≤ szS σ
    · obtain ⟨-, -, -, -, -, hb1, hb2⟩ := nAS_ix hW (p := i) ⟨h2, h6⟩
      rw [fX10_waysTo_5]
      by_cases h7 : 2 * nAS σ i ≤ d
      · by_cases h9 : hasS σ (d - nAS σ i) = true
        · simp (disch := first | assumption | exact c2_int _ | exact c2_ref _ | exact c2_jk | exact c2_null | omega | exact bI_r _ | exact bI_01 _) only [↓fX10_waysTo_0, ↓fX10_waysTo_1, ↓fX10_waysTo_2, ↓fX10_waysTo_3, ↓fX10_waysTo_7, ↓fX10_waysTo_8, ↓fX10_waysTo_11, ↓fX10_waysTo_14, ↓fX10_waysTo_17, ↓fX10_waysTo_18, ↓fX10_waysTo_19, ↓fX10_waysTo_21, ↓fX10_waysTo_24, ↓fX10_waysTo_25, ↓fX10_waysTo_26, ↓fX10_waysTo_27, ↓fX10_waysTo_28, ↓fX10_waysTo_32, ↓fX10_waysTo_33, ↓fX10_waysTo_34, ↓fX10_waysTo_35, ↓fX10_waysTo_36, ↓fX10_waysTo_37, ↓fX10_waysTo_38, ↓fX10_waysTo_40, ↓fX10_waysTo_43, ↓fX10_waysTo_44, ↓fX10_waysTo_47, ↓fX10_waysTo_50, ↓fX10_waysTo_51, ↓fX10_waysTo_54, ↓fX10_waysTo_55, ↓fX10_waysTo_56, ↓fX10_waysTo_57, ↓fX10_waysTo_60, ↓fX10_waysTo_63, ↓fX10_waysTo_64, ↓m_at, ↓m_isThere, ↓ih, bI_0, h12, h6, h7, h9, wtL, and_self, true_and, and_true, false_and, and_false, not_true_eq_false, not_false_eq_true, or_self, true_or, or_true, false_or, or_false, ite_not, Decidable.not_not, decide_eq_true_eq, Bool.not_true, Bool.not_false, Bool.false_eq_true, Bool.not_eq_true, n10, n20, n21, n30, n31, n32, n40, n41, n42, n43, ↓reduceIte]
        · simp (disch := first | assumption | exact c2_int _ | exact c2_ref _ | exact c2_jk | exact c2_null | omega | exact bI_r _ | exact bI_01 _) only [↓fX10_waysTo_0, ↓fX10_waysTo_1, ↓fX10_waysTo_2, ↓fX10_waysTo_3, ↓fX10_waysTo_7, ↓fX10_waysTo_8, ↓fX10_waysTo_11, ↓fX10_waysTo_14, ↓fX10_waysTo_17, ↓fX10_waysTo_18, ↓fX10_waysTo_19, ↓fX10_waysTo_21, ↓fX10_waysTo_24, ↓fX10_waysTo_25, ↓fX10_waysTo_26, ↓fX10_waysTo_27, ↓fX10_waysTo_28, ↓fX10_waysTo_32, ↓fX10_waysTo_33, ↓fX10_waysTo_34, ↓fX10_waysTo_35, ↓fX10_waysTo_36, ↓fX10_waysTo_37, ↓fX10_waysTo_38, ↓fX10_waysTo_40, ↓fX10_waysTo_43, ↓fX10_waysTo_44, ↓fX10_waysTo_47, ↓fX10_waysTo_50, ↓fX10_waysTo_51, ↓fX10_waysTo_54, ↓fX10_waysTo_55, ↓fX10_waysTo_56, ↓fX10_waysTo_57, ↓fX10_waysTo_60, ↓fX10_waysTo_63, ↓fX10_waysTo_64, ↓m_at, ↓m_isThere, ↓ih, bI_0, h12, h6, h7, h9, wtL, Int.add_zero, and_self, true_and, and_true, false_and, and_false, not_true_eq_false, not_false_eq_true, or_self, true_or, or_true, false_or, or_false, ite_not, Decidable.not_not, decide_eq_true_eq, Bool.not_true, Bool.not_false, Bool.false_eq_true, Bool.not_eq_true, n10, n20, n21, n30, n31, n32, n40, n41, n42, n43, ↓reduceIte]
      · simp (disch := first | assumption | exact c2_int _ | exact c2_ref _ | exact c2_jk | exact c2_null | omega | exact bI_r _ | exact bI_01 _) only [↓fX10_waysTo_0, ↓fX10_waysTo_1, ↓fX10_waysTo_2, ↓fX10_waysTo_3, ↓fX10_waysTo_7, ↓fX10_waysTo_8, ↓fX10_waysTo_11, ↓fX10_waysTo_14, ↓fX10_waysTo_17, ↓fX10_waysTo_18, ↓fX10_waysTo_19, ↓fX10_waysTo_21, ↓fX10_waysTo_24, ↓fX10_waysTo_25, ↓fX10_waysTo_26, ↓fX10_waysTo_27, ↓fX10_waysTo_28, ↓fX10_waysTo_32, ↓fX10_waysTo_33, ↓fX10_waysTo_34, ↓fX10_waysTo_35, ↓fX10_waysTo_36, ↓fX10_waysTo_37, ↓fX10_waysTo_38, ↓fX10_waysTo_40, ↓fX10_waysTo_43, ↓fX10_waysTo_44, ↓fX10_waysTo_47, ↓fX10_waysTo_50, ↓fX10_waysTo_51, ↓fX10_waysTo_54, ↓fX10_waysTo_55, ↓fX10_waysTo_56, ↓fX10_waysTo_57, ↓fX10_waysTo_60, ↓fX10_waysTo_63, ↓fX10_waysTo_64, ↓m_at, h12, h6, h7, wtL, and_self, true_and, and_true, false_and, and_false, not_true_eq_false, not_false_eq_true, or_self, true_or, or_true, false_or, or_false, ite_not, Decidable.not_not, decide_eq_true_eq, Bool.not_true, Bool.not_false, Bool.false_eq_true, Bool.not_eq_true, n10, n20, n21, n30, n31, n32, n40, n41, n42, n43, ↓reduceIte]
    · simp (disch := first | assumption | exact c2_int _ | exact c2_ref _ | exact c2_jk | exact c2_null | omega | exact bI_r _ | exact bI_01 _) only [↓fX10_waysTo_0, ↓fX10_waysTo_1, ↓fX10_waysTo_2, ↓fX10_waysTo_3, ↓fX10_waysTo_5, ↓fX10_waysTo_7, ↓fX10_waysTo_8, ↓fX10_waysTo_11, ↓fX10_waysTo_14, ↓fX10_waysTo_17, ↓fX10_waysTo_18, ↓fX10_waysTo_19, ↓fX10_waysTo_21, ↓fX10_waysTo_24, ↓fX10_waysTo_25, ↓fX10_waysTo_26, ↓fX10_waysTo_27, ↓fX10_waysTo_28, ↓fX10_waysTo_32, ↓fX10_waysTo_33, ↓fX10_waysTo_34, ↓fX10_waysTo_35, ↓fX10_waysTo_36, ↓fX10_waysTo_37, ↓fX10_waysTo_38, ↓fX10_waysTo_40, ↓fX10_waysTo_43, ↓fX10_waysTo_44, ↓fX10_waysTo_47, ↓fX10_waysTo_50, ↓fX10_waysTo_51, ↓fX10_waysTo_54, ↓fX10_waysTo_55, ↓fX10_waysTo_56, ↓fX10_waysTo_57, ↓fX10_waysTo_60, ↓fX10_waysTo_63, ↓fX10_waysTo_64, h12, h6, wtL, and_self, true_and, and_true, false_and, and_false, not_true_eq_false, not_false_eq_true, or_self, true_or, or_true, false_or, or_false, ite_not, Decidable.not_not, decide_eq_true_eq, Bool.not_true, Bool.not_false, Bool.false_eq_true, Bool.not_eq_true, n10, n20, n21, n30, n31, n32, n40, n41, n42, n43, ↓reduceIte]
theorem m_waysTo (hm : shM E r m) (hs : 0 ≤ s ∧ s ≤ 4) (hl : SL G m s σ) (hW : WF σ) (ha : LAS G m σ) (hd : I32 d) : RK MX10_waysTo 0 [.ref m, .int (zi s), .int (zi d), jk, jk] [] (0, 0) (E, zg G, zk L, r) Q = Q (E, zg G, zk L, r) (.int (zi (wtZ σ d))) := by
  have hz := szS_b hW
  rw [fX10_waysTo_0, fX10_waysTo_1 (c2_int _), fX10_waysTo_2, fX10_waysTo_3 (c2_int _)]
  exact m_waysTo_loop hm hs hl hW ha hd 601 0 1 (by omega) (by omega) (by omega) (by omega) (by omega)
end BM
