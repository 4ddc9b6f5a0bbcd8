/-! Calls of the reference that only look. -/
/-- a list at its place -/
def LA (G : Nat → Nat → Int) (m : Nat) (o : Int) (ln : Nat) (lv : Nat → Int) : Prop := (0 ≤ o ∧ o ≤ 2) ∧ (1 ≤ ln ∧ ln ≤ 10) ∧ G (m + 5) (11 * o.toNat) = ln ∧ ∀ j, j < ln → G (m + 5) (11 * o.toNat + 1 + j) = lv j ∧ 0 ≤ lv j ∧ lv j ≤ 9999
section BM
variable {E : AE} {G G1 G2 G' L : Nat → Nat → Int} {r : Nat → Nat → Option Nat} {h : AH} {Q : AH → Value → Prop} {m M n cl ln1 : Nat} {σ τ : Nat → Int} {P : Int → Bool} {s o y x w i p v lo hi t b d e c f g k : Int} {lv1 : Nat → Int} {ln : Nat → Nat} {lv : Nat → Nat → Int}
theorem LA_of (hl : LM G m cl ln lv) (c : 0 ≤ o ∧ o < cl) : LA G m o (ln o.toNat) (lv o.toNat) := by
  obtain ⟨a1, a2, a3⟩ := hl.2 o.toNat (by omega)
  exact ⟨by have := hl.1; omega, a1, a2, a3⟩
theorem LA_c (h : LA G m o ln1 lv1) (e : G' (m + 5) = G (m + 5)) : LA G' m o ln1 lv1 := by
  obtain ⟨h1, h2, h3, h4⟩ := h
  exact ⟨h1, h2, by rw [e]; exact h3, by rw [e]; exact h4⟩
theorem LM_c (h : LM G m cl ln lv) (e : G' (m + 5) = G (m + 5)) (e8 : G' m 8 = G m 8) : LM G' m cl ln lv := ⟨⟨e8.trans h.1.1, h.1.2⟩, fun t ht => by rw [e]; exact h.2 t ht⟩
theorem m_listMany (hm : shM E r m) (hA : LA G m o ln1 lv1) : RK MX10_listMany 0 [.ref m, .int (zi o)] [] (0, 0) (E, zg G, zk L, r) Q = Q (E, zg G, zk L, r) (.int (zi (ln1 : Int))) := by
  have m0 := hm.1
  obtain ⟨h1, h2, h3, h4⟩ := hA
  obtain ⟨ka5, la5, ra5⟩ := hm.2.2.2.2.2.1
  have et : (11 * o).toNat = 11 * o.toNat := by omega
  simp (disch := first | assumption | exact c2_int _ | exact c2_ref _ | exact c2_jk | exact c2_null | omega | exact bI_r _ | exact bI_01 _) only [↓fX10_listMany_0, ↓fX10_listMany_1, ↓fX10_listMany_4, ↓fX10_listMany_6, ↓fX10_listMany_7, ↓fX10_listMany_8, ↓fX10_listMany_9, et, h3]
theorem m_listAt (hm : shM E r m) (hA : LA G m o ln1 lv1) (hi : 0 ≤ i ∧ i < ln1) : RK MX10_listAt 0 [.ref m, .int (zi o), .int (zi i)] [] (0, 0) (E, zg G, zk L, r) Q = Q (E, zg G, zk L, r) (.int (zi (liZ ln1 lv1 i))) := by
  have m0 := hm.1
  obtain ⟨h1, h2, h3, h4⟩ := hA
  obtain ⟨ka5, la5, ra5⟩ := hm.2.2.2.2.2.1
  have et : (11 * o + 1 + i).toNat = 11 * o.toNat + 1 + i.toNat := by omega
  have e := (h4 i.toNat (by omega)).1
  have el : liZ ln1 lv1 i = lv1 i.toNat := if_pos (by omega)
  rw [el]
  simp (disch := first | assumption | exact c2_int _ | exact c2_ref _ | exact c2_jk | exact c2_null | omega | exact bI_r _ | exact bI_01 _) only [↓fX10_listAt_0, ↓fX10_listAt_1, ↓fX10_listAt_4, ↓fX10_listAt_6, ↓fX10_listAt_7, ↓fX10_listAt_8, ↓fX10_listAt_9, ↓fX10_listAt_10, ↓fX10_listAt_11, ↓fX10_listAt_12, ↓fX10_listAt_13, et, e]
theorem liZ_0 (hA : LA G m o ln1 lv1) (hi : 0 ≤ i ∧ i < ln1) : 0 ≤ liZ ln1 lv1 i ∧ liZ ln1 lv1 i ≤ 9999 := by
  obtain ⟨h1, h2, h3, h4⟩ := hA
  unfold liZ
  rw [if_pos (by omega)]
  exact (h4 i.toNat (by omega)).2
theorem m_beside_loop (hm : shM E r m) (hs : 0 ≤ s ∧ s ≤ 4) (hl : SL G m s σ) (hW : WF σ) (ha : LAS G m σ) (hA : LA G m o ln1 lv1) (hp : 1 ≤ p ∧ p + ln1 - 1 ≤ szS σ) {l3 : Value} : ∀ (k : Nat) (i : Int), ln1 - i ≤ k → 0 ≤ i → i + k ≤ 10000 → RK MX10_isBeside 55 [.ref m, .int (zi s), .int (zi o), l3, .int (zi p), .int (zi i)] [] (0, 0) (E, zg G, zk L, r) Q = Q (E, zg G, zk L, r) (.int (zi (bI (tgB (fun i => decide (nAS σ (p + i) = liZ ln1 lv1 i)) ln1 k i = true)))) := by
  have m0 := hm.1
  have hz := szS_b hW
  have hl10 := hA.2.1
  have ho := hA.1
  intro k
  induction k with
  | zero =>
    intro i h1 h2 h3
    have h6 : ¬ i < ln1 := by omega
    unfold tgB
    rw [bI_p rfl]
    simp (disch := first | assumption | exact c2_int _ | exact c2_ref _ | exact c2_jk | exact c2_null | omega | exact bI_r _ | exact bI_01 _) only [↓fX10_isBeside_0, ↓fX10_isBeside_1, ↓fX10_isBeside_2, ↓fX10_isBeside_3, ↓fX10_isBeside_4, ↓fX10_isBeside_5, ↓fX10_isBeside_8, ↓fX10_isBeside_11, ↓fX10_isBeside_12, ↓fX10_isBeside_13, ↓fX10_isBeside_16, ↓fX10_isBeside_17, ↓fX10_isBeside_20, ↓fX10_isBeside_21, ↓fX10_isBeside_22, ↓fX10_isBeside_23, ↓fX10_isBeside_26, ↓fX10_isBeside_28, ↓fX10_isBeside_30, ↓fX10_isBeside_33, ↓fX10_isBeside_35, ↓fX10_isBeside_36, ↓fX10_isBeside_37, ↓fX10_isBeside_40, ↓fX10_isBeside_41, ↓fX10_isBeside_42, ↓fX10_isBeside_43, ↓fX10_isBeside_44, ↓fX10_isBeside_47, ↓fX10_isBeside_50, ↓fX10_isBeside_51, ↓fX10_isBeside_52, ↓fX10_isBeside_53, ↓fX10_isBeside_55, ↓fX10_isBeside_57, ↓fX10_isBeside_58, ↓fX10_isBeside_59, ↓fX10_isBeside_62, ↓fX10_isBeside_65, ↓fX10_isBeside_66, ↓fX10_isBeside_67, ↓fX10_isBeside_69, ↓fX10_isBeside_71, ↓fX10_isBeside_72, ↓fX10_isBeside_75, ↓fX10_isBeside_76, ↓fX10_isBeside_77, ↓fX10_isBeside_79, ↓fX10_isBeside_82, ↓fX10_isBeside_85, ↓fX10_isBeside_86, ↓fX10_isBeside_87, ↓fX10_isBeside_90, ↓fX10_isBeside_93, ↓fX10_isBeside_94, ↓m_listMany, h6, and_self, true_and, and_true, false_and, and_false, not_true_eq_false, not_false_eq_true, or_self, true_or, or_true, false_or, or_false, ite_not, Decidable.not_not, decide_eq_true_eq, Bool.not_true, Bool.not_false, Bool.false_eq_true, Bool.not_eq_true, n10, n20, n21, n30, n31, n32, n40, n41, n42, n43, ↓reduceIte]
  | succ k ih =>
    intro i h1 h2 h3
    by_cases h6 : i < ln1
    · have hb := nAS_b hW (p + i)
      have hb2 := liZ_0 hA ⟨h2, h6⟩
      rw [fX10_isBeside_55]
      by_cases h9 : nAS σ (p + i) = liZ ln1 lv1 i
      · simp (disch := first | assumption | exact c2_int _ | exact c2_ref _ | exact c2_jk | exact c2_null | omega | exact bI_r _ | exact bI_01 _) only [↓fX10_isBeside_0, ↓fX10_isBeside_1, ↓fX10_isBeside_2, ↓fX10_isBeside_3, ↓fX10_isBeside_4, ↓fX10_isBeside_5, ↓fX10_isBeside_8, ↓fX10_isBeside_11, ↓fX10_isBeside_12, ↓fX10_isBeside_13, ↓fX10_isBeside_16, ↓fX10_isBeside_17, ↓fX10_isBeside_20, ↓fX10_isBeside_21, ↓fX10_isBeside_22, ↓fX10_isBeside_23, ↓fX10_isBeside_26, ↓fX10_isBeside_28, ↓fX10_isBeside_30, ↓fX10_isBeside_33, ↓fX10_isBeside_35, ↓fX10_isBeside_36, ↓fX10_isBeside_37, ↓fX10_isBeside_40, ↓fX10_isBeside_41, ↓fX10_isBeside_42, ↓fX10_isBeside_43, ↓fX10_isBeside_44, ↓fX10_isBeside_47, ↓fX10_isBeside_50, ↓fX10_isBeside_51, ↓fX10_isBeside_52, ↓fX10_isBeside_53, ↓fX10_isBeside_57, ↓fX10_isBeside_58, ↓fX10_isBeside_59, ↓fX10_isBeside_62, ↓fX10_isBeside_65, ↓fX10_isBeside_66, ↓fX10_isBeside_67, ↓fX10_isBeside_69, ↓fX10_isBeside_71, ↓fX10_isBeside_72, ↓fX10_isBeside_75, ↓fX10_isBeside_76, ↓fX10_isBeside_77, ↓fX10_isBeside_79, ↓fX10_isBeside_82, ↓fX10_isBeside_85, ↓fX10_isBeside_86, ↓fX10_isBeside_87, ↓fX10_isBeside_90, ↓fX10_isBeside_93, ↓fX10_isBeside_94, ↓m_listMany, ↓m_listAt, ↓m_at, ↓ih, h6, h9, decide_true, tgB, and_self, true_and, and_true, false_and, and_false, not_true_eq_false, not_false_eq_true, or_self, true_or, or_true, false_or, or_false, ite_not, Decidable.not_not, decide_eq_true_eq, Bool.not_true, Bool.not_false, Bool.false_eq_true, Bool.not_eq_true, n10, n20, n21, n30, n31, n32, n40, n41, n42, n43, ↓reduceIte]
      · have e : tgB (fun i => decide (nAS σ (p + i) = liZ ln1 lv1 i)) ln1 (k + 1) i = false := by
          unfold tgB
          rw [if_pos h6, if_neg (by rw [decide_eq_true_eq]; exact h9)]
        rw [e, bI_n (by decide)]
        simp (disch := first | assumption | exact c2_int _ | exact c2_ref _ | exact c2_jk | exact c2_null | omega | exact bI_r _ | exact bI_01 _) only [↓fX10_isBeside_0, ↓fX10_isBeside_1, ↓fX10_isBeside_2, ↓fX10_isBeside_3, ↓fX10_isBeside_4, ↓fX10_isBeside_5, ↓fX10_isBeside_8, ↓fX10_isBeside_11, ↓fX10_isBeside_12, ↓fX10_isBeside_13, ↓fX10_isBeside_16, ↓fX10_isBeside_17, ↓fX10_isBeside_20, ↓fX10_isBeside_21, ↓fX10_isBeside_22, ↓fX10_isBeside_23, ↓fX10_isBeside_26, ↓fX10_isBeside_28, ↓fX10_isBeside_30, ↓fX10_isBeside_33, ↓fX10_isBeside_35, ↓fX10_isBeside_36, ↓fX10_isBeside_37, ↓fX10_isBeside_40, ↓fX10_isBeside_41, ↓fX10_isBeside_42, ↓fX10_isBeside_43, ↓fX10_isBeside_44, ↓fX10_isBeside_47, ↓fX10_isBeside_50, ↓fX10_isBeside_51, ↓fX10_isBeside_52, ↓fX10_isBeside_53, ↓fX10_isBeside_57, ↓fX10_isBeside_58, ↓fX10_isBeside_59, ↓fX10_isBeside_62, ↓fX10_isBeside_65, ↓fX10_isBeside_66, ↓fX10_isBeside_67, ↓fX10_isBeside_69, ↓fX10_isBeside_71, ↓fX10_isBeside_72, ↓fX10_isBeside_75, ↓fX10_isBeside_76, ↓fX10_isBeside_77, ↓fX10_isBeside_79, ↓fX10_isBeside_82, ↓fX10_isBeside_85, ↓fX10_isBeside_86, ↓fX10_isBeside_87, ↓fX10_isBeside_90, ↓fX10_isBeside_93, ↓fX10_isBeside_94, ↓m_listMany, ↓m_listAt, ↓m_at, h6, h9, and_self, true_and, and_true, false_and, and_false, not_true_eq_false, not_false_eq_true, or_self, true_or, or_true, false_or, or_false, ite_not, Decidable.not_not, decide_eq_true_eq, Bool.not_true, Bool.not_false, Bool.false_eq_true, Bool.not_eq_true, n10, n20, n21, n30, n31, n32, n40, n41, n42, n43, ↓reduceIte]
    · have e : tgB (fun i => decide (nAS σ (p + i) = liZ ln1 lv1 i)) ln1 (k + 1) i = true := by
        unfold tgB
        rw [if_neg h6]
      rw [e, bI_p rfl]
      simp (disch := first | assumption | exact c2_int _ | exact c2_ref _ | exact c2_jk | exact c2_null | omega | exact bI_r _ | exact bI_01 _) only [↓fX10_isBeside_0, ↓fX10_isBeside_1, ↓fX10_isBeside_2, ↓fX10_isBeside_3, ↓fX10_isBeside_4, ↓fX10_isBeside_5, ↓fX10_isBeside_8, ↓fX10_isBeside_11, ↓fX10_isBeside_12, ↓fX10_isBeside_13, ↓fX10_isBeside_16, ↓fX10_isBeside_17, ↓fX10_isBeside_20, ↓fX10_isBeside_21, ↓fX10_isBeside_22, ↓fX10_isBeside_23, ↓fX10_isBeside_26, ↓fX10_isBeside_28, ↓fX10_isBeside_30, ↓fX10_isBeside_33, ↓fX10_isBeside_35, ↓fX10_isBeside_36, ↓fX10_isBeside_37, ↓fX10_isBeside_40, ↓fX10_isBeside_41, ↓fX10_isBeside_42, ↓fX10_isBeside_43, ↓fX10_isBeside_44, ↓fX10_isBeside_47, ↓fX10_isBeside_50, ↓fX10_isBeside_51, ↓fX10_isBeside_52, ↓fX10_isBeside_53, ↓fX10_isBeside_55, ↓fX10_isBeside_57, ↓fX10_isBeside_58, ↓fX10_isBeside_59, ↓fX10_isBeside_62, ↓fX10_isBeside_65, ↓fX10_isBeside_66, ↓fX10_isBeside_67, ↓fX10_isBeside_69, ↓fX10_isBeside_71, ↓fX10_isBeside_72, ↓fX10_isBeside_75, ↓fX10_isBeside_76, ↓fX10_isBeside_77, ↓fX10_isBeside_79, ↓fX10_isBeside_82, ↓fX10_isBeside_85, ↓fX10_isBeside_86, ↓fX10_isBeside_87, ↓fX10_isBeside_90, ↓fX10_isBeside_93, ↓fX10_isBeside_94, ↓m_listMany, h6, and_self, true_and, and_true, false_and, and_false, not_true_eq_false, not_false_eq_true, or_self, true_or, or_true, false_or, or_false, ite_not, Decidable.not_not, decide_eq_true_eq, Bool.not_true, Bool.not_false, Bool.false_eq_true, Bool.not_eq_true, n10, n20, n21, n30, n31, n32, n40, n41, n42, n43, ↓reduceIte]
theorem tgB_no (f : Int → Bool) (e q : Int) (hq : f q = false) (hqe : q < e) : ∀ (k : Nat) (i : Int), e ≤ i + k → i ≤ q → tgB f e k i = false := by
  intro k
  induction k with
  | zero => intro i h1 h2; omega
  | succ k ih =>
    intro i h1 h2
    unfold tgB
    rw [if_pos (by omega)]
    by_cases z : f i = true
    · rw [if_pos z]
      have : i ≠ q := fun y => by rw [y, hq] at z; exact absurd z (by decide)
      exact ih (i + 1) (by omega) (by omega)
    · rw [if_neg z]
theorem m_isBeside (hm : shM E r m) (hs : 0 ≤ s ∧ s ≤ 4) (hl : SL G m s σ) (hW : WF σ) (ha : LAS G m σ) (hA : LA G m o ln1 lv1) : RK MX10_isBeside 0 [.ref m, .int (zi s), .int (zi o), jk, jk, jk] [] (0, 0) (E, zg G, zk L, r) Q = Q (E, zg G, zk L, r) (.int (zi (bI (tgtZ ln1 lv1 σ = true)))) := by
  have m0 := hm.1
  have hz := szS_b hW
  have w3 := hW.2.2.2.1
  have hl10 := hA.2.1
  have ho := hA.1
  have h12 : G m 12 = szS σ := ha.1
  have hb0 := liZ_0 hA (i := 0) ⟨by omega, by omega⟩
  have ib := iXS_b hW (liZ ln1 lv1 0)
  have po := poZ_pl (x := liZ ln1 lv1 0) hW
  have pb := poZ_b (x := liZ ln1 lv1 0) hW
  -- the place found
  have hpl : 0 ≤ iXS σ (liZ ln1 lv1 0) → plN (hbS σ) (σ 3).toNat (iXS σ (liZ ln1 lv1 0)) = poZ σ (liZ ln1 lv1 0) := fun hi => by
    rw [po]
    by_cases c : hasS σ (liZ ln1 lv1 0) = true
    · rw [if_pos c]
    · rw [if_neg c]
      rw [hasS_hb hi] at c
      unfold plN
      rw [if_neg (fun z => c z.2.2)]
  by_cases c0 : poZ σ (liZ ln1 lv1 0) = -1
  · have et : tgtZ ln1 lv1 σ = false := by
      unfold tgtZ
      rw [if_pos c0]
    rw [et, bI_n (by decide)]
    by_cases c1 : iXS σ (liZ ln1 lv1 0) < 0
    · have m1 : (-1 : Int) < 0 := by decide
      simp (disch := first | assumption | exact c2_int _ | exact c2_ref _ | exact c2_jk | exact c2_null | omega | exact bI_r _ | exact bI_01 _) only [↓fX10_isBeside_0, ↓fX10_isBeside_1, ↓fX10_isBeside_2, ↓fX10_isBeside_3, ↓fX10_isBeside_4, ↓fX10_isBeside_5, ↓fX10_isBeside_8, ↓fX10_isBeside_11, ↓fX10_isBeside_12, ↓fX10_isBeside_13, ↓fX10_isBeside_16, ↓fX10_isBeside_17, ↓fX10_isBeside_20, ↓fX10_isBeside_21, ↓fX10_isBeside_22, ↓fX10_isBeside_23, ↓fX10_isBeside_26, ↓fX10_isBeside_28, ↓fX10_isBeside_30, ↓fX10_isBeside_33, ↓fX10_isBeside_35, ↓fX10_isBeside_36, ↓fX10_isBeside_37, ↓fX10_isBeside_40, ↓fX10_isBeside_41, ↓fX10_isBeside_42, ↓fX10_isBeside_43, ↓fX10_isBeside_44, ↓fX10_isBeside_47, ↓fX10_isBeside_50, ↓fX10_isBeside_51, ↓fX10_isBeside_52, ↓fX10_isBeside_53, ↓fX10_isBeside_55, ↓fX10_isBeside_57, ↓fX10_isBeside_58, ↓fX10_isBeside_59, ↓fX10_isBeside_62, ↓fX10_isBeside_65, ↓fX10_isBeside_66, ↓fX10_isBeside_67, ↓fX10_isBeside_69, ↓fX10_isBeside_71, ↓fX10_isBeside_72, ↓fX10_isBeside_75, ↓fX10_isBeside_76, ↓fX10_isBeside_77, ↓fX10_isBeside_79, ↓fX10_isBeside_82, ↓fX10_isBeside_85, ↓fX10_isBeside_86, ↓fX10_isBeside_87, ↓fX10_isBeside_90, ↓fX10_isBeside_93, ↓fX10_isBeside_94, ↓m_listAt, ↓m_indexOf, c1, m1, and_self, true_and, and_true, false_and, and_false, not_true_eq_false, not_false_eq_true, or_self, true_or, or_true, false_or, or_false, ite_not, Decidable.not_not, decide_eq_true_eq, Bool.not_true, Bool.not_false, Bool.false_eq_true, Bool.not_eq_true, n10, n20, n21, n30, n31, n32, n40, n41, n42, n43, ↓reduceIte]
    · have pl := fun Q => m_placeOf (L := L) (Q := Q) (s := s) (i := iXS σ (liZ ln1 lv1 0)) hm ha (by omega) ⟨by omega, by omega⟩ (by omega)
      rw [hpl (by omega), c0] at pl
      have m1 : (-1 : Int) < 0 := by decide
      simp (disch := first | assumption | exact c2_int _ | exact c2_ref _ | exact c2_jk | exact c2_null | omega | exact bI_r _ | exact bI_01 _) only [↓fX10_isBeside_0, ↓fX10_isBeside_1, ↓fX10_isBeside_2, ↓fX10_isBeside_3, ↓fX10_isBeside_4, ↓fX10_isBeside_5, ↓fX10_isBeside_8, ↓fX10_isBeside_11, ↓fX10_isBeside_12, ↓fX10_isBeside_13, ↓fX10_isBeside_16, ↓fX10_isBeside_17, ↓fX10_isBeside_20, ↓fX10_isBeside_21, ↓fX10_isBeside_22, ↓fX10_isBeside_23, ↓fX10_isBeside_26, ↓fX10_isBeside_28, ↓fX10_isBeside_30, ↓fX10_isBeside_33, ↓fX10_isBeside_35, ↓fX10_isBeside_36, ↓fX10_isBeside_37, ↓fX10_isBeside_40, ↓fX10_isBeside_41, ↓fX10_isBeside_42, ↓fX10_isBeside_43, ↓fX10_isBeside_44, ↓fX10_isBeside_47, ↓fX10_isBeside_50, ↓fX10_isBeside_51, ↓fX10_isBeside_52, ↓fX10_isBeside_53, ↓fX10_isBeside_55, ↓fX10_isBeside_57, ↓fX10_isBeside_58, ↓fX10_isBeside_59, ↓fX10_isBeside_62, ↓fX10_isBeside_65, ↓fX10_isBeside_66, ↓fX10_isBeside_67, ↓fX10_isBeside_69, ↓fX10_isBeside_71, ↓fX10_isBeside_72, ↓fX10_isBeside_75, ↓fX10_isBeside_76, ↓fX10_isBeside_77, ↓fX10_isBeside_79, ↓fX10_isBeside_82, ↓fX10_isBeside_85, ↓fX10_isBeside_86, ↓fX10_isBeside_87, ↓fX10_isBeside_90, ↓fX10_isBeside_93, ↓fX10_isBeside_94, ↓m_listAt, ↓m_indexOf, ↓pl, c1, m1, and_self, true_and, and_true, false_and, and_false, not_true_eq_false, not_false_eq_true, or_self, true_or, or_true, false_or, or_false, ite_not, Decidable.not_not, decide_eq_true_eq, Bool.not_true, Bool.not_false, Bool.false_eq_true, Bool.not_eq_true, n10, n20, n21, n30, n31, n32, n40, n41, n42, n43, ↓reduceIte]
  · have c1 : ¬ iXS σ (liZ ln1 lv1 0) < 0 := fun z => by
      rw [iXS_neg hW z, if_neg (by decide)] at po
      exact c0 po
    have hh : hasS σ (liZ ln1 lv1 0) = true := by
      by_cases q : hasS σ (liZ ln1 lv1 0) = true
      · exact q
      · rw [if_neg q] at po
        exact absurd po c0
    obtain ⟨q, q1, q2, q3, -⟩ := hasS_p hW hh
    have eq : poZ σ (liZ ln1 lv1 0) = q := by rw [← q3]; exact poZ_at hW ⟨q1, q2⟩
    have pl := fun Q => m_placeOf (L := L) (Q := Q) (s := s) (i := iXS σ (liZ ln1 lv1 0)) hm ha (by omega) ⟨by omega, by omega⟩ (by omega)
    rw [hpl (by omega), eq] at pl
    have et : tgtZ ln1 lv1 σ = tgB (fun i => decide (nAS σ (q + i) = liZ ln1 lv1 i)) ln1 10 1 := by
      unfold tgtZ
      rw [if_neg c0, eq]
    have q0 : ¬ q < 0 := by omega
    by_cases c2 : q + ln1 - 1 ≤ szS σ
    · have e0 : tgB (fun i => decide (nAS σ (q + i) = liZ ln1 lv1 i)) ln1 11 0 = tgB (fun i => decide (nAS σ (q + i) = liZ ln1 lv1 i)) ln1 10 1 := by
        rw [tgB, if_pos (by omega), if_pos (decide_eq_true (by rw [Int.add_zero]; exact q3))]
        rfl
      rw [et, ← e0]
      have lp := m_beside_loop (L := L) (Q := Q) (l3 := .int (zi (iXS σ (liZ ln1 lv1 0)))) hm hs hl hW ha hA (p := q) ⟨q1, c2⟩ 11 0 (by omega) (by omega) (by omega)
      simp (disch := first | assumption | exact c2_int _ | exact c2_ref _ | exact c2_jk | exact c2_null | omega | exact bI_r _ | exact bI_01 _) only [↓fX10_isBeside_0, ↓fX10_isBeside_1, ↓fX10_isBeside_2, ↓fX10_isBeside_3, ↓fX10_isBeside_4, ↓fX10_isBeside_5, ↓fX10_isBeside_8, ↓fX10_isBeside_11, ↓fX10_isBeside_12, ↓fX10_isBeside_13, ↓fX10_isBeside_16, ↓fX10_isBeside_17, ↓fX10_isBeside_20, ↓fX10_isBeside_21, ↓fX10_isBeside_22, ↓fX10_isBeside_23, ↓fX10_isBeside_26, ↓fX10_isBeside_28, ↓fX10_isBeside_30, ↓fX10_isBeside_33, ↓fX10_isBeside_35, ↓fX10_isBeside_36, ↓fX10_isBeside_37, ↓fX10_isBeside_40, ↓fX10_isBeside_41, ↓fX10_isBeside_42, ↓fX10_isBeside_43, ↓fX10_isBeside_44, ↓fX10_isBeside_47, ↓fX10_isBeside_50, ↓fX10_isBeside_51, ↓fX10_isBeside_52, ↓fX10_isBeside_53, ↓fX10_isBeside_57, ↓fX10_isBeside_58, ↓fX10_isBeside_59, ↓fX10_isBeside_62, ↓fX10_isBeside_65, ↓fX10_isBeside_66, ↓fX10_isBeside_67, ↓fX10_isBeside_69, ↓fX10_isBeside_71, ↓fX10_isBeside_72, ↓fX10_isBeside_75, ↓fX10_isBeside_76, ↓fX10_isBeside_77, ↓fX10_isBeside_79, ↓fX10_isBeside_82, ↓fX10_isBeside_85, ↓fX10_isBeside_86, ↓fX10_isBeside_87, ↓fX10_isBeside_90, ↓fX10_isBeside_93, ↓fX10_isBeside_94, ↓m_listAt, ↓m_indexOf, ↓m_listMany, ↓pl, h12, c1, c2, q0, and_self, true_and, and_true, false_and, and_false, not_true_eq_false, not_false_eq_true, or_self, true_or, or_true, false_or, or_false, ite_not, Decidable.not_not, decide_eq_true_eq, Bool.not_true, Bool.not_false, Bool.false_eq_true, Bool.not_eq_true, n10, n20, n21, n30, n31, n32, n40, n41, n42, n43, ↓reduceIte]
      exact lp
    · rw [et, tgB_no _ _ (ln1 - 1) ?_ (by omega) 10 1 (by omega) (by omega), bI_n (by decide)]
      · simp (disch := first | assumption | exact c2_int _ | exact c2_ref _ | exact c2_jk | exact c2_null | omega | exact bI_r _ | exact bI_01 _) only [↓fX10_isBeside_0, ↓fX10_isBeside_1, ↓fX10_isBeside_2, ↓fX10_isBeside_3, ↓fX10_isBeside_4, ↓fX10_isBeside_5, ↓fX10_isBeside_8, ↓fX10_isBeside_11, ↓fX10_isBeside_12, ↓fX10_isBeside_13, ↓fX10_isBeside_16, ↓fX10_isBeside_17, ↓fX10_isBeside_20, ↓fX10_isBeside_21, ↓fX10_isBeside_22, ↓fX10_isBeside_23, ↓fX10_isBeside_26, ↓fX10_isBeside_28, ↓fX10_isBeside_30, ↓fX10_isBeside_33, ↓fX10_isBeside_35, ↓fX10_isBeside_36, ↓fX10_isBeside_37, ↓fX10_isBeside_40, ↓fX10_isBeside_41, ↓fX10_isBeside_42, ↓fX10_isBeside_43, ↓fX10_isBeside_44, ↓fX10_isBeside_47, ↓fX10_isBeside_50, ↓fX10_isBeside_51, ↓fX10_isBeside_52, ↓fX10_isBeside_53, ↓fX10_isBeside_55, ↓fX10_isBeside_57, ↓fX10_isBeside_58, ↓fX10_isBeside_59, ↓fX10_isBeside_62, ↓fX10_isBeside_65, ↓fX10_isBeside_66, ↓fX10_isBeside_67, ↓fX10_isBeside_69, ↓fX10_isBeside_71, ↓fX10_isBeside_72, ↓fX10_isBeside_75, ↓fX10_isBeside_76, ↓fX10_isBeside_77, ↓fX10_isBeside_79, ↓fX10_isBeside_82, ↓fX10_isBeside_85, ↓fX10_isBeside_86, ↓fX10_isBeside_87, ↓fX10_isBeside_90, ↓fX10_isBeside_93, ↓fX10_isBeside_94, ↓m_listAt, ↓m_indexOf, ↓m_listMany, ↓pl, h12, c1, c2, q0, and_self, true_and, and_true, false_and, and_false, not_true_eq_false, not_false_eq_true, or_self, true_or, or_true, false_or, or_false, ite_not, Decidable.not_not, decide_eq_true_eq, Bool.not_true, Bool.not_false, Bool.false_eq_true, Bool.not_eq_true, n10, n20, n21, n30, n31, n32, n40, n41, n42, n43, ↓reduceIte]
      · rw [decide_eq_false_iff_not, nAS_no (by omega)]
        have := liZ_0 hA (i := ln1 - 1) ⟨by omega, by omega⟩
        omega
def ftL (A : Int → Int) (P : Int → Bool) (e : Int) : Nat → Int → Int → Int → Int × Int
  | 0, _, c, f => (c, f)
  | k + 1, i, c, f => if i < e then ftL A P e k (i + 1) (if P (A i) = true then c + 1 else c) (if f < 0 ∧ P (A i) = false then A i else f) else (c, f)
theorem m_fits_loop (hm : shM E r m) (hs : 0 ≤ s ∧ s ≤ 4) (hl : SL G m s σ) (hW : WF σ) (hA : LA G m o ln1 lv1) {w : Int} : ∀ (k : Nat) (i c f : Int) (l7 : Value), ln1 - i ≤ k → 0 ≤ i → i + k ≤ 10000 → 0 ≤ c → c + k ≤ 10000 → (-1 ≤ f ∧ f ≤ 10000) →
    ∃ l6' l7', RK MX10_fits 60 [.ref m, .int (zi s), .int (zi o), .int (zi w), .int (zi c), .int (zi f), .int (zi i), l7] [] (0, 0) (E, zg G, zk L, r) Q = RK MX10_fits 129 [.ref m, .int (zi s), .int (zi o), .int (zi w), .int (zi (ftL (liZ ln1 lv1) (hasS σ) ln1 k i c f).1), .int (zi (ftL (liZ ln1 lv1) (hasS σ) ln1 k i c f).2), l6', l7'] [] (0, 0) (E, zg G, zk L, r) Q := by
  have m0 := hm.1
  have hl10 := hA.2.1
  have ho := hA.1
  intro k
  induction k with
  | zero =>
    intro i c f l7 h1 h2 h3 h4 h5 h7
    have h6 : ¬ i < ln1 := by omega
    refine ⟨.int (zi i), l7, ?_⟩
    simp (disch := first | assumption | exact c2_int _ | exact c2_ref _ | exact c2_jk | exact c2_null | omega | exact bI_r _ | exact bI_01 _) only [↓fX10_fits_0, ↓fX10_fits_1, ↓fX10_fits_2, ↓fX10_fits_3, ↓fX10_fits_4, ↓fX10_fits_7, ↓fX10_fits_10, ↓fX10_fits_13, ↓fX10_fits_14, ↓fX10_fits_17, ↓fX10_fits_18, ↓fX10_fits_19, ↓fX10_fits_22, ↓fX10_fits_25, ↓fX10_fits_26, ↓fX10_fits_27, ↓fX10_fits_30, ↓fX10_fits_33, ↓fX10_fits_34, ↓fX10_fits_37, ↓fX10_fits_38, ↓fX10_fits_41, ↓fX10_fits_44, ↓fX10_fits_45, ↓fX10_fits_46, ↓fX10_fits_47, ↓fX10_fits_48, ↓fX10_fits_51, ↓fX10_fits_52, ↓fX10_fits_54, ↓fX10_fits_55, ↓fX10_fits_57, ↓fX10_fits_58, ↓fX10_fits_60, ↓fX10_fits_62, ↓fX10_fits_63, ↓fX10_fits_64, ↓fX10_fits_67, ↓fX10_fits_70, ↓fX10_fits_71, ↓fX10_fits_72, ↓fX10_fits_73, ↓fX10_fits_74, ↓fX10_fits_76, ↓fX10_fits_79, ↓fX10_fits_82, ↓fX10_fits_84, ↓fX10_fits_86, ↓fX10_fits_88, ↓fX10_fits_91, ↓fX10_fits_92, ↓fX10_fits_95, ↓fX10_fits_96, ↓fX10_fits_97, ↓fX10_fits_99, ↓fX10_fits_101, ↓fX10_fits_104, ↓fX10_fits_106, ↓fX10_fits_109, ↓fX10_fits_110, ↓fX10_fits_111, ↓fX10_fits_113, ↓fX10_fits_116, ↓fX10_fits_119, ↓fX10_fits_121, ↓fX10_fits_123, ↓fX10_fits_126, ↓fX10_fits_130, ↓fX10_fits_131, ↓fX10_fits_134, ↓fX10_fits_135, ↓fX10_fits_136, ↓fX10_fits_137, ↓fX10_fits_140, ↓fX10_fits_143, ↓fX10_fits_144, ↓fX10_fits_147, ↓fX10_fits_148, ↓fX10_fits_149, ↓fX10_fits_150, ↓fX10_fits_153, ↓fX10_fits_155, ↓fX10_fits_158, ↓fX10_fits_160, ↓fX10_fits_163, ↓fX10_fits_164, ↓fX10_fits_165, ↓fX10_fits_168, ↓fX10_fits_171, ↓fX10_fits_173, ↓m_listMany, h6, ftL, and_self, true_and, and_true, false_and, and_false, not_true_eq_false, not_false_eq_true, or_self, true_or, or_true, false_or, or_false, ite_not, Decidable.not_not, decide_eq_true_eq, Bool.not_true, Bool.not_false, Bool.false_eq_true, Bool.not_eq_true, n10, n20, n21, n30, n31, n32, n40, n41, n42, n43, ↓reduceIte]
  | succ k ih =>
    intro i c f l7 h1 h2 h3 h4 h5 h7
    by_cases h6 : i < ln1
    · have hb2 := liZ_0 hA ⟨h2, h6⟩
      by_cases h9 : hasS σ (liZ ln1 lv1 i) = true
      · obtain ⟨x1, x2, e⟩ := ih (i + 1) (c + 1) f (.int (zi 1)) (by omega) (by omega) (by omega) (by omega) (by omega) h7
        have ea : ftL (liZ ln1 lv1) (hasS σ) ln1 (k + 1) i c f = ftL (liZ ln1 lv1) (hasS σ) ln1 k (i + 1) (c + 1) f := by
          have hf : (if f < 0 ∧ hasS σ (liZ ln1 lv1 i) = false then liZ ln1 lv1 i else f) = f := if_neg (fun z => by rw [h9] at z; exact absurd z.2 (by decide))
          rw [ftL, if_pos h6, if_pos h9, hf]
        refine ⟨x1, x2, ?_⟩
        rw [ea, ← e, fX10_fits_60]
        have b1 : bI (hasS σ (liZ ln1 lv1 i) = true) = 1 := bI_p h9
        have et : ∀ Q, RK MX10_isThere 0 [.ref m, .int (zi s), .int (zi (liZ ln1 lv1 i)), jk] [] (0, 0) (E, zg G, zk L, r) Q = Q (E, zg G, zk L, r) (.int (zi 1)) := fun Q => by rw [m_isThere hm hs hl hW ⟨by omega, by omega⟩, b1]
        by_cases f0 : f < 0
        · simp (disch := first | assumption | exact c2_int _ | exact c2_ref _ | exact c2_jk | exact c2_null | omega | exact bI_r _ | exact bI_01 _) only [↓fX10_fits_0, ↓fX10_fits_1, ↓fX10_fits_2, ↓fX10_fits_3, ↓fX10_fits_4, ↓fX10_fits_7, ↓fX10_fits_10, ↓fX10_fits_13, ↓fX10_fits_14, ↓fX10_fits_17, ↓fX10_fits_18, ↓fX10_fits_19, ↓fX10_fits_22, ↓fX10_fits_25, ↓fX10_fits_26, ↓fX10_fits_27, ↓fX10_fits_30, ↓fX10_fits_33, ↓fX10_fits_34, ↓fX10_fits_37, ↓fX10_fits_38, ↓fX10_fits_41, ↓fX10_fits_44, ↓fX10_fits_45, ↓fX10_fits_46, ↓fX10_fits_47, ↓fX10_fits_48, ↓fX10_fits_51, ↓fX10_fits_52, ↓fX10_fits_54, ↓fX10_fits_55, ↓fX10_fits_57, ↓fX10_fits_58, ↓fX10_fits_62, ↓fX10_fits_63, ↓fX10_fits_64, ↓fX10_fits_67, ↓fX10_fits_70, ↓fX10_fits_71, ↓fX10_fits_72, ↓fX10_fits_73, ↓fX10_fits_74, ↓fX10_fits_76, ↓fX10_fits_79, ↓fX10_fits_82, ↓fX10_fits_84, ↓fX10_fits_86, ↓fX10_fits_88, ↓fX10_fits_91, ↓fX10_fits_92, ↓fX10_fits_95, ↓fX10_fits_96, ↓fX10_fits_97, ↓fX10_fits_99, ↓fX10_fits_101, ↓fX10_fits_104, ↓fX10_fits_106, ↓fX10_fits_109, ↓fX10_fits_110, ↓fX10_fits_111, ↓fX10_fits_113, ↓fX10_fits_116, ↓fX10_fits_119, ↓fX10_fits_121, ↓fX10_fits_123, ↓fX10_fits_126, ↓fX10_fits_130, ↓fX10_fits_131, ↓fX10_fits_134, ↓fX10_fits_135, ↓fX10_fits_136, ↓fX10_fits_137, ↓fX10_fits_140, ↓fX10_fits_143, ↓fX10_fits_144, ↓fX10_fits_147, ↓fX10_fits_148, ↓fX10_fits_149, ↓fX10_fits_150, ↓fX10_fits_153, ↓fX10_fits_155, ↓fX10_fits_158, ↓fX10_fits_160, ↓fX10_fits_163, ↓fX10_fits_164, ↓fX10_fits_165, ↓fX10_fits_168, ↓fX10_fits_171, ↓fX10_fits_173, ↓m_listMany, ↓m_listAt, ↓et, h6, f0, and_self, true_and, and_true, false_and, and_false, not_true_eq_false, not_false_eq_true, or_self, true_or, or_true, false_or, or_false, ite_not, Decidable.not_not, decide_eq_true_eq, Bool.not_true, Bool.not_false, Bool.false_eq_true, Bool.not_eq_true, n10, n20, n21, n30, n31, n32, n40, n41, n42, n43, ↓reduceIte]
        · simp (disch := first | assumption | exact c2_int _ | exact c2_ref _ | exact c2_jk | exact c2_null | omega | exact bI_r _ | exact bI_01 _) only [↓fX10_fits_0, ↓fX10_fits_1, ↓fX10_fits_2, ↓fX10_fits_3, ↓fX10_fits_4, ↓fX10_fits_7, ↓fX10_fits_10, ↓fX10_fits_13, ↓fX10_fits_14, ↓fX10_fits_17, ↓fX10_fits_18, ↓fX10_fits_19, ↓fX10_fits_22, ↓fX10_fits_25, ↓fX10_fits_26, ↓fX10_fits_27, ↓fX10_fits_30, ↓fX10_fits_33, ↓fX10_fits_34, ↓fX10_fits_37, ↓fX10_fits_38, ↓fX10_fits_41, ↓fX10_fits_44, ↓fX10_fits_45, ↓fX10_fits_46, ↓fX10_fits_47, ↓fX10_fits_48, ↓fX10_fits_51, ↓fX10_fits_52, ↓fX10_fits_54, ↓fX10_fits_55, ↓fX10_fits_57, ↓fX10_fits_58, ↓fX10_fits_62, ↓fX10_fits_63, ↓fX10_fits_64, ↓fX10_fits_67, ↓fX10_fits_70, ↓fX10_fits_71, ↓fX10_fits_72, ↓fX10_fits_73, ↓fX10_fits_74, ↓fX10_fits_76, ↓fX10_fits_79, ↓fX10_fits_82, ↓fX10_fits_84, ↓fX10_fits_86, ↓fX10_fits_88, ↓fX10_fits_91, ↓fX10_fits_92, ↓fX10_fits_95, ↓fX10_fits_96, ↓fX10_fits_97, ↓fX10_fits_99, ↓fX10_fits_101, ↓fX10_fits_104, ↓fX10_fits_106, ↓fX10_fits_109, ↓fX10_fits_110, ↓fX10_fits_111, ↓fX10_fits_113, ↓fX10_fits_116, ↓fX10_fits_119, ↓fX10_fits_121, ↓fX10_fits_123, ↓fX10_fits_126, ↓fX10_fits_130, ↓fX10_fits_131, ↓fX10_fits_134, ↓fX10_fits_135, ↓fX10_fits_136, ↓fX10_fits_137, ↓fX10_fits_140, ↓fX10_fits_143, ↓fX10_fits_144, ↓fX10_fits_147, ↓fX10_fits_148, ↓fX10_fits_149, ↓fX10_fits_150, ↓fX10_fits_153, ↓fX10_fits_155, ↓fX10_fits_158, ↓fX10_fits_160, ↓fX10_fits_163, ↓fX10_fits_164, ↓fX10_fits_165, ↓fX10_fits_168, ↓fX10_fits_171, ↓fX10_fits_173, ↓m_listMany, ↓m_listAt, ↓et, h6, f0, and_self, true_and, and_true, false_and, and_false, not_true_eq_false, not_false_eq_true, or_self, true_or, or_true, false_or, or_false, ite_not, Decidable.not_not, decide_eq_true_eq, Bool.not_true, Bool.not_false, Bool.false_eq_true, Bool.not_eq_true, n10, n20, n21, n30, n31, n32, n40, n41, n42, n43, ↓reduceIte]
      · have h9' : hasS σ (liZ ln1 lv1 i) = false := by simpa using h9
        obtain ⟨x1, x2, e⟩ := ih (i + 1) c (if f < 0 then liZ ln1 lv1 i else f) (.int (zi 0)) (by omega) (by omega) (by omega) h4 (by omega) (by split <;> omega)
        have ea : ftL (liZ ln1 lv1) (hasS σ) ln1 (k + 1) i c f = ftL (liZ ln1 lv1) (hasS σ) ln1 k (i + 1) c (if f < 0 then liZ ln1 lv1 i else f) := by
          rw [ftL, if_pos h6, if_neg h9]
          simp only [h9', and_true]
        refine ⟨x1, x2, ?_⟩
        rw [ea, ← e, fX10_fits_60]
        have b1 : bI (hasS σ (liZ ln1 lv1 i) = true) = 0 := bI_n h9
        have et : ∀ Q, RK MX10_isThere 0 [.ref m, .int (zi s), .int (zi (liZ ln1 lv1 i)), jk] [] (0, 0) (E, zg G, zk L, r) Q = Q (E, zg G, zk L, r) (.int (zi 0)) := fun Q => by rw [m_isThere hm hs hl hW ⟨by omega, by omega⟩, b1]
        by_cases f0 : f < 0
        · simp (disch := first | assumption | exact c2_int _ | exact c2_ref _ | exact c2_jk | exact c2_null | omega | exact bI_r _ | exact bI_01 _) only [↓fX10_fits_0, ↓fX10_fits_1, ↓fX10_fits_2, ↓fX10_fits_3, ↓fX10_fits_4, ↓fX10_fits_7, ↓fX10_fits_10, ↓fX10_fits_13, ↓fX10_fits_14, ↓fX10_fits_17, ↓fX10_fits_18, ↓fX10_fits_19, ↓fX10_fits_22, ↓fX10_fits_25, ↓fX10_fits_26, ↓fX10_fits_27, ↓fX10_fits_30, ↓fX10_fits_33, ↓fX10_fits_34, ↓fX10_fits_37, ↓fX10_fits_38, ↓fX10_fits_41, ↓fX10_fits_44, ↓fX10_fits_45, ↓fX10_fits_46, ↓fX10_fits_47, ↓fX10_fits_48, ↓fX10_fits_51, ↓fX10_fits_52, ↓fX10_fits_54, ↓fX10_fits_55, ↓fX10_fits_57, ↓fX10_fits_58, ↓fX10_fits_62, ↓fX10_fits_63, ↓fX10_fits_64, ↓fX10_fits_67, ↓fX10_fits_70, ↓fX10_fits_71, ↓fX10_fits_72, ↓fX10_fits_73, ↓fX10_fits_74, ↓fX10_fits_76, ↓fX10_fits_79, ↓fX10_fits_82, ↓fX10_fits_84, ↓fX10_fits_86, ↓fX10_fits_88, ↓fX10_fits_91, ↓fX10_fits_92, ↓fX10_fits_95, ↓fX10_fits_96, ↓fX10_fits_97, ↓fX10_fits_99, ↓fX10_fits_101, ↓fX10_fits_104, ↓fX10_fits_106, ↓fX10_fits_109, ↓fX10_fits_110, ↓fX10_fits_111, ↓fX10_fits_113, ↓fX10_fits_116, ↓fX10_fits_119, ↓fX10_fits_121, ↓fX10_fits_123, ↓fX10_fits_126, ↓fX10_fits_130, ↓fX10_fits_131, ↓fX10_fits_134, ↓fX10_fits_135, ↓fX10_fits_136, ↓fX10_fits_137, ↓fX10_fits_140, ↓fX10_fits_143, ↓fX10_fits_144, ↓fX10_fits_147, ↓fX10_fits_148, ↓fX10_fits_149, ↓fX10_fits_150, ↓fX10_fits_153, ↓fX10_fits_155, ↓fX10_fits_158, ↓fX10_fits_160, ↓fX10_fits_163, ↓fX10_fits_164, ↓fX10_fits_165, ↓fX10_fits_168, ↓fX10_fits_171, ↓fX10_fits_173, ↓m_listMany, ↓m_listAt, ↓et, h6, f0, Int.add_zero, and_self, true_and, and_true, false_and, and_false, not_true_eq_false, not_false_eq_true, or_self, true_or, or_true, false_or, or_false, ite_not, Decidable.not_not, decide_eq_true_eq, Bool.not_true, Bool.not_false, Bool.false_eq_true, Bool.not_eq_true, n10, n20, n21, n30, n31, n32, n40, n41, n42, n43, ↓reduceIte]
        · simp (disch := first | assumption | exact c2_int _ | exact c2_ref _ | exact c2_jk | exact c2_null | omega | exact bI_r _ | exact bI_01 _) only [↓fX10_fits_0, ↓fX10_fits_1, ↓fX10_fits_2, ↓fX10_fits_3, ↓fX10_fits_4, ↓fX10_fits_7, ↓fX10_fits_10, ↓fX10_fits_13, ↓fX10_fits_14, ↓fX10_fits_17, ↓fX10_fits_18, ↓fX10_fits_19, ↓fX10_fits_22, ↓fX10_fits_25, ↓fX10_fits_26, ↓fX10_fits_27, ↓fX10_fits_30, ↓fX10_fits_33, ↓fX10_fits_34, ↓fX10_fits_37, ↓fX10_fits_38, ↓fX10_fits_41, ↓fX10_fits_44, ↓fX10_fits_45, ↓fX10_fits_46, ↓fX10_fits_47, ↓fX10_fits_48, ↓fX10_fits_51, ↓fX10_fits_52, ↓fX10_fits_54, ↓fX10_fits_55, ↓fX10_fits_57, ↓fX10_fits_58, ↓fX10_fits_62, ↓fX10_fits_63, ↓fX10_fits_64, ↓fX10_fits_67, ↓fX10_fits_70, ↓fX10_fits_71, ↓fX10_fits_72, ↓fX10_fits_73, ↓fX10_fits_74, ↓fX10_fits_76, ↓fX10_fits_79, ↓fX10_fits_82, ↓fX10_fits_84, ↓fX10_fits_86, ↓fX10_fits_88, ↓fX10_fits_91, ↓fX10_fits_92, ↓fX10_fits_95, ↓fX10_fits_96, ↓fX10_fits_97, ↓fX10_fits_99, ↓fX10_fits_101, ↓fX10_fits_104, ↓fX10_fits_106, ↓fX10_fits_109, ↓fX10_fits_110, ↓fX10_fits_111, ↓fX10_fits_113, ↓fX10_fits_116, ↓fX10_fits_119, ↓fX10_fits_121, ↓fX10_fits_123, ↓fX10_fits_126, ↓fX10_fits_130, ↓fX10_fits_131, ↓fX10_fits_134, ↓fX10_fits_135, ↓fX10_fits_136, ↓fX10_fits_137, ↓fX10_fits_140, ↓fX10_fits_143, ↓fX10_fits_144, ↓fX10_fits_147, ↓fX10_fits_148, ↓fX10_fits_149, ↓fX10_fits_150, ↓fX10_fits_153, ↓fX10_fits_155, ↓fX10_fits_158, ↓fX10_fits_160, ↓fX10_fits_163, ↓fX10_fits_164, ↓fX10_fits_165, ↓fX10_fits_168, ↓fX10_fits_171, ↓fX10_fits_173, ↓m_listMany, ↓m_listAt, ↓et, h6, f0, Int.add_zero, and_self, true_and, and_true, false_and, and_false, not_true_eq_false, not_false_eq_true, or_self, true_or, or_true, false_or, or_false, ite_not, Decidable.not_not, decide_eq_true_eq, Bool.not_true, Bool.not_false, Bool.false_eq_true, Bool.not_eq_true, n10, n20, n21, n30, n31, n32, n40, n41, n42, n43, ↓reduceIte]
    · refine ⟨.int (zi i), l7, ?_⟩
      simp (disch := first | assumption | exact c2_int _ | exact c2_ref _ | exact c2_jk | exact c2_null | omega | exact bI_r _ | exact bI_01 _) only [↓fX10_fits_0, ↓fX10_fits_1, ↓fX10_fits_2, ↓fX10_fits_3, ↓fX10_fits_4, ↓fX10_fits_7, ↓fX10_fits_10, ↓fX10_fits_13, ↓fX10_fits_14, ↓fX10_fits_17, ↓fX10_fits_18, ↓fX10_fits_19, ↓fX10_fits_22, ↓fX10_fits_25, ↓fX10_fits_26, ↓fX10_fits_27, ↓fX10_fits_30, ↓fX10_fits_33, ↓fX10_fits_34, ↓fX10_fits_37, ↓fX10_fits_38, ↓fX10_fits_41, ↓fX10_fits_44, ↓fX10_fits_45, ↓fX10_fits_46, ↓fX10_fits_47, ↓fX10_fits_48, ↓fX10_fits_51, ↓fX10_fits_52, ↓fX10_fits_54, ↓fX10_fits_55, ↓fX10_fits_57, ↓fX10_fits_58, ↓fX10_fits_60, ↓fX10_fits_62, ↓fX10_fits_63, ↓fX10_fits_64, ↓fX10_fits_67, ↓fX10_fits_70, ↓fX10_fits_71, ↓fX10_fits_72, ↓fX10_fits_73, ↓fX10_fits_74, ↓fX10_fits_76, ↓fX10_fits_79, ↓fX10_fits_82, ↓fX10_fits_84, ↓fX10_fits_86, ↓fX10_fits_88, ↓fX10_fits_91, ↓fX10_fits_92, ↓fX10_fits_95, ↓fX10_fits_96, ↓fX10_fits_97, ↓fX10_fits_99, ↓fX10_fits_101, ↓fX10_fits_104, ↓fX10_fits_106, ↓fX10_fits_109, ↓fX10_fits_110, ↓fX10_fits_111, ↓fX10_fits_113, ↓fX10_fits_116, ↓fX10_fits_119, ↓fX10_fits_121, ↓fX10_fits_123, ↓fX10_fits_126, ↓fX10_fits_130, ↓fX10_fits_131, ↓fX10_fits_134, ↓fX10_fits_135, ↓fX10_fits_136, ↓fX10_fits_137, ↓fX10_fits_140, ↓fX10_fits_143, ↓fX10_fits_144, ↓fX10_fits_147, ↓fX10_fits_148, ↓fX10_fits_149, ↓fX10_fits_150, ↓fX10_fits_153, ↓fX10_fits_155, ↓fX10_fits_158, ↓fX10_fits_160, ↓fX10_fits_163, ↓fX10_fits_164, ↓fX10_fits_165, ↓fX10_fits_168, ↓fX10_fits_171, ↓fX10_fits_173, ↓m_listMany, h6, ftL, and_self, true_and, and_true, false_and, and_false, not_true_eq_false, not_false_eq_true, or_self, true_or, or_true, false_or, or_false, ite_not, Decidable.not_not, decide_eq_true_eq, Bool.not_true, Bool.not_false, Bool.false_eq_true, Bool.not_eq_true, n10, n20, n21, n30, n31, n32, n40, n41, n42, n43, ↓reduceIte]
theorem ftL_1 (A : Int → Int) (P : Int → Bool) (e : Int) : ∀ (k : Nat) (i c f : Int), (ftL A P e k i c f).1 = cnL (fun i => P (A i)) e k i c := by
  intro k
  induction k with
  | zero => intro i c f; rfl
  | succ k ih =>
    intro i c f
    unfold ftL cnL
    by_cases q : i < e
    · rw [if_pos q, if_pos q]
      exact ih _ _ _
    · rw [if_neg q, if_neg q]
theorem ftL_2 (A : Int → Int) (P : Int → Bool) (e : Int) (hA : ∀ j, 0 ≤ j → j < e → 0 ≤ A j) (he : A e = -1) : ∀ (k : Nat) (i c f : Int), e ≤ i + k → 0 ≤ i → i ≤ e → -1 ≤ f → (ftL A P e k i c f).2 = if f < 0 then A (fdL (fun i => !P (A i)) e k i) else f := by
  intro k
  induction k with
  | zero =>
    intro i c f h1 h2 h3 h4
    show f = _
    split
    · unfold fdL
      rw [he]
      omega
    · rfl
  | succ k ih =>
    intro i c f h1 h2 h3 h4
    unfold ftL fdL
    by_cases q : i < e
    · rw [if_pos q, if_pos q]
      have hi := hA i h2 q
      by_cases f0 : f < 0
      · by_cases p0 : P (A i) = true
        · have e1 : (if f < 0 ∧ P (A i) = false then A i else f) = f := if_neg (fun z => by have := z.2; rw [p0] at this; exact absurd this (by decide))
          rw [e1, ih _ _ f (by omega) (by omega) (by omega) h4, if_pos f0, if_pos f0, p0]
          simp
        · have p1 : P (A i) = false := by simpa using p0
          have e1 : (if f < 0 ∧ P (A i) = false then A i else f) = A i := if_pos ⟨f0, p1⟩
          rw [e1, ih _ _ (A i) (by omega) (by omega) (by omega) (by omega), if_neg (show ¬ A i < 0 by omega), if_pos f0, p1]
          simp
      · have e1 : (if f < 0 ∧ P (A i) = false then A i else f) = f := if_neg (fun z => f0 z.1)
        rw [e1, ih _ _ f (by omega) (by omega) (by omega) h4, if_neg f0, if_neg f0]
    · rw [if_neg q, if_neg q]
      have e0 : i = e := by omega
      split
      · rw [he]
        show f = -1
        omega
      · rfl
end BM
section BM
variable {E : AE} {G G1 G2 G' L : Nat → Nat → Int} {r : Nat → Nat → Option Nat} {h : AH} {Q : AH → Value → Prop} {m M n cl : Nat} {σ : Nat → Nat → Int} {P : Int → Bool} {s o y x w i p v lo hi t b d e c f g k : Int} {ln : Nat → Nat} {lv : Nat → Nat → Int}
theorem y_list (hM : MD E r G m n σ) (hLM : LM G m cl ln lv) (hs : I32 s) (hk : I32 k) : ∃ G', lkM G G' m ∧ G' m 0 = (onS (decide ((k < -1))) cl s (if k = -1 then (0, (ln s.toNat : Int)) else ans (liZ (ln s.toNat) (lv s.toNat) k))).1 ∧ ∀ Q, RK MX10_list 0 [.ref m, .int (zi s), .int (zi k)] [] (0, 0) (E, zg G, zk L, r) Q = Q (E, zg G', zk L, r) (.int (zi (onS (decide ((k < -1))) cl s (if k = -1 then (0, (ln s.toNat : Int)) else ans (liZ (ln s.toNat) (lv s.toNat) k))).2)) := by
  have hm := hM.1
  have m0 := hm.1
  have h6 := hM.2.1
  have h8 := hLM.1
  by_cases c1 : k < -1
  · have cb : onS (decide ((k < -1))) cl s (if k = -1 then (0, (ln s.toNat : Int)) else ans (liZ (ln s.toNat) (lv s.toNat) k)) = (1, -1) := if_pos (decide_eq_true (by omega))
    rw [cb]
    exact ⟨iG G m 1, lkM_i, iG_0, fun Q => by simp (disch := first | assumption | exact c2_int _ | exact c2_ref _ | exact c2_jk | exact c2_null | omega | exact bI_r _ | exact bI_01 _) only [↓fX10_list_0, ↓fX10_list_1, ↓fX10_list_2, ↓fX10_list_3, ↓fX10_list_6, ↓fX10_list_7, ↓fX10_list_10, ↓fX10_list_11, ↓fX10_list_12, ↓fX10_list_15, ↓fX10_list_18, ↓fX10_list_19, ↓fX10_list_22, ↓fX10_list_23, ↓fX10_list_26, ↓fX10_list_29, ↓fX10_list_30, ↓fX10_list_31, ↓fX10_list_32, ↓fX10_list_33, ↓fX10_list_36, ↓fX10_list_37, ↓fX10_list_38, ↓fX10_list_41, ↓fX10_list_44, ↓fX10_list_45, ↓fX10_list_46, ↓fX10_list_47, ↓fX10_list_50, ↓fX10_list_53, ↓fX10_list_54, ↓fX10_list_55, ↓fX10_list_56, ↓fX10_list_59, ↓fX10_list_62, ↓fX10_list_63, ↓fX10_list_64, ↓fX10_list_67, ↓m_isIn, bI_0, ↓m_isN, c1, and_self, true_and, and_true, false_and, and_false, not_true_eq_false, not_false_eq_true, or_self, true_or, or_true, false_or, or_false, ite_not, Decidable.not_not, decide_eq_true_eq, Bool.not_true, Bool.not_false, Bool.false_eq_true, Bool.not_eq_true, n10, n20, n21, n30, n31, n32, n40, n41, n42, n43, ↓reduceIte]⟩
  · have cq : (decide ((k < -1))) = false := decide_eq_false (by omega)
    have cb : onS (decide ((k < -1))) cl s (if k = -1 then (0, (ln s.toNat : Int)) else ans (liZ (ln s.toNat) (lv s.toNat) k)) = if 0 ≤ s ∧ s < cl then (if k = -1 then (0, (ln s.toNat : Int)) else ans (liZ (ln s.toNat) (lv s.toNat) k)) else (2, -1) := if_neg (by rw [cq]; decide)
    rw [cb]
    by_cases c : 0 ≤ s ∧ s < cl
    · rw [if_pos c]
      have eS := fun Q => m_isL1 (L := L) (Q := Q) hm hLM c
      obtain ⟨hl0, hl1, hl3⟩ := LM_at hLM c
      have hA := LA_of hLM c
      have hA1 : LA (iG G m 0) m s (ln s.toNat) (lv s.toNat) := LA_c hA (iG_q (by omega))
      by_cases z : k = -1
      · rw [if_pos z]
        subst z
        refine ⟨iG G m 0, lkM_i, iG_0, fun Q => ?_⟩
        simp (disch := first | assumption | exact c2_int _ | exact c2_ref _ | exact c2_jk | exact c2_null | omega | exact bI_r _ | exact bI_01 _) only [↓fX10_list_0, ↓fX10_list_1, ↓fX10_list_2, ↓fX10_list_3, ↓fX10_list_6, ↓fX10_list_7, ↓fX10_list_10, ↓fX10_list_11, ↓fX10_list_12, ↓fX10_list_15, ↓fX10_list_18, ↓fX10_list_19, ↓fX10_list_22, ↓fX10_list_23, ↓fX10_list_26, ↓fX10_list_29, ↓fX10_list_30, ↓fX10_list_31, ↓fX10_list_32, ↓fX10_list_33, ↓fX10_list_36, ↓fX10_list_37, ↓fX10_list_38, ↓fX10_list_41, ↓fX10_list_44, ↓fX10_list_45, ↓fX10_list_46, ↓fX10_list_47, ↓fX10_list_50, ↓fX10_list_53, ↓fX10_list_54, ↓fX10_list_55, ↓fX10_list_56, ↓fX10_list_59, ↓fX10_list_62, ↓fX10_list_63, ↓fX10_list_64, ↓fX10_list_67, ↓m_isIn, bI_0, ↓eS, ↓m_is0, ↓m_listMany, c1, and_self, true_and, and_true, false_and, and_false, not_true_eq_false, not_false_eq_true, or_self, true_or, or_true, false_or, or_false, ite_not, Decidable.not_not, decide_eq_true_eq, Bool.not_true, Bool.not_false, Bool.false_eq_true, Bool.not_eq_true, n10, n20, n21, n30, n31, n32, n40, n41, n42, n43, ↓reduceIte]
      · rw [if_neg z]
        by_cases z2 : k < (ln s.toNat : Int)
        · have lb := liZ_0 hA (i := k) (by omega)
          rw [ans_y lb.1]
          refine ⟨iG G m 0, lkM_i, iG_0, fun Q => ?_⟩
          simp (disch := first | assumption | exact c2_int _ | exact c2_ref _ | exact c2_jk | exact c2_null | omega | exact bI_r _ | exact bI_01 _) only [↓fX10_list_0, ↓fX10_list_1, ↓fX10_list_2, ↓fX10_list_3, ↓fX10_list_6, ↓fX10_list_7, ↓fX10_list_10, ↓fX10_list_11, ↓fX10_list_12, ↓fX10_list_15, ↓fX10_list_18, ↓fX10_list_19, ↓fX10_list_22, ↓fX10_list_23, ↓fX10_list_26, ↓fX10_list_29, ↓fX10_list_30, ↓fX10_list_31, ↓fX10_list_32, ↓fX10_list_33, ↓fX10_list_36, ↓fX10_list_37, ↓fX10_list_38, ↓fX10_list_41, ↓fX10_list_44, ↓fX10_list_45, ↓fX10_list_46, ↓fX10_list_47, ↓fX10_list_50, ↓fX10_list_53, ↓fX10_list_54, ↓fX10_list_55, ↓fX10_list_56, ↓fX10_list_59, ↓fX10_list_62, ↓fX10_list_63, ↓fX10_list_64, ↓fX10_list_67, ↓m_isIn, bI_0, ↓eS, ↓m_is0, ↓m_listMany, ↓m_listAt, z, z2, c1, and_self, true_and, and_true, false_and, and_false, not_true_eq_false, not_false_eq_true, or_self, true_or, or_true, false_or, or_false, ite_not, Decidable.not_not, decide_eq_true_eq, Bool.not_true, Bool.not_false, Bool.false_eq_true, Bool.not_eq_true, n10, n20, n21, n30, n31, n32, n40, n41, n42, n43, ↓reduceIte]
        · have el : liZ (ln s.toNat) (lv s.toNat) k = -1 := if_neg (by omega)
          rw [el, ans_n]
          refine ⟨u2 (iG G m 0) m 0 5, lkM_i.trans lkM_0, u2_s _ _ _ _, fun Q => ?_⟩
          simp (disch := first | assumption | exact c2_int _ | exact c2_ref _ | exact c2_jk | exact c2_null | omega | exact bI_r _ | exact bI_01 _) only [↓fX10_list_0, ↓fX10_list_1, ↓fX10_list_2, ↓fX10_list_3, ↓fX10_list_6, ↓fX10_list_7, ↓fX10_list_10, ↓fX10_list_11, ↓fX10_list_12, ↓fX10_list_15, ↓fX10_list_18, ↓fX10_list_19, ↓fX10_list_22, ↓fX10_list_23, ↓fX10_list_26, ↓fX10_list_29, ↓fX10_list_30, ↓fX10_list_31, ↓fX10_list_32, ↓fX10_list_33, ↓fX10_list_36, ↓fX10_list_37, ↓fX10_list_38, ↓fX10_list_41, ↓fX10_list_44, ↓fX10_list_45, ↓fX10_list_46, ↓fX10_list_47, ↓fX10_list_50, ↓fX10_list_53, ↓fX10_list_54, ↓fX10_list_55, ↓fX10_list_56, ↓fX10_list_59, ↓fX10_list_62, ↓fX10_list_63, ↓fX10_list_64, ↓fX10_list_67, ↓m_isIn, bI_0, ↓eS, ↓m_is0, ↓m_listMany, ↓m_refuse, z, z2, c1, and_self, true_and, and_true, false_and, and_false, not_true_eq_false, not_false_eq_true, or_self, true_or, or_true, false_or, or_false, ite_not, Decidable.not_not, decide_eq_true_eq, Bool.not_true, Bool.not_false, Bool.false_eq_true, Bool.not_eq_true, n10, n20, n21, n30, n31, n32, n40, n41, n42, n43, ↓reduceIte]
    · rw [if_neg c]
      have eS := fun Q => m_isL0 (L := L) (Q := Q) hm hLM hs c
      exact ⟨iG G m 2, lkM_i, iG_0, fun Q => by simp (disch := first | assumption | exact c2_int _ | exact c2_ref _ | exact c2_jk | exact c2_null | omega | exact bI_r _ | exact bI_01 _) only [↓fX10_list_0, ↓fX10_list_1, ↓fX10_list_2, ↓fX10_list_3, ↓fX10_list_6, ↓fX10_list_7, ↓fX10_list_10, ↓fX10_list_11, ↓fX10_list_12, ↓fX10_list_15, ↓fX10_list_18, ↓fX10_list_19, ↓fX10_list_22, ↓fX10_list_23, ↓fX10_list_26, ↓fX10_list_29, ↓fX10_list_30, ↓fX10_list_31, ↓fX10_list_32, ↓fX10_list_33, ↓fX10_list_36, ↓fX10_list_37, ↓fX10_list_38, ↓fX10_list_41, ↓fX10_list_44, ↓fX10_list_45, ↓fX10_list_46, ↓fX10_list_47, ↓fX10_list_50, ↓fX10_list_53, ↓fX10_list_54, ↓fX10_list_55, ↓fX10_list_56, ↓fX10_list_59, ↓fX10_list_62, ↓fX10_list_63, ↓fX10_list_64, ↓fX10_list_67, ↓m_isIn, bI_0, ↓eS, ↓m_isN, c1, and_self, true_and, and_true, false_and, and_false, not_true_eq_false, not_false_eq_true, or_self, true_or, or_true, false_or, or_false, ite_not, Decidable.not_not, decide_eq_true_eq, Bool.not_true, Bool.not_false, Bool.false_eq_true, Bool.not_eq_true, n10, n20, n21, n30, n31, n32, n40, n41, n42, n43, ↓reduceIte]⟩
theorem y_fits (hM : MD E r G m n σ) (hLM : LM G m cl ln lv) (hs : I32 s) (ho : I32 o) (hw : I32 w) : ∃ G', lkM G G' m ∧ G' m 0 = (onL (decide ((¬ (0 ≤ w ∧ w ≤ 2)))) n cl s o (if w = 0 then (0, ciZ (ln o.toNat) (lv o.toNat) (σ s.toNat)) else if w = 1 then ans (fiZ (ln o.toNat) (lv o.toNat) (σ s.toNat)) else (0, bI (tgtZ (ln o.toNat) (lv o.toNat) (σ s.toNat) = true)))).1 ∧ ∀ Q, RK MX10_fits 0 [.ref m, .int (zi s), .int (zi o), .int (zi w), jk, jk, jk, jk] [] (0, 0) (E, zg G, zk L, r) Q = Q (E, zg G', zk L, r) (.int (zi (onL (decide ((¬ (0 ≤ w ∧ w ≤ 2)))) n cl s o (if w = 0 then (0, ciZ (ln o.toNat) (lv o.toNat) (σ s.toNat)) else if w = 1 then ans (fiZ (ln o.toNat) (lv o.toNat) (σ s.toNat)) else (0, bI (tgtZ (ln o.toNat) (lv o.toNat) (σ s.toNat) = true)))).2)) := by
  have hm := hM.1
  have m0 := hm.1
  have h6 := hM.2.1
  by_cases c1 : ¬ (0 ≤ w ∧ w ≤ 2)
  · have cb : onL (decide ((¬ (0 ≤ w ∧ w ≤ 2)))) n cl s o (if w = 0 then (0, ciZ (ln o.toNat) (lv o.toNat) (σ s.toNat)) else if w = 1 then ans (fiZ (ln o.toNat) (lv o.toNat) (σ s.toNat)) else (0, bI (tgtZ (ln o.toNat) (lv o.toNat) (σ s.toNat) = true))) = (1, -1) := if_pos (decide_eq_true (by omega))
    rw [cb]
    exact ⟨iG G m 1, lkM_i, iG_0, fun Q => by simp (disch := first | assumption | exact c2_int _ | exact c2_ref _ | exact c2_jk | exact c2_null | omega | exact bI_r _ | exact bI_01 _) only [↓fX10_fits_0, ↓fX10_fits_1, ↓fX10_fits_2, ↓fX10_fits_3, ↓fX10_fits_4, ↓fX10_fits_7, ↓fX10_fits_10, ↓fX10_fits_13, ↓fX10_fits_14, ↓fX10_fits_17, ↓fX10_fits_18, ↓fX10_fits_19, ↓fX10_fits_22, ↓fX10_fits_25, ↓fX10_fits_26, ↓fX10_fits_27, ↓fX10_fits_30, ↓fX10_fits_33, ↓fX10_fits_34, ↓fX10_fits_37, ↓fX10_fits_38, ↓fX10_fits_41, ↓fX10_fits_44, ↓fX10_fits_45, ↓fX10_fits_46, ↓fX10_fits_47, ↓fX10_fits_48, ↓fX10_fits_51, ↓fX10_fits_52, ↓fX10_fits_54, ↓fX10_fits_55, ↓fX10_fits_57, ↓fX10_fits_58, ↓fX10_fits_60, ↓fX10_fits_62, ↓fX10_fits_63, ↓fX10_fits_64, ↓fX10_fits_67, ↓fX10_fits_70, ↓fX10_fits_71, ↓fX10_fits_72, ↓fX10_fits_73, ↓fX10_fits_74, ↓fX10_fits_76, ↓fX10_fits_79, ↓fX10_fits_82, ↓fX10_fits_84, ↓fX10_fits_86, ↓fX10_fits_88, ↓fX10_fits_91, ↓fX10_fits_92, ↓fX10_fits_95, ↓fX10_fits_96, ↓fX10_fits_97, ↓fX10_fits_99, ↓fX10_fits_101, ↓fX10_fits_104, ↓fX10_fits_106, ↓fX10_fits_109, ↓fX10_fits_110, ↓fX10_fits_111, ↓fX10_fits_113, ↓fX10_fits_116, ↓fX10_fits_119, ↓fX10_fits_121, ↓fX10_fits_123, ↓fX10_fits_126, ↓fX10_fits_129, ↓fX10_fits_130, ↓fX10_fits_131, ↓fX10_fits_134, ↓fX10_fits_135, ↓fX10_fits_136, ↓fX10_fits_137, ↓fX10_fits_140, ↓fX10_fits_143, ↓fX10_fits_144, ↓fX10_fits_147, ↓fX10_fits_148, ↓fX10_fits_149, ↓fX10_fits_150, ↓fX10_fits_153, ↓fX10_fits_155, ↓fX10_fits_158, ↓fX10_fits_160, ↓fX10_fits_163, ↓fX10_fits_164, ↓fX10_fits_165, ↓fX10_fits_168, ↓fX10_fits_171, ↓fX10_fits_173, ↓m_isIn, bI_0, ↓m_isN, c1, and_self, true_and, and_true, false_and, and_false, not_true_eq_false, not_false_eq_true, or_self, true_or, or_true, false_or, or_false, ite_not, Decidable.not_not, decide_eq_true_eq, Bool.not_true, Bool.not_false, Bool.false_eq_true, Bool.not_eq_true, n10, n20, n21, n30, n31, n32, n40, n41, n42, n43, ↓reduceIte]⟩
  · have c1 := Decidable.not_not.mp c1
    have cq : (decide ((¬ (0 ≤ w ∧ w ≤ 2)))) = false := decide_eq_false (by omega)
    have cb : onL (decide ((¬ (0 ≤ w ∧ w ≤ 2)))) n cl s o (if w = 0 then (0, ciZ (ln o.toNat) (lv o.toNat) (σ s.toNat)) else if w = 1 then ans (fiZ (ln o.toNat) (lv o.toNat) (σ s.toNat)) else (0, bI (tgtZ (ln o.toNat) (lv o.toNat) (σ s.toNat) = true))) = if (0 ≤ s ∧ s < n) ∧ (0 ≤ o ∧ o < cl) then (if w = 0 then (0, ciZ (ln o.toNat) (lv o.toNat) (σ s.toNat)) else if w = 1 then ans (fiZ (ln o.toNat) (lv o.toNat) (σ s.toNat)) else (0, bI (tgtZ (ln o.toNat) (lv o.toNat) (σ s.toNat) = true))) else (2, -1) := if_neg (by rw [cq]; decide)
    rw [cb]
    by_cases c : 0 ≤ s ∧ s < n
    · have eS := fun Q => m_isS1 (L := L) (Q := Q) hM c
      by_cases d : 0 ≤ o ∧ o < cl
      · rw [if_pos ⟨c, d⟩]
        have eO := fun Q => m_isL1 (L := L) (Q := Q) hm hLM d
        obtain ⟨hl, hW⟩ := hM.2.2 s.toNat (by omega)
        rw [Int.toNat_of_nonneg c.1] at hl
        obtain ⟨hl0, hl1, hl3⟩ := LM_at hLM d
        have hz := szS_b hW
        have hs4 : 0 ≤ s ∧ s ≤ 4 := by omega
        obtain ⟨G2, hl2, ha, h12, h20, lk2, tr, eN⟩ := m_now (L := L) hm hs4 hl hW
        have eb : bI (0 ≤ w ∧ w ≤ 2) = 1 := bI_p c1
        have hA := LA_of hLM d
        have hA2 : LA G2 m o (ln o.toNat) (lv o.toNat) := LA_c hA (lk2.1 _ (by omega) (by omega) (by omega) (by omega) (by omega))
        have lp := fun Q => m_fits_loop (L := L) (Q := Q) (w := w) hm hs4 hl2 hW hA2 10 0 0 (-1) jk (by omega) (by omega) (by omega) (by omega) (by omega) (by omega)
        have e1 : (ftL (liZ (ln o.toNat) (lv o.toNat)) (hasS (σ s.toNat)) (ln o.toNat) 10 0 0 (-1)).1 = ciZ (ln o.toNat) (lv o.toNat) (σ s.toNat) := ftL_1 _ _ _ _ _ _ _
        have e2 : (ftL (liZ (ln o.toNat) (lv o.toNat)) (hasS (σ s.toNat)) (ln o.toNat) 10 0 0 (-1)).2 = fiZ (ln o.toNat) (lv o.toNat) (σ s.toNat) := by
          rw [ftL_2 _ _ _ (fun j j1 j2 => (liZ_0 hA ⟨j1, j2⟩).1) (if_neg (by omega)) 10 0 0 (-1) (by omega) (by omega) (by omega) (by omega), if_pos (by decide)]
          rfl
        simp only [e1, e2] at lp
        have fb : -1 ≤ fiZ (ln o.toNat) (lv o.toNat) (σ s.toNat) ∧ fiZ (ln o.toNat) (lv o.toNat) (σ s.toNat) ≤ 9999 := liZ_b (fun j hj => (hA.2.2.2 j hj).2) _
        by_cases z : w = 0
        · rw [if_pos z]
          refine ⟨G2, lk2, h20, fun Q => ?_⟩
          obtain ⟨x1, x2, lp⟩ := lp Q
          have n02 : ¬ (0 : Int) = 2 := by decide
          subst z
          simp (disch := first | assumption | exact c2_int _ | exact c2_ref _ | exact c2_jk | exact c2_null | omega | exact bI_r _ | exact bI_01 _) only [↓fX10_fits_0, ↓fX10_fits_1, ↓fX10_fits_2, ↓fX10_fits_3, ↓fX10_fits_4, ↓fX10_fits_7, ↓fX10_fits_10, ↓fX10_fits_13, ↓fX10_fits_14, ↓fX10_fits_17, ↓fX10_fits_18, ↓fX10_fits_19, ↓fX10_fits_22, ↓fX10_fits_25, ↓fX10_fits_26, ↓fX10_fits_27, ↓fX10_fits_30, ↓fX10_fits_33, ↓fX10_fits_34, ↓fX10_fits_37, ↓fX10_fits_38, ↓fX10_fits_41, ↓fX10_fits_44, ↓fX10_fits_45, ↓fX10_fits_46, ↓fX10_fits_47, ↓fX10_fits_48, ↓fX10_fits_51, ↓fX10_fits_52, ↓fX10_fits_54, ↓fX10_fits_55, ↓fX10_fits_57, ↓fX10_fits_58, ↓fX10_fits_62, ↓fX10_fits_63, ↓fX10_fits_64, ↓fX10_fits_67, ↓fX10_fits_70, ↓fX10_fits_71, ↓fX10_fits_72, ↓fX10_fits_73, ↓fX10_fits_74, ↓fX10_fits_76, ↓fX10_fits_79, ↓fX10_fits_82, ↓fX10_fits_84, ↓fX10_fits_86, ↓fX10_fits_88, ↓fX10_fits_91, ↓fX10_fits_92, ↓fX10_fits_95, ↓fX10_fits_96, ↓fX10_fits_97, ↓fX10_fits_99, ↓fX10_fits_101, ↓fX10_fits_104, ↓fX10_fits_106, ↓fX10_fits_109, ↓fX10_fits_110, ↓fX10_fits_111, ↓fX10_fits_113, ↓fX10_fits_116, ↓fX10_fits_119, ↓fX10_fits_121, ↓fX10_fits_123, ↓fX10_fits_126, ↓fX10_fits_129, ↓fX10_fits_130, ↓fX10_fits_131, ↓fX10_fits_134, ↓fX10_fits_135, ↓fX10_fits_136, ↓fX10_fits_137, ↓fX10_fits_140, ↓fX10_fits_143, ↓fX10_fits_144, ↓fX10_fits_147, ↓fX10_fits_148, ↓fX10_fits_149, ↓fX10_fits_150, ↓fX10_fits_153, ↓fX10_fits_155, ↓fX10_fits_158, ↓fX10_fits_160, ↓fX10_fits_163, ↓fX10_fits_164, ↓fX10_fits_165, ↓fX10_fits_168, ↓fX10_fits_171, ↓fX10_fits_173, ↓m_isIn, bI_0, ↓eS, ↓eO, ↓m_is0, ↓eN, ↓lp, eb, n02, c1, and_self, true_and, and_true, false_and, and_false, not_true_eq_false, not_false_eq_true, or_self, true_or, or_true, false_or, or_false, ite_not, Decidable.not_not, decide_eq_true_eq, Bool.not_true, Bool.not_false, Bool.false_eq_true, Bool.not_eq_true, n10, n20, n21, n30, n31, n32, n40, n41, n42, n43, ↓reduceIte]
        · rw [if_neg z]
          by_cases z1 : w = 1
          · rw [if_pos z1]
            have n12 : ¬ (1 : Int) = 2 := by decide
            by_cases zf : fiZ (ln o.toNat) (lv o.toNat) (σ s.toNat) = -1
            · rw [zf, ans_n]
              refine ⟨u2 G2 m 0 5, lk2.trans lkM_0, u2_s _ _ _ _, fun Q => ?_⟩
              obtain ⟨x1, x2, lp⟩ := lp Q
              rw [zf] at lp
              have m1 : (-1 : Int) < 0 := by decide
              subst z1
              simp (disch := first | assumption | exact c2_int _ | exact c2_ref _ | exact c2_jk | exact c2_null | omega | exact bI_r _ | exact bI_01 _) only [↓fX10_fits_0, ↓fX10_fits_1, ↓fX10_fits_2, ↓fX10_fits_3, ↓fX10_fits_4, ↓fX10_fits_7, ↓fX10_fits_10, ↓fX10_fits_13, ↓fX10_fits_14, ↓fX10_fits_17, ↓fX10_fits_18, ↓fX10_fits_19, ↓fX10_fits_22, ↓fX10_fits_25, ↓fX10_fits_26, ↓fX10_fits_27, ↓fX10_fits_30, ↓fX10_fits_33, ↓fX10_fits_34, ↓fX10_fits_37, ↓fX10_fits_38, ↓fX10_fits_41, ↓fX10_fits_44, ↓fX10_fits_45, ↓fX10_fits_46, ↓fX10_fits_47, ↓fX10_fits_48, ↓fX10_fits_51, ↓fX10_fits_52, ↓fX10_fits_54, ↓fX10_fits_55, ↓fX10_fits_57, ↓fX10_fits_58, ↓fX10_fits_62, ↓fX10_fits_63, ↓fX10_fits_64, ↓fX10_fits_67, ↓fX10_fits_70, ↓fX10_fits_71, ↓fX10_fits_72, ↓fX10_fits_73, ↓fX10_fits_74, ↓fX10_fits_76, ↓fX10_fits_79, ↓fX10_fits_82, ↓fX10_fits_84, ↓fX10_fits_86, ↓fX10_fits_88, ↓fX10_fits_91, ↓fX10_fits_92, ↓fX10_fits_95, ↓fX10_fits_96, ↓fX10_fits_97, ↓fX10_fits_99, ↓fX10_fits_101, ↓fX10_fits_104, ↓fX10_fits_106, ↓fX10_fits_109, ↓fX10_fits_110, ↓fX10_fits_111, ↓fX10_fits_113, ↓fX10_fits_116, ↓fX10_fits_119, ↓fX10_fits_121, ↓fX10_fits_123, ↓fX10_fits_126, ↓fX10_fits_129, ↓fX10_fits_130, ↓fX10_fits_131, ↓fX10_fits_134, ↓fX10_fits_135, ↓fX10_fits_136, ↓fX10_fits_137, ↓fX10_fits_140, ↓fX10_fits_143, ↓fX10_fits_144, ↓fX10_fits_147, ↓fX10_fits_148, ↓fX10_fits_149, ↓fX10_fits_150, ↓fX10_fits_153, ↓fX10_fits_155, ↓fX10_fits_158, ↓fX10_fits_160, ↓fX10_fits_163, ↓fX10_fits_164, ↓fX10_fits_165, ↓fX10_fits_168, ↓fX10_fits_171, ↓fX10_fits_173, ↓m_isIn, bI_0, ↓eS, ↓eO, ↓m_is0, ↓eN, ↓lp, eb, n12, m1, ↓m_refuse, c1, and_self, true_and, and_true, false_and, and_false, not_true_eq_false, not_false_eq_true, or_self, true_or, or_true, false_or, or_false, ite_not, Decidable.not_not, decide_eq_true_eq, Bool.not_true, Bool.not_false, Bool.false_eq_true, Bool.not_eq_true, n10, n20, n21, n30, n31, n32, n40, n41, n42, n43, ↓reduceIte]
            · rw [ans_y (by omega)]
              have m1 : ¬ fiZ (ln o.toNat) (lv o.toNat) (σ s.toNat) < 0 := by omega
              refine ⟨G2, lk2, h20, fun Q => ?_⟩
              obtain ⟨x1, x2, lp⟩ := lp Q
              subst z1
              simp (disch := first | assumption | exact c2_int _ | exact c2_ref _ | exact c2_jk | exact c2_null | omega | exact bI_r _ | exact bI_01 _) only [↓fX10_fits_0, ↓fX10_fits_1, ↓fX10_fits_2, ↓fX10_fits_3, ↓fX10_fits_4, ↓fX10_fits_7, ↓fX10_fits_10, ↓fX10_fits_13, ↓fX10_fits_14, ↓fX10_fits_17, ↓fX10_fits_18, ↓fX10_fits_19, ↓fX10_fits_22, ↓fX10_fits_25, ↓fX10_fits_26, ↓fX10_fits_27, ↓fX10_fits_30, ↓fX10_fits_33, ↓fX10_fits_34, ↓fX10_fits_37, ↓fX10_fits_38, ↓fX10_fits_41, ↓fX10_fits_44, ↓fX10_fits_45, ↓fX10_fits_46, ↓fX10_fits_47, ↓fX10_fits_48, ↓fX10_fits_51, ↓fX10_fits_52, ↓fX10_fits_54, ↓fX10_fits_55, ↓fX10_fits_57, ↓fX10_fits_58, ↓fX10_fits_62, ↓fX10_fits_63, ↓fX10_fits_64, ↓fX10_fits_67, ↓fX10_fits_70, ↓fX10_fits_71, ↓fX10_fits_72, ↓fX10_fits_73, ↓fX10_fits_74, ↓fX10_fits_76, ↓fX10_fits_79, ↓fX10_fits_82, ↓fX10_fits_84, ↓fX10_fits_86, ↓fX10_fits_88, ↓fX10_fits_91, ↓fX10_fits_92, ↓fX10_fits_95, ↓fX10_fits_96, ↓fX10_fits_97, ↓fX10_fits_99, ↓fX10_fits_101, ↓fX10_fits_104, ↓fX10_fits_106, ↓fX10_fits_109, ↓fX10_fits_110, ↓fX10_fits_111, ↓fX10_fits_113, ↓fX10_fits_116, ↓fX10_fits_119, ↓fX10_fits_121, ↓fX10_fits_123, ↓fX10_fits_126, ↓fX10_fits_129, ↓fX10_fits_130, ↓fX10_fits_131, ↓fX10_fits_134, ↓fX10_fits_135, ↓fX10_fits_136, ↓fX10_fits_137, ↓fX10_fits_140, ↓fX10_fits_143, ↓fX10_fits_144, ↓fX10_fits_147, ↓fX10_fits_148, ↓fX10_fits_149, ↓fX10_fits_150, ↓fX10_fits_153, ↓fX10_fits_155, ↓fX10_fits_158, ↓fX10_fits_160, ↓fX10_fits_163, ↓fX10_fits_164, ↓fX10_fits_165, ↓fX10_fits_168, ↓fX10_fits_171, ↓fX10_fits_173, ↓m_isIn, bI_0, ↓eS, ↓eO, ↓m_is0, ↓eN, ↓lp, eb, n12, m1, c1, and_self, true_and, and_true, false_and, and_false, not_true_eq_false, not_false_eq_true, or_self, true_or, or_true, false_or, or_false, ite_not, Decidable.not_not, decide_eq_true_eq, Bool.not_true, Bool.not_false, Bool.false_eq_true, Bool.not_eq_true, n10, n20, n21, n30, n31, n32, n40, n41, n42, n43, ↓reduceIte]
          · rw [if_neg z1]
            have z2 : w = 2 := by omega
            have ib := fun Q => m_isBeside (L := L) (Q := Q) hm hs4 hl2 hW ha hA2
            refine ⟨G2, lk2, h20, fun Q => ?_⟩
            obtain ⟨x1, x2, lp⟩ := lp Q
            subst z2
            by_cases zt : tgtZ (ln o.toNat) (lv o.toNat) (σ s.toNat) = true
            · rw [bI_p zt] at ib ⊢
              simp (disch := first | assumption | exact c2_int _ | exact c2_ref _ | exact c2_jk | exact c2_null | omega | exact bI_r _ | exact bI_01 _) only [↓fX10_fits_0, ↓fX10_fits_1, ↓fX10_fits_2, ↓fX10_fits_3, ↓fX10_fits_4, ↓fX10_fits_7, ↓fX10_fits_10, ↓fX10_fits_13, ↓fX10_fits_14, ↓fX10_fits_17, ↓fX10_fits_18, ↓fX10_fits_19, ↓fX10_fits_22, ↓fX10_fits_25, ↓fX10_fits_26, ↓fX10_fits_27, ↓fX10_fits_30, ↓fX10_fits_33, ↓fX10_fits_34, ↓fX10_fits_37, ↓fX10_fits_38, ↓fX10_fits_41, ↓fX10_fits_44, ↓fX10_fits_45, ↓fX10_fits_46, ↓fX10_fits_47, ↓fX10_fits_48, ↓fX10_fits_51, ↓fX10_fits_52, ↓fX10_fits_54, ↓fX10_fits_55, ↓fX10_fits_57, ↓fX10_fits_58, ↓fX10_fits_62, ↓fX10_fits_63, ↓fX10_fits_64, ↓fX10_fits_67, ↓fX10_fits_70, ↓fX10_fits_71, ↓fX10_fits_72, ↓fX10_fits_73, ↓fX10_fits_74, ↓fX10_fits_76, ↓fX10_fits_79, ↓fX10_fits_82, ↓fX10_fits_84, ↓fX10_fits_86, ↓fX10_fits_88, ↓fX10_fits_91, ↓fX10_fits_92, ↓fX10_fits_95, ↓fX10_fits_96, ↓fX10_fits_97, ↓fX10_fits_99, ↓fX10_fits_101, ↓fX10_fits_104, ↓fX10_fits_106, ↓fX10_fits_109, ↓fX10_fits_110, ↓fX10_fits_111, ↓fX10_fits_113, ↓fX10_fits_116, ↓fX10_fits_119, ↓fX10_fits_121, ↓fX10_fits_123, ↓fX10_fits_126, ↓fX10_fits_129, ↓fX10_fits_130, ↓fX10_fits_131, ↓fX10_fits_134, ↓fX10_fits_135, ↓fX10_fits_136, ↓fX10_fits_137, ↓fX10_fits_140, ↓fX10_fits_143, ↓fX10_fits_144, ↓fX10_fits_147, ↓fX10_fits_148, ↓fX10_fits_149, ↓fX10_fits_150, ↓fX10_fits_153, ↓fX10_fits_155, ↓fX10_fits_158, ↓fX10_fits_160, ↓fX10_fits_163, ↓fX10_fits_164, ↓fX10_fits_165, ↓fX10_fits_168, ↓fX10_fits_171, ↓fX10_fits_173, ↓m_isIn, bI_0, ↓eS, ↓eO, ↓m_is0, ↓eN, ↓lp, eb, ↓ib, c1, and_self, true_and, and_true, false_and, and_false, not_true_eq_false, not_false_eq_true, or_self, true_or, or_true, false_or, or_false, ite_not, Decidable.not_not, decide_eq_true_eq, Bool.not_true, Bool.not_false, Bool.false_eq_true, Bool.not_eq_true, n10, n20, n21, n30, n31, n32, n40, n41, n42, n43, ↓reduceIte]
            · rw [bI_n zt] at ib ⊢
              simp (disch := first | assumption | exact c2_int _ | exact c2_ref _ | exact c2_jk | exact c2_null | omega | exact bI_r _ | exact bI_01 _) only [↓fX10_fits_0, ↓fX10_fits_1, ↓fX10_fits_2, ↓fX10_fits_3, ↓fX10_fits_4, ↓fX10_fits_7, ↓fX10_fits_10, ↓fX10_fits_13, ↓fX10_fits_14, ↓fX10_fits_17, ↓fX10_fits_18, ↓fX10_fits_19, ↓fX10_fits_22, ↓fX10_fits_25, ↓fX10_fits_26, ↓fX10_fits_27, ↓fX10_fits_30, ↓fX10_fits_33, ↓fX10_fits_34, ↓fX10_fits_37, ↓fX10_fits_38, ↓fX10_fits_41, ↓fX10_fits_44, ↓fX10_fits_45, ↓fX10_fits_46, ↓fX10_fits_47, ↓fX10_fits_48, ↓fX10_fits_51, ↓fX10_fits_52, ↓fX10_fits_54, ↓fX10_fits_55, ↓fX10_fits_57, ↓fX10_fits_58, ↓fX10_fits_62, ↓fX10_fits_63, ↓fX10_fits_64, ↓fX10_fits_67, ↓fX10_fits_70, ↓fX10_fits_71, ↓fX10_fits_72, ↓fX10_fits_73, ↓fX10_fits_74, ↓fX10_fits_76, ↓fX10_fits_79, ↓fX10_fits_82, ↓fX10_fits_84, ↓fX10_fits_86, ↓fX10_fits_88, ↓fX10_fits_91, ↓fX10_fits_92, ↓fX10_fits_95, ↓fX10_fits_96, ↓fX10_fits_97, ↓fX10_fits_99, ↓fX10_fits_101, ↓fX10_fits_104, ↓fX10_fits_106, ↓fX10_fits_109, ↓fX10_fits_110, ↓fX10_fits_111, ↓fX10_fits_113, ↓fX10_fits_116, ↓fX10_fits_119, ↓fX10_fits_121, ↓fX10_fits_123, ↓fX10_fits_126, ↓fX10_fits_129, ↓fX10_fits_130, ↓fX10_fits_131, ↓fX10_fits_134, ↓fX10_fits_135, ↓fX10_fits_136, ↓fX10_fits_137, ↓fX10_fits_140, ↓fX10_fits_143, ↓fX10_fits_144, ↓fX10_fits_147, ↓fX10_fits_148, ↓fX10_fits_149, ↓fX10_fits_150, ↓fX10_fits_153, ↓fX10_fits_155, ↓fX10_fits_158, ↓fX10_fits_160, ↓fX10_fits_163, ↓fX10_fits_164, ↓fX10_fits_165, ↓fX10_fits_168, ↓fX10_fits_171, ↓fX10_fits_173, ↓m_isIn, bI_0, ↓eS, ↓eO, ↓m_is0, ↓eN, ↓lp, eb, ↓ib, c1, and_self, true_and, and_true, false_and, and_false, not_true_eq_false, not_false_eq_true, or_self, true_or, or_true, false_or, or_false, ite_not, Decidable.not_not, decide_eq_true_eq, Bool.not_true, Bool.not_false, Bool.false_eq_true, Bool.not_eq_true, n10, n20, n21, n30, n31, n32, n40, n41, n42, n43, ↓reduceIte]
      · rw [if_neg (fun z => d z.2)]
        have eO := fun Q => m_isL0 (L := L) (Q := Q) hm hLM ho d
        exact ⟨iG G m 2, lkM_i, iG_0, fun Q => by simp (disch := first | assumption | exact c2_int _ | exact c2_ref _ | exact c2_jk | exact c2_null | omega | exact bI_r _ | exact bI_01 _) only [↓fX10_fits_0, ↓fX10_fits_1, ↓fX10_fits_2, ↓fX10_fits_3, ↓fX10_fits_4, ↓fX10_fits_7, ↓fX10_fits_10, ↓fX10_fits_13, ↓fX10_fits_14, ↓fX10_fits_17, ↓fX10_fits_18, ↓fX10_fits_19, ↓fX10_fits_22, ↓fX10_fits_25, ↓fX10_fits_26, ↓fX10_fits_27, ↓fX10_fits_30, ↓fX10_fits_33, ↓fX10_fits_34, ↓fX10_fits_37, ↓fX10_fits_38, ↓fX10_fits_41, ↓fX10_fits_44, ↓fX10_fits_45, ↓fX10_fits_46, ↓fX10_fits_47, ↓fX10_fits_48, ↓fX10_fits_51, ↓fX10_fits_52, ↓fX10_fits_54, ↓fX10_fits_55, ↓fX10_fits_57, ↓fX10_fits_58, ↓fX10_fits_60, ↓fX10_fits_62, ↓fX10_fits_63, ↓fX10_fits_64, ↓fX10_fits_67, ↓fX10_fits_70, ↓fX10_fits_71, ↓fX10_fits_72, ↓fX10_fits_73, ↓fX10_fits_74, ↓fX10_fits_76, ↓fX10_fits_79, ↓fX10_fits_82, ↓fX10_fits_84, ↓fX10_fits_86, ↓fX10_fits_88, ↓fX10_fits_91, ↓fX10_fits_92, ↓fX10_fits_95, ↓fX10_fits_96, ↓fX10_fits_97, ↓fX10_fits_99, ↓fX10_fits_101, ↓fX10_fits_104, ↓fX10_fits_106, ↓fX10_fits_109, ↓fX10_fits_110, ↓fX10_fits_111, ↓fX10_fits_113, ↓fX10_fits_116, ↓fX10_fits_119, ↓fX10_fits_121, ↓fX10_fits_123, ↓fX10_fits_126, ↓fX10_fits_129, ↓fX10_fits_130, ↓fX10_fits_131, ↓fX10_fits_134, ↓fX10_fits_135, ↓fX10_fits_136, ↓fX10_fits_137, ↓fX10_fits_140, ↓fX10_fits_143, ↓fX10_fits_144, ↓fX10_fits_147, ↓fX10_fits_148, ↓fX10_fits_149, ↓fX10_fits_150, ↓fX10_fits_153, ↓fX10_fits_155, ↓fX10_fits_158, ↓fX10_fits_160, ↓fX10_fits_163, ↓fX10_fits_164, ↓fX10_fits_165, ↓fX10_fits_168, ↓fX10_fits_171, ↓fX10_fits_173, ↓m_isIn, bI_0, ↓eS, ↓eO, ↓m_isN, c1, and_self, true_and, and_true, false_and, and_false, not_true_eq_false, not_false_eq_true, or_self, true_or, or_true, false_or, or_false, ite_not, Decidable.not_not, decide_eq_true_eq, Bool.not_true, Bool.not_false, Bool.false_eq_true, Bool.not_eq_true, n10, n20, n21, n30, n31, n32, n40, n41, n42, n43, ↓reduceIte]⟩
    · rw [if_neg (fun z => c z.1)]
      have eS := fun Q => m_isS0 (L := L) (Q := Q) hM hs c
      exact ⟨iG G m 2, lkM_i, iG_0, fun Q => by simp (disch := first | assumption | exact c2_int _ | exact c2_ref _ | exact c2_jk | exact c2_null | omega | exact bI_r _ | exact bI_01 _) only [↓fX10_fits_0, ↓fX10_fits_1, ↓fX10_fits_2, ↓fX10_fits_3, ↓fX10_fits_4, ↓fX10_fits_7, ↓fX10_fits_10, ↓fX10_fits_13, ↓fX10_fits_14, ↓fX10_fits_17, ↓fX10_fits_18, ↓fX10_fits_19, ↓fX10_fits_22, ↓fX10_fits_25, ↓fX10_fits_26, ↓fX10_fits_27, ↓fX10_fits_30, ↓fX10_fits_33, ↓fX10_fits_34, ↓fX10_fits_37, ↓fX10_fits_38, ↓fX10_fits_41, ↓fX10_fits_44, ↓fX10_fits_45, ↓fX10_fits_46, ↓fX10_fits_47, ↓fX10_fits_48, ↓fX10_fits_51, ↓fX10_fits_52, ↓fX10_fits_54, ↓fX10_fits_55, ↓fX10_fits_57, ↓fX10_fits_58, ↓fX10_fits_60, ↓fX10_fits_62, ↓fX10_fits_63, ↓fX10_fits_64, ↓fX10_fits_67, ↓fX10_fits_70, ↓fX10_fits_71, ↓fX10_fits_72, ↓fX10_fits_73, ↓fX10_fits_74, ↓fX10_fits_76, ↓fX10_fits_79, ↓fX10_fits_82, ↓fX10_fits_84, ↓fX10_fits_86, ↓fX10_fits_88, ↓fX10_fits_91, ↓fX10_fits_92, ↓fX10_fits_95, ↓fX10_fits_96, ↓fX10_fits_97, ↓fX10_fits_99, ↓fX10_fits_101, ↓fX10_fits_104, ↓fX10_fits_106, ↓fX10_fits_109, ↓fX10_fits_110, ↓fX10_fits_111, ↓fX10_fits_113, ↓fX10_fits_116, ↓fX10_fits_119, ↓fX10_fits_121, ↓fX10_fits_123, ↓fX10_fits_126, ↓fX10_fits_129, ↓fX10_fits_130, ↓fX10_fits_131, ↓fX10_fits_134, ↓fX10_fits_135, ↓fX10_fits_136, ↓fX10_fits_137, ↓fX10_fits_140, ↓fX10_fits_143, ↓fX10_fits_144, ↓fX10_fits_147, ↓fX10_fits_148, ↓fX10_fits_149, ↓fX10_fits_150, ↓fX10_fits_153, ↓fX10_fits_155, ↓fX10_fits_158, ↓fX10_fits_160, ↓fX10_fits_163, ↓fX10_fits_164, ↓fX10_fits_165, ↓fX10_fits_168, ↓fX10_fits_171, ↓fX10_fits_173, ↓m_isIn, bI_0, ↓eS, ↓m_isN, c1, and_self, true_and, and_true, false_and, and_false, not_true_eq_false, not_false_eq_true, or_self, true_or, or_true, false_or, or_false, ite_not, Decidable.not_not, decide_eq_true_eq, Bool.not_true, Bool.not_false, Bool.false_eq_true, Bool.not_eq_true, n10, n20, n21, n30, n31, n32, n40, n41, n42, n43, ↓reduceIte]⟩
end BM
