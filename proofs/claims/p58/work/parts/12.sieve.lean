/-! Functional part: a sieve of the class, what its methods tell. -/
def shS (E : AE) (r : Nat → Nat → Option Nat) (S : Nat) : Prop := kd E S = 14 ∧ (kd E (S + 1) = 1 ∧ kd E (S + 2) = 1 ∧ kd E (S + 3) = 1 ∧ kd E (S + 4) = 1 ∧ kd E (S + 5) = 1) ∧ (le E (S + 1) = 12 ∧ le E (S + 2) = 600 ∧ le E (S + 3) = 601 ∧ le E (S + 4) = 601 ∧ le E (S + 5) = 600) ∧ r S 5 = some (S + 1) ∧ r S 9 = some (S + 2) ∧ r S 10 = some (S + 3) ∧ r S 11 = some (S + 4) ∧ r S 12 = some (S + 5)
def rgS (G : Nat → Nat → Int) (S : Nat) : Prop := (0 ≤ G S 0 ∧ G S 0 ≤ 5) ∧ (0 ≤ G S 1 ∧ G S 1 ≤ 999) ∧ (0 ≤ G S 2 ∧ G S 2 ≤ 99) ∧ (0 ≤ G S 3 ∧ G S 3 ≤ 600) ∧ (0 ≤ G S 4 ∧ G S 4 ≤ 60) ∧ (0 ≤ G S 6 ∧ G S 6 ≤ 600) ∧ (0 ≤ G S 7 ∧ G S 7 ≤ 1000000) ∧ (0 ≤ G S 8 ∧ G S 8 ≤ 1000000) ∧ (0 ≤ G S 13 ∧ G S 13 ≤ 600) ∧ (∀ i, 0 ≤ G (S + 1) i ∧ G (S + 1) i ≤ 999) ∧ (∀ i, 0 ≤ G (S + 2) i ∧ G (S + 2) i ≤ 2147483647) ∧ (∀ i, 0 ≤ G (S + 3) i ∧ G (S + 3) i ≤ 100000) ∧ (∀ i, 0 ≤ G (S + 4) i ∧ G (S + 4) i ≤ 1000000) ∧ (∀ i, 0 ≤ G (S + 5) i ∧ G (S + 5) i ≤ 100000)
/-- the number at a place; the gap there; which of the first numbers; the event that struck it -/
def nA (G : Nat → Nat → Int) (S : Nat) (p : Int) : Int := if 1 ≤ p ∧ p ≤ G S 13 then G (S + 5) (p - 1).toNat else -1
def gA (G : Nat → Nat → Int) (S : Nat) (p : Int) : Int := if 1 ≤ p ∧ p ≤ G S 13 - 1 then nA G S (p + 1) - nA G S p else -1
def iX (G : Nat → Nat → Int) (S : Nat) (x : Int) : Int := if G S 2 < 1 ∨ x < G S 1 then -1 else if G S 3 ≤ (x - G S 1) / G S 2 ∨ ¬ (x - G S 1) % G S 2 = 0 then -1 else (x - G S 1) / G S 2
def sK (G : Nat → Nat → Int) (S : Nat) (i : Int) : Int := if 0 ≤ i ∧ i < 600 then G (S + 2) i.toNat else -1
def hX (G : Nat → Nat → Int) (S : Nat) (i : Int) : Bool := decide (sK G S i = 2147483647)
def hasX (G : Nat → Nat → Int) (S : Nat) (x : Int) : Bool := hX G S (iX G S x)
def rm (n d : Int) : Int := if 0 < d then n % d else -1
section BR
variable {G : Nat → Nat → Int} {S : Nat}
theorem nA_b (hg : rgS G S) (p : Int) : -1 ≤ nA G S p ∧ nA G S p ≤ 100000 := by
  have := hg.2.2.2.2.2.2.2.2.2.2.2.2.2 (p - 1).toNat
  unfold nA
  split <;> omega
theorem rN1 {p : Int} (hg : rgS G S) : I32 (nA G S p) := by
  have := nA_b hg p
  exact ⟨by omega, by omega⟩
theorem gA_b (hg : rgS G S) (p : Int) : -200000 ≤ gA G S p ∧ gA G S p ≤ 200000 := by
  have h1 := nA_b hg p
  have h2 := nA_b hg (p + 1)
  unfold gA
  split <;> omega
theorem rN2 {p : Int} (hg : rgS G S) : I32 (gA G S p) := by
  have := gA_b hg p
  exact ⟨by omega, by omega⟩
theorem sK_b (hg : rgS G S) (i : Int) : -1 ≤ sK G S i ∧ sK G S i ≤ 2147483647 := by
  have := hg.2.2.2.2.2.2.2.2.2.2.1 i.toNat
  unfold sK
  split <;> omega
theorem rN3 {i : Int} (hg : rgS G S) : I32 (sK G S i) := by
  have := sK_b hg i
  exact ⟨by omega, by omega⟩
theorem iX_b (hg : rgS G S) (x : Int) : -1 ≤ iX G S x ∧ iX G S x < 600 := by
  obtain ⟨g0, g1, g2, g3, -⟩ := hg
  unfold iX
  split
  · omega
  · rename_i h1
    split
    · omega
    · rename_i h2
      have : 0 ≤ (x - G S 1) / G S 2 := Int.ediv_nonneg (by omega) (by omega)
      omega
theorem rN4 {x : Int} (hg : rgS G S) : I32 (iX G S x) := by
  have := iX_b hg x
  exact ⟨by omega, by omega⟩
end BR
section BS
variable {E : AE} {G L : Nat → Nat → Int} {r : Nat → Nat → Option Nat} {h : AH} {Q : AH → Value → Prop} {S : Nat} {i v n p x k : Int}
theorem cAt_row (hs : shS E r S) : cAt E G (S + 5) (p - 1) = if 1 ≤ p ∧ p ≤ 600 then G (S + 5) (p - 1).toNat else -1 := by
  obtain ⟨s0, ⟨s1, s2, s3, s4, s5⟩, ⟨l1, l2, l3, l4, l5⟩, r1, r2, r3, r4, r5⟩ := id hs
  unfold cAt
  rw [l5]
  by_cases h1 : 1 ≤ p ∧ p ≤ 600
  · rw [if_pos h1, if_pos (by omega)]
  · rw [if_neg h1, if_neg (by omega)]
theorem cAt_st (hs : shS E r S) : cAt E G (S + 2) i = sK G S i := by
  obtain ⟨s0, ⟨s1, s2, s3, s4, s5⟩, ⟨l1, l2, l3, l4, l5⟩, r1, r2, r3, r4, r5⟩ := id hs
  unfold cAt sK
  rw [l2]
  rfl
theorem c7_numberAt (hs : shS E r S) (hg : rgS G S) (hp : I32 p) : RK MX7_numberAt 0 [.ref S, .int (zi p)] [] (0, 0) (E, zg G, zk L, r) Q = Q (E, zg G, zk L, r) (.int (zi (nA G S p))) := by
  obtain ⟨s0, ⟨s1, s2, s3, s4, s5⟩, ⟨l1, l2, l3, l4, l5⟩, r1, r2, r3, r4, r5⟩ := id hs
  obtain ⟨g0, g1, g2, g3, g4, g6, g7, g8, g13, ga1, ga2, ga3, ga4, ga5⟩ := id hg
  by_cases h1 : 1 ≤ p ∧ p ≤ G S 13
  · simp (disch := first | assumption | exact c2_int _ | exact c2_ref _ | exact c2_jk | exact c2_null | omega | (apply rN1; assumption) | (apply rN2; assumption) | (apply rN3; assumption) | (apply rN4; assumption) | exact bI_r _ | exact bI_01 _) only [↓fX7_numberAt_0, ↓fX7_numberAt_1, ↓fX7_numberAt_2, ↓fX7_numberAt_3, ↓fX7_numberAt_6, ↓fX7_numberAt_9, ↓fX7_numberAt_12, ↓fX7_numberAt_13, ↓fX7_numberAt_16, ↓fX7_numberAt_17, ↓fX7_numberAt_18, ↓fX7_numberAt_19, ↓fX7_numberAt_22, ↓fX7_numberAt_25, ↓fX7_numberAt_26, ↓c9_within, ↓c9_at, bI_0, h1, and_self, true_and, and_true, false_and, and_false, not_true_eq_false, not_false_eq_true, or_self, true_or, or_true, false_or, or_false, ite_not, Decidable.not_not, decide_eq_true_eq, Bool.not_true, Bool.not_false, Bool.false_eq_true, Bool.not_eq_true, n10, n20, n21, n30, n31, n32, n40, n41, n42, n43, ↓reduceIte, cAt_row hs]
    unfold nA
    rw [if_pos h1, if_pos (by omega)]
  · simp (disch := first | assumption | exact c2_int _ | exact c2_ref _ | exact c2_jk | exact c2_null | omega | (apply rN1; assumption) | (apply rN2; assumption) | (apply rN3; assumption) | (apply rN4; assumption) | exact bI_r _ | exact bI_01 _) only [↓fX7_numberAt_0, ↓fX7_numberAt_1, ↓fX7_numberAt_2, ↓fX7_numberAt_3, ↓fX7_numberAt_6, ↓fX7_numberAt_9, ↓fX7_numberAt_12, ↓fX7_numberAt_13, ↓fX7_numberAt_16, ↓fX7_numberAt_17, ↓fX7_numberAt_18, ↓fX7_numberAt_19, ↓fX7_numberAt_22, ↓fX7_numberAt_25, ↓fX7_numberAt_26, ↓c9_within, bI_0, h1, and_self, true_and, and_true, false_and, and_false, not_true_eq_false, not_false_eq_true, or_self, true_or, or_true, false_or, or_false, ite_not, Decidable.not_not, decide_eq_true_eq, Bool.not_true, Bool.not_false, Bool.false_eq_true, Bool.not_eq_true, n10, n20, n21, n30, n31, n32, n40, n41, n42, n43, ↓reduceIte]
    unfold nA
    rw [if_neg h1]
theorem c7_isHere (hs : shS E r S) (hg : rgS G S) (hp : I32 i) : RK MX7_isHere 0 [.ref S, .int (zi i)] [] (0, 0) (E, zg G, zk L, r) Q = Q (E, zg G, zk L, r) (.int (zi (bI (hX G S i = true)))) := by
  obtain ⟨s0, ⟨s1, s2, s3, s4, s5⟩, ⟨l1, l2, l3, l4, l5⟩, r1, r2, r3, r4, r5⟩ := id hs
  simp (disch := first | assumption | exact c2_int _ | exact c2_ref _ | exact c2_jk | exact c2_null | omega | (apply rN1; assumption) | (apply rN2; assumption) | (apply rN3; assumption) | (apply rN4; assumption) | exact bI_r _ | exact bI_01 _) only [↓fX7_isHere_0, ↓fX7_isHere_1, ↓fX7_isHere_4, ↓fX7_isHere_5, ↓fX7_isHere_8, ↓fX7_isHere_10, ↓fX7_isHere_13, ↓fX7_isHere_14, ↓fX7_isHere_17, ↓fX7_isHere_18, ↓c9_at, cAt_st hs]
  unfold hX
  simp only [decide_eq_true_eq]
  exact Q_bI Q _
theorem c7_firstNumber (hs : shS E r S) : RK MX7_firstNumber 0 [.ref S, .int (zi i)] [] (0, 0) (E, zg G, zk L, r) Q = Q (E, zg G, zk L, r) (.int (zi (G S 1 + G S 2 * i))) := by
  obtain ⟨s0, ⟨s1, s2, s3, s4, s5⟩, ⟨l1, l2, l3, l4, l5⟩, r1, r2, r3, r4, r5⟩ := id hs
  simp (disch := first | assumption | exact c2_int _ | exact c2_ref _ | exact c2_jk | exact c2_null | omega | (apply rN1; assumption) | (apply rN2; assumption) | (apply rN3; assumption) | (apply rN4; assumption) | exact bI_r _ | exact bI_01 _) only [↓fX7_firstNumber_0, ↓fX7_firstNumber_1, ↓fX7_firstNumber_4, ↓fX7_firstNumber_5, ↓fX7_firstNumber_8, ↓fX7_firstNumber_9, ↓fX7_firstNumber_10, ↓fX7_firstNumber_11]
theorem c7_indexOf (hs : shS E r S) (hg : rgS G S) (hx : -1000000000000 ≤ x ∧ x ≤ 1000000000000) : RK MX7_indexOf 0 [.ref S, .long (zl x), jk, jk, jk] [] (0, 0) (E, zg G, zk L, r) Q = Q (E, zg G, zk L, r) (.int (zi (iX G S x))) := by
  obtain ⟨s0, ⟨s1, s2, s3, s4, s5⟩, ⟨l1, l2, l3, l4, l5⟩, r1, r2, r3, r4, r5⟩ := id hs
  obtain ⟨g0, g1, g2, g3, g4, g6, g7, g8, g13, ga1, ga2, ga3, ga4, ga5⟩ := id hg
  unfold iX
  by_cases h1 : G S 2 < 1
  · simp (disch := first | assumption | exact c2_int _ | exact c2_ref _ | exact c2_jk | exact c2_null | omega | (apply rN1; assumption) | (apply rN2; assumption) | (apply rN3; assumption) | (apply rN4; assumption) | exact bI_r _ | exact bI_01 _) only [↓fX7_indexOf_0, ↓fX7_indexOf_1, ↓fX7_indexOf_4, ↓fX7_indexOf_5, ↓fX7_indexOf_8, ↓fX7_indexOf_9, ↓fX7_indexOf_10, ↓fX7_indexOf_13, ↓fX7_indexOf_14, ↓fX7_indexOf_18, ↓fX7_indexOf_19, ↓fX7_indexOf_20, ↓fX7_indexOf_21, ↓fX7_indexOf_22, ↓fX7_indexOf_25, ↓fX7_indexOf_26, ↓fX7_indexOf_27, ↓fX7_indexOf_28, ↓fX7_indexOf_31, ↓fX7_indexOf_32, ↓fX7_indexOf_33, ↓fX7_indexOf_34, ↓fX7_indexOf_35, ↓fX7_indexOf_36, ↓fX7_indexOf_39, ↓fX7_indexOf_40, ↓fX7_indexOf_44, ↓fX7_indexOf_45, ↓fX7_indexOf_46, ↓fX7_indexOf_49, ↓fX7_indexOf_50, ↓fX7_indexOf_51, ↓fX7_indexOf_52, ↓fX7_indexOf_55, ↓fX7_indexOf_56, ↓fX7_indexOf_57, ↓fX7_indexOf_58, ↓fX7_indexOf_62, ↓fX7_indexOf_63, ↓fX7_indexOf_64, ↓fX7_indexOf_65, ↓fX7_indexOf_66, h1, and_self, true_and, and_true, false_and, and_false, not_true_eq_false, not_false_eq_true, or_self, true_or, or_true, false_or, or_false, ite_not, Decidable.not_not, decide_eq_true_eq, Bool.not_true, Bool.not_false, Bool.false_eq_true, Bool.not_eq_true, n10, n20, n21, n30, n31, n32, n40, n41, n42, n43, ↓reduceIte]
  · by_cases h2 : x < G S 1
    · simp (disch := first | assumption | exact c2_int _ | exact c2_ref _ | exact c2_jk | exact c2_null | omega | (apply rN1; assumption) | (apply rN2; assumption) | (apply rN3; assumption) | (apply rN4; assumption) | exact bI_r _ | exact bI_01 _) only [↓fX7_indexOf_0, ↓fX7_indexOf_1, ↓fX7_indexOf_4, ↓fX7_indexOf_5, ↓fX7_indexOf_8, ↓fX7_indexOf_9, ↓fX7_indexOf_10, ↓fX7_indexOf_13, ↓fX7_indexOf_14, ↓fX7_indexOf_18, ↓fX7_indexOf_19, ↓fX7_indexOf_20, ↓fX7_indexOf_21, ↓fX7_indexOf_22, ↓fX7_indexOf_25, ↓fX7_indexOf_26, ↓fX7_indexOf_27, ↓fX7_indexOf_28, ↓fX7_indexOf_31, ↓fX7_indexOf_32, ↓fX7_indexOf_33, ↓fX7_indexOf_34, ↓fX7_indexOf_35, ↓fX7_indexOf_36, ↓fX7_indexOf_39, ↓fX7_indexOf_40, ↓fX7_indexOf_44, ↓fX7_indexOf_45, ↓fX7_indexOf_46, ↓fX7_indexOf_49, ↓fX7_indexOf_50, ↓fX7_indexOf_51, ↓fX7_indexOf_52, ↓fX7_indexOf_55, ↓fX7_indexOf_56, ↓fX7_indexOf_57, ↓fX7_indexOf_58, ↓fX7_indexOf_62, ↓fX7_indexOf_63, ↓fX7_indexOf_64, ↓fX7_indexOf_65, ↓fX7_indexOf_66, h1, h2, and_self, true_and, and_true, false_and, and_false, not_true_eq_false, not_false_eq_true, or_self, true_or, or_true, false_or, or_false, ite_not, Decidable.not_not, decide_eq_true_eq, Bool.not_true, Bool.not_false, Bool.false_eq_true, Bool.not_eq_true, n10, n20, n21, n30, n31, n32, n40, n41, n42, n43, ↓reduceIte]
    · have hd : 0 ≤ (x - G S 1) / G S 2 := Int.ediv_nonneg (by omega) (by omega)
      have hd2 : (x - G S 1) / G S 2 ≤ x - G S 1 := Int.ediv_le_self _ (by omega)
      have hm : 0 ≤ (x - G S 1) % G S 2 := Int.emod_nonneg _ (by omega)
      have hm2 : (x - G S 1) % G S 2 < G S 2 := Int.emod_lt_of_pos _ (by omega)
      by_cases h3 : (x - G S 1) / G S 2 < G S 3
      · by_cases h4 : (x - G S 1) % G S 2 = 0
        · simp (disch := first | assumption | exact c2_int _ | exact c2_ref _ | exact c2_jk | exact c2_null | omega | (apply rN1; assumption) | (apply rN2; assumption) | (apply rN3; assumption) | (apply rN4; assumption) | exact bI_r _ | exact bI_01 _) only [↓fX7_indexOf_0, ↓fX7_indexOf_1, ↓fX7_indexOf_4, ↓fX7_indexOf_5, ↓fX7_indexOf_8, ↓fX7_indexOf_9, ↓fX7_indexOf_10, ↓fX7_indexOf_13, ↓fX7_indexOf_14, ↓fX7_indexOf_18, ↓fX7_indexOf_19, ↓fX7_indexOf_20, ↓fX7_indexOf_21, ↓fX7_indexOf_22, ↓fX7_indexOf_25, ↓fX7_indexOf_26, ↓fX7_indexOf_27, ↓fX7_indexOf_28, ↓fX7_indexOf_31, ↓fX7_indexOf_32, ↓fX7_indexOf_33, ↓fX7_indexOf_34, ↓fX7_indexOf_35, ↓fX7_indexOf_36, ↓fX7_indexOf_39, ↓fX7_indexOf_40, ↓fX7_indexOf_44, ↓fX7_indexOf_45, ↓fX7_indexOf_46, ↓fX7_indexOf_49, ↓fX7_indexOf_50, ↓fX7_indexOf_51, ↓fX7_indexOf_52, ↓fX7_indexOf_55, ↓fX7_indexOf_56, ↓fX7_indexOf_57, ↓fX7_indexOf_58, ↓fX7_indexOf_62, ↓fX7_indexOf_63, ↓fX7_indexOf_64, ↓fX7_indexOf_65, ↓fX7_indexOf_66, h1, h2, h3, h4, and_self, true_and, and_true, false_and, and_false, not_true_eq_false, not_false_eq_true, or_self, true_or, or_true, false_or, or_false, ite_not, Decidable.not_not, decide_eq_true_eq, Bool.not_true, Bool.not_false, Bool.false_eq_true, Bool.not_eq_true, n10, n20, n21, n30, n31, n32, n40, n41, n42, n43, ↓reduceIte]
          rw [if_neg (by omega)]
        · simp (disch := first | assumption | exact c2_int _ | exact c2_ref _ | exact c2_jk | exact c2_null | omega | (apply rN1; assumption) | (apply rN2; assumption) | (apply rN3; assumption) | (apply rN4; assumption) | exact bI_r _ | exact bI_01 _) only [↓fX7_indexOf_0, ↓fX7_indexOf_1, ↓fX7_indexOf_4, ↓fX7_indexOf_5, ↓fX7_indexOf_8, ↓fX7_indexOf_9, ↓fX7_indexOf_10, ↓fX7_indexOf_13, ↓fX7_indexOf_14, ↓fX7_indexOf_18, ↓fX7_indexOf_19, ↓fX7_indexOf_20, ↓fX7_indexOf_21, ↓fX7_indexOf_22, ↓fX7_indexOf_25, ↓fX7_indexOf_26, ↓fX7_indexOf_27, ↓fX7_indexOf_28, ↓fX7_indexOf_31, ↓fX7_indexOf_32, ↓fX7_indexOf_33, ↓fX7_indexOf_34, ↓fX7_indexOf_35, ↓fX7_indexOf_36, ↓fX7_indexOf_39, ↓fX7_indexOf_40, ↓fX7_indexOf_44, ↓fX7_indexOf_45, ↓fX7_indexOf_46, ↓fX7_indexOf_49, ↓fX7_indexOf_50, ↓fX7_indexOf_51, ↓fX7_indexOf_52, ↓fX7_indexOf_55, ↓fX7_indexOf_56, ↓fX7_indexOf_57, ↓fX7_indexOf_58, ↓fX7_indexOf_62, ↓fX7_indexOf_63, ↓fX7_indexOf_64, ↓fX7_indexOf_65, ↓fX7_indexOf_66, h1, h2, h3, h4, and_self, true_and, and_true, false_and, and_false, not_true_eq_false, not_false_eq_true, or_self, true_or, or_true, false_or, or_false, ite_not, Decidable.not_not, decide_eq_true_eq, Bool.not_true, Bool.not_false, Bool.false_eq_true, Bool.not_eq_true, n10, n20, n21, n30, n31, n32, n40, n41, n42, n43, ↓reduceIte]
      · simp (disch := first | assumption | exact c2_int _ | exact c2_ref _ | exact c2_jk | exact c2_null | omega | (apply rN1; assumption) | (apply rN2; assumption) | (apply rN3; assumption) | (apply rN4; assumption) | exact bI_r _ | exact bI_01 _) only [↓fX7_indexOf_0, ↓fX7_indexOf_1, ↓fX7_indexOf_4, ↓fX7_indexOf_5, ↓fX7_indexOf_8, ↓fX7_indexOf_9, ↓fX7_indexOf_10, ↓fX7_indexOf_13, ↓fX7_indexOf_14, ↓fX7_indexOf_18, ↓fX7_indexOf_19, ↓fX7_indexOf_20, ↓fX7_indexOf_21, ↓fX7_indexOf_22, ↓fX7_indexOf_25, ↓fX7_indexOf_26, ↓fX7_indexOf_27, ↓fX7_indexOf_28, ↓fX7_indexOf_31, ↓fX7_indexOf_32, ↓fX7_indexOf_33, ↓fX7_indexOf_34, ↓fX7_indexOf_35, ↓fX7_indexOf_36, ↓fX7_indexOf_39, ↓fX7_indexOf_40, ↓fX7_indexOf_44, ↓fX7_indexOf_45, ↓fX7_indexOf_46, ↓fX7_indexOf_49, ↓fX7_indexOf_50, ↓fX7_indexOf_51, ↓fX7_indexOf_52, ↓fX7_indexOf_55, ↓fX7_indexOf_56, ↓fX7_indexOf_57, ↓fX7_indexOf_58, ↓fX7_indexOf_62, ↓fX7_indexOf_63, ↓fX7_indexOf_64, ↓fX7_indexOf_65, ↓fX7_indexOf_66, h1, h2, h3, and_self, true_and, and_true, false_and, and_false, not_true_eq_false, not_false_eq_true, or_self, true_or, or_true, false_or, or_false, ite_not, Decidable.not_not, decide_eq_true_eq, Bool.not_true, Bool.not_false, Bool.false_eq_true, Bool.not_eq_true, n10, n20, n21, n30, n31, n32, n40, n41, n42, n43, ↓reduceIte]
        rw [if_pos (by omega)]
theorem c7_has (hs : shS E r S) (hg : rgS G S) (hx : -1000000000000 ≤ x ∧ x ≤ 1000000000000) : RK MX7_has 0 [.ref S, .long (zl x), jk] [] (0, 0) (E, zg G, zk L, r) Q = Q (E, zg G, zk L, r) (.int (zi (bI (hasX G S x = true)))) := by
  obtain ⟨s0, ⟨s1, s2, s3, s4, s5⟩, ⟨l1, l2, l3, l4, l5⟩, r1, r2, r3, r4, r5⟩ := id hs
  simp (disch := first | assumption | exact c2_int _ | exact c2_ref _ | exact c2_jk | exact c2_null | omega | (apply rN1; assumption) | (apply rN2; assumption) | (apply rN3; assumption) | (apply rN4; assumption) | exact bI_r _ | exact bI_01 _) only [↓fX7_has_0, ↓fX7_has_1, ↓fX7_has_2, ↓fX7_has_3, ↓fX7_has_6, ↓fX7_has_9, ↓c7_indexOf, ↓c7_isHere, bI_01]
  rfl
/-- count < size and at(row, count) <= x -/
def cuL (A : Int → Int) (n x : Int) : Nat → Int → Int
  | 0, c => c
  | k + 1, c => if c < n ∧ A (c + 1) ≤ x then cuL A n x k (c + 1) else c
theorem c7_countUpTo_loop (hs : shS E r S) (hg : rgS G S) (hx : I32 x) : ∀ (k : Nat) (c : Int), G S 13 - c ≤ k → 0 ≤ c → c + k ≤ 100000 →
    RK MX7_countUpTo 2 [.ref S, .int (zi x), .int (zi c)] [] (0, 0) (E, zg G, zk L, r) Q = Q (E, zg G, zk L, r) (.int (zi (cuL (nA G S) (G S 13) x k c))) := by
  obtain ⟨s0, ⟨s1, s2, s3, s4, s5⟩, ⟨l1, l2, l3, l4, l5⟩, r1, r2, r3, r4, r5⟩ := id hs
  obtain ⟨g0, g1, g2, g3, g4, g6, g7, g8, g13, ga1, ga2, ga3, ga4, ga5⟩ := id hg
  intro k
  induction k with
  | zero =>
    intro c h1 h2 h3
    have h4 : ¬ c < G S 13 := by omega
    simp (disch := first | assumption | exact c2_int _ | exact c2_ref _ | exact c2_jk | exact c2_null | omega | (apply rN1; assumption) | (apply rN2; assumption) | (apply rN3; assumption) | (apply rN4; assumption) | exact bI_r _ | exact bI_01 _) only [↓fX7_countUpTo_0, ↓fX7_countUpTo_1, ↓fX7_countUpTo_2, ↓fX7_countUpTo_3, ↓fX7_countUpTo_4, ↓fX7_countUpTo_7, ↓fX7_countUpTo_10, ↓fX7_countUpTo_11, ↓fX7_countUpTo_14, ↓fX7_countUpTo_15, ↓fX7_countUpTo_18, ↓fX7_countUpTo_19, ↓fX7_countUpTo_22, ↓fX7_countUpTo_25, ↓fX7_countUpTo_28, ↓fX7_countUpTo_29, h4, and_self, true_and, and_true, false_and, and_false, not_true_eq_false, not_false_eq_true, or_self, true_or, or_true, false_or, or_false, ite_not, Decidable.not_not, decide_eq_true_eq, Bool.not_true, Bool.not_false, Bool.false_eq_true, Bool.not_eq_true, n10, n20, n21, n30, n31, n32, n40, n41, n42, n43, ↓reduceIte, cuL]
  | succ k ih =>
    intro c h1 h2 h3
    by_cases h4 : c < G S 13
    · have e1 : nA G S (c + 1) = cAt E G (S + 5) c := by
        have := cAt_row (G := G) (p := c + 1) hs
        rw [Int.add_sub_cancel] at this
        rw [this, if_pos (by omega)]
        unfold nA
        rw [if_pos (by omega), Int.add_sub_cancel]
      have e2 := rN1 (p := c + 1) hg
      rw [e1] at e2
      rw [fX7_countUpTo_2]
      simp (disch := first | assumption | exact c2_int _ | exact c2_ref _ | exact c2_jk | exact c2_null | omega | (apply rN1; assumption) | (apply rN2; assumption) | (apply rN3; assumption) | (apply rN4; assumption) | exact bI_r _ | exact bI_01 _) only [↓fX7_countUpTo_0, ↓fX7_countUpTo_1, ↓fX7_countUpTo_3, ↓fX7_countUpTo_4, ↓fX7_countUpTo_7, ↓fX7_countUpTo_10, ↓fX7_countUpTo_11, ↓fX7_countUpTo_14, ↓fX7_countUpTo_15, ↓fX7_countUpTo_18, ↓fX7_countUpTo_19, ↓fX7_countUpTo_22, ↓fX7_countUpTo_25, ↓fX7_countUpTo_28, ↓fX7_countUpTo_29, ↓c9_at, ↓ih, h4, e1, and_self, true_and, and_true, false_and, and_false, not_true_eq_false, not_false_eq_true, or_self, true_or, or_true, false_or, or_false, ite_not, Decidable.not_not, decide_eq_true_eq, Bool.not_true, Bool.not_false, Bool.false_eq_true, Bool.not_eq_true, n10, n20, n21, n30, n31, n32, n40, n41, n42, n43, ↓reduceIte, cuL]
      split <;> rfl
    · simp (disch := first | assumption | exact c2_int _ | exact c2_ref _ | exact c2_jk | exact c2_null | omega | (apply rN1; assumption) | (apply rN2; assumption) | (apply rN3; assumption) | (apply rN4; assumption) | exact bI_r _ | exact bI_01 _) only [↓fX7_countUpTo_0, ↓fX7_countUpTo_1, ↓fX7_countUpTo_2, ↓fX7_countUpTo_3, ↓fX7_countUpTo_4, ↓fX7_countUpTo_7, ↓fX7_countUpTo_10, ↓fX7_countUpTo_11, ↓fX7_countUpTo_14, ↓fX7_countUpTo_15, ↓fX7_countUpTo_18, ↓fX7_countUpTo_19, ↓fX7_countUpTo_22, ↓fX7_countUpTo_25, ↓fX7_countUpTo_28, ↓fX7_countUpTo_29, h4, and_self, true_and, and_true, false_and, and_false, not_true_eq_false, not_false_eq_true, or_self, true_or, or_true, false_or, or_false, ite_not, Decidable.not_not, decide_eq_true_eq, Bool.not_true, Bool.not_false, Bool.false_eq_true, Bool.not_eq_true, n10, n20, n21, n30, n31, n32, n40, n41, n42, n43, ↓reduceIte, cuL]
theorem c7_countUpTo (hs : shS E r S) (hg : rgS G S) (hx : I32 x) : RK MX7_countUpTo 0 [.ref S, .int (zi x), jk] [] (0, 0) (E, zg G, zk L, r) Q = Q (E, zg G, zk L, r) (.int (zi (cuL (nA G S) (G S 13) x 600 0))) := by
  obtain ⟨g0, g1, g2, g3, g4, g6, g7, g8, g13, ga1, ga2, ga3, ga4, ga5⟩ := id hg
  rw [fX7_countUpTo_0, fX7_countUpTo_1 (c2_int _)]
  exact c7_countUpTo_loop hs hg hx 600 0 (by omega) (by omega) (by omega)
end BS
