/-! Functional part: ranges, small helpers, the guarded steps of the class. -/
abbrev I32 (x : Int) : Prop := -2147483648 ≤ x ∧ x < 2147483648
abbrev I64 (x : Int) : Prop := -9223372036854775808 ≤ x ∧ x < 9223372036854775808
def bI (c : Prop) [Decidable c] : Int := if c then 1 else 0
theorem bI_01 (c : Prop) [Decidable c] : bI c = 0 ∨ bI c = 1 := by unfold bI; split <;> simp
theorem bI_r (c : Prop) [Decidable c] : -2147483648 ≤ bI c ∧ bI c < 2147483648 := by unfold bI; split <;> decide
theorem bI_0 (c : Prop) [Decidable c] : (bI c = 0) = ¬ c := by unfold bI; split <;> simp [*]
theorem bI_p {c : Prop} [Decidable c] (h : c) : bI c = 1 := if_pos h
theorem bI_n {c : Prop} [Decidable c] (h : ¬ c) : bI c = 0 := if_neg h
theorem Q_ite {α : Type} {c : Prop} [Decidable c] (f : α → Prop) (x y : α) : (if c then f x else f y) = f (if c then x else y) := by split <;> rfl
theorem Q_bI {c : Prop} [Decidable c] (Q : AH → Value → Prop) (h : AH) : (if c then Q h (.int (zi 1)) else Q h (.int (zi 0))) = Q h (.int (zi (bI c))) := by unfold bI; split <;> rfl
theorem Q_bIn {c : Prop} [Decidable c] (Q : AH → Value → Prop) (h : AH) : (if c then Q h (.int (zi 0)) else Q h (.int (zi 1))) = Q h (.int (zi (bI (¬ c)))) := by unfold bI; by_cases hc : c <;> simp [hc]
theorem n10 : ((1 : Int) = 0) = False := by decide
theorem n20 : ((2 : Int) = 0) = False := by decide
theorem n21 : ((2 : Int) = 1) = False := by decide
theorem n30 : ((3 : Int) = 0) = False := by decide
theorem n31 : ((3 : Int) = 1) = False := by decide
theorem n32 : ((3 : Int) = 2) = False := by decide
theorem n40 : ((4 : Int) = 0) = False := by decide
theorem n41 : ((4 : Int) = 1) = False := by decide
theorem n42 : ((4 : Int) = 2) = False := by decide
theorem n43 : ((4 : Int) = 3) = False := by decide
/-- at(cells, i) of the class -/
def cAt (E : AE) (G : Nat → Nat → Int) (a : Nat) (i : Int) : Int := if 0 ≤ i ∧ i < (le E a : Int) then G a i.toNat else -1
section B9
variable {E : AE} {G L : Nat → Nat → Int} {r : Nat → Nat → Option Nat} {h : AH} {Q : AH → Value → Prop} {a x : Nat} {i v n d lo hi : Int}
theorem c9_within (hn : I32 n) (hlo : I32 lo) (hhi : I32 hi) : RK MX9_within 0 [.int (zi n), .int (zi lo), .int (zi hi)] [] (0, 0) h Q = Q h (.int (zi (bI (lo ≤ n ∧ n ≤ hi)))) := by
  simp (disch := first | assumption | exact c2_int _ | exact c2_ref _ | exact c2_jk | exact c2_null | omega | exact bI_r _ | exact bI_01 _) only [↓fX9_within_0, ↓fX9_within_1, ↓fX9_within_2, ↓fX9_within_5, ↓fX9_within_6, ↓fX9_within_7, ↓fX9_within_10, ↓fX9_within_11, ↓fX9_within_14, ↓fX9_within_15]
  unfold bI
  by_cases h1 : n < lo
  · rw [if_pos h1, if_neg (by omega)]
  · by_cases h2 : n ≤ hi
    · rw [if_neg h1, if_pos h2, if_pos (by omega)]
    · rw [if_neg h1, if_neg h2, if_neg (by omega)]
theorem c9_at (hk : kd E a = 1) (hn : (le E a : Int) ≤ 100000) (hi : I32 i) : RK MX9_at 0 [.ref a, .int (zi i)] [] (0, 0) (E, zg G, zk L, r) Q = Q (E, zg G, zk L, r) (.int (zi (cAt E G a i))) := by
  unfold cAt
  by_cases h1 : 0 ≤ i ∧ i < (le E a : Int)
  · simp (disch := first | assumption | exact c2_int _ | exact c2_ref _ | exact c2_jk | exact c2_null | omega | exact bI_r _ | exact bI_01 _) only [↓fX9_at_0, ↓fX9_at_1, ↓fX9_at_4, ↓fX9_at_5, ↓fX9_at_5n, ↓fX9_at_6, ↓fX9_at_7, ↓fX9_at_10, ↓fX9_at_10n, ↓fX9_at_11, ↓fX9_at_12, ↓fX9_at_13, ↓fX9_at_16, ↓fX9_at_17]
    rw [if_neg (by omega), if_pos (by omega), if_pos h1]
  · simp (disch := first | assumption | exact c2_int _ | exact c2_ref _ | exact c2_jk | exact c2_null | omega | exact bI_r _ | exact bI_01 _) only [↓fX9_at_0, ↓fX9_at_1, ↓fX9_at_4, ↓fX9_at_5, ↓fX9_at_5n, ↓fX9_at_6, ↓fX9_at_7, ↓fX9_at_10, ↓fX9_at_10n, ↓fX9_at_11, ↓fX9_at_13, ↓fX9_at_16, ↓fX9_at_17]
    rw [if_neg h1]
    split
    · rfl
    · rw [if_neg (by omega)]
theorem c9_put (hk : kd E a = 1) (hn : (le E a : Int) ≤ 100000) (hi : I32 i) : RK MX9_put 0 [.ref a, .int (zi i), .int (zi v)] [] (0, 0) (E, zg G, zk L, r) Q = Q (E, zg (if 0 ≤ i ∧ i < (le E a : Int) then u2 G a i.toNat v else G), zk L, r) .null := by
  by_cases h1 : 0 ≤ i ∧ i < (le E a : Int)
  · simp (disch := first | assumption | exact c2_int _ | exact c2_ref _ | exact c2_jk | exact c2_null | omega | exact bI_r _ | exact bI_01 _) only [↓fX9_put_0, ↓fX9_put_1, ↓fX9_put_4, ↓fX9_put_5, ↓fX9_put_5n, ↓fX9_put_6, ↓fX9_put_7, ↓fX9_put_10, ↓fX9_put_10n, ↓fX9_put_11, ↓fX9_put_12, ↓fX9_put_13, ↓fX9_put_14]
    rw [if_neg (by omega), if_pos (by omega), if_pos h1]
  · simp (disch := first | assumption | exact c2_int _ | exact c2_ref _ | exact c2_jk | exact c2_null | omega | exact bI_r _ | exact bI_01 _) only [↓fX9_put_0, ↓fX9_put_1, ↓fX9_put_4, ↓fX9_put_5, ↓fX9_put_5n, ↓fX9_put_6, ↓fX9_put_7, ↓fX9_put_14]
    rw [if_neg h1]
    split
    · rfl
    · rw [if_neg (by omega)]
theorem c9_remainder (hn : 0 ≤ n ∧ n < 2147483648) (hd : I32 d) : RK MX9_remainder 0 [.int (zi n), .int (zi d)] [] (0, 0) h Q = Q h (.int (zi (if 0 < d then n % d else -1))) := by
  by_cases h1 : d ≤ 0
  · simp (disch := first | assumption | exact c2_int _ | exact c2_ref _ | exact c2_jk | exact c2_null | omega | exact bI_r _ | exact bI_01 _) only [↓fX9_remainder_0, ↓fX9_remainder_1, ↓fX9_remainder_7, ↓fX9_remainder_10, ↓fX9_remainder_11]
    rw [if_pos h1, if_neg (by omega)]
  · simp (disch := first | assumption | exact c2_int _ | exact c2_ref _ | exact c2_jk | exact c2_null | omega | exact bI_r _ | exact bI_01 _) only [↓fX9_remainder_0, ↓fX9_remainder_1, ↓fX9_remainder_4, ↓fX9_remainder_5, ↓fX9_remainder_6, ↓fX9_remainder_7, ↓fX9_remainder_10, ↓fX9_remainder_11]
    rw [if_neg h1, if_pos (by omega)]
/-- copyCells: the lesser length -/
def cpG9 (G : Nat → Nat → Int) (a b : Nat) (n : Nat) : Nat → Nat → Int := fun q i => if q = b ∧ i < n then G a i else G q i
theorem c9_copy_loop (hk : kd E a = 1) (hk2 : kd E x = 1) (hn : (le E a : Int) ≤ 100000) (hn2 : (le E x : Int) ≤ 100000) (hne : a ≠ x) : ∀ (k : Nat) (j : Nat), min (le E a) (le E x) ≤ k + j → j ≤ min (le E a) (le E x) → ∀ G,
    RK MX9_copyCells 2 [.ref a, .ref x, .int (zi (j : Int))] [] (0, 0) (E, zg (cpG9 G a x j), zk L, r) Q = Q (E, zg (cpG9 G a x (min (le E a) (le E x))), zk L, r) .null := by
  intro k
  induction k with
  | zero =>
    intro j h1 h2 G
    have e : j = min (le E a) (le E x) := by omega
    simp (disch := first | assumption | exact c2_int _ | exact c2_ref _ | exact c2_jk | exact c2_null | omega | exact bI_r _ | exact bI_01 _) only [↓fX9_copyCells_0, ↓fX9_copyCells_1, ↓fX9_copyCells_2, ↓fX9_copyCells_3, ↓fX9_copyCells_3n, ↓fX9_copyCells_4, ↓fX9_copyCells_5, ↓fX9_copyCells_8, ↓fX9_copyCells_9, ↓fX9_copyCells_9n, ↓fX9_copyCells_10, ↓fX9_copyCells_11, ↓fX9_copyCells_20, ↓fX9_copyCells_23, ↓fX9_copyCells_26]
    rw [← e]
    by_cases h3 : (j : Int) < (le E a : Int)
    · rw [if_pos h3, if_neg (by omega)]
    · rw [if_neg h3]
  | succ k ih =>
    intro j h1 h2 G
    by_cases h3 : (j : Int) < (le E a : Int) ∧ (j : Int) < (le E x : Int)
    · rw [fX9_copyCells_2]
      simp (disch := first | assumption | exact c2_int _ | exact c2_ref _ | exact c2_jk | exact c2_null | omega | exact bI_r _ | exact bI_01 _) only [↓fX9_copyCells_0, ↓fX9_copyCells_1, ↓fX9_copyCells_3, ↓fX9_copyCells_3n, ↓fX9_copyCells_4, ↓fX9_copyCells_5, ↓fX9_copyCells_8, ↓fX9_copyCells_9, ↓fX9_copyCells_9n, ↓fX9_copyCells_10, ↓fX9_copyCells_11, ↓fX9_copyCells_14, ↓fX9_copyCells_14n, ↓fX9_copyCells_15, ↓fX9_copyCells_16, ↓fX9_copyCells_16n, ↓fX9_copyCells_17, ↓fX9_copyCells_18, ↓fX9_copyCells_19, ↓fX9_copyCells_20, ↓fX9_copyCells_23, ↓fX9_copyCells_26, h3.1, h3.2, ↓reduceIte]
      have e : u2 (cpG9 G a x j) x (j : Int).toNat (cpG9 G a x j a (j : Int).toNat) = cpG9 G a x (j + 1) := by
        funext q i
        simp only [u2, cpG9, Int.toNat_natCast]
        by_cases hq : q = x
        · subst hq
          by_cases hi : i = j
          · subst hi
            simp [hne]
          · simp only [hi, and_false, if_false, true_and]
            by_cases hlt : i < j
            · rw [if_pos hlt, if_pos (by omega)]
            · rw [if_neg hlt, if_neg (by omega)]
        · simp [hq]
      rw [e]
      have := ih (j + 1) (by omega) (by omega) G
      rw [Int.natCast_add] at this
      exact this
    · have e : j = min (le E a) (le E x) := by omega
      simp (disch := first | assumption | exact c2_int _ | exact c2_ref _ | exact c2_jk | exact c2_null | omega | exact bI_r _ | exact bI_01 _) only [↓fX9_copyCells_0, ↓fX9_copyCells_1, ↓fX9_copyCells_2, ↓fX9_copyCells_3, ↓fX9_copyCells_3n, ↓fX9_copyCells_4, ↓fX9_copyCells_5, ↓fX9_copyCells_8, ↓fX9_copyCells_9, ↓fX9_copyCells_9n, ↓fX9_copyCells_10, ↓fX9_copyCells_11, ↓fX9_copyCells_20, ↓fX9_copyCells_23, ↓fX9_copyCells_26]
      rw [← e]
      by_cases h4 : (j : Int) < (le E a : Int)
      · rw [if_pos h4, if_neg (by omega)]
      · rw [if_neg h4]
theorem c9_copyCells (hk : kd E a = 1) (hk2 : kd E x = 1) (hn : (le E a : Int) ≤ 100000) (hn2 : (le E x : Int) ≤ 100000) (hne : a ≠ x) : RK MX9_copyCells 0 [.ref a, .ref x, jk] [] (0, 0) (E, zg G, zk L, r) Q = Q (E, zg (cpG9 G a x (min (le E a) (le E x))), zk L, r) .null := by
  have e : cpG9 G a x 0 = G := by
    funext q i
    simp [cpG9]
  have := c9_copy_loop (L := L) (r := r) (Q := Q) hk hk2 hn hn2 hne (min (le E a) (le E x)) 0 (by omega) (by omega) G
  rw [e] at this
  rw [fX9_copyCells_0, fX9_copyCells_1 (c2_ref x)]
  exact this
/-- clearCells -/
def clG (G : Nat → Nat → Int) (b : Nat) (n : Nat) : Nat → Nat → Int := fun q i => if q = b ∧ i < n then 0 else G q i
end B9
