/-! test -/
theorem c9_within {a b c : Int} {h : AH} {Q : AH → Value → Prop} (ha : -2147483648 ≤ a ∧ a < 2147483648) (hb : -2147483648 ≤ b ∧ b < 2147483648) (hc : -2147483648 ≤ c ∧ c < 2147483648) : RK MX9_within 0 [.int (zi a), .int (zi b), .int (zi c)] [] (0, 0) h Q = if b ≤ a ∧ a ≤ c then Q h (.int (zi 1)) else Q h (.int (zi 0)) := by
  simp (disch := omega) only [↓fX9_within_0, ↓fX9_within_1, ↓fX9_within_2, ↓fX9_within_5, ↓fX9_within_6, ↓fX9_within_7, ↓fX9_within_10, ↓fX9_within_11, ↓fX9_within_14, ↓fX9_within_15]
  split
  · rw [if_neg (by omega)]
  · split
    · rw [if_pos (by omega)]
    · rw [if_neg (by omega)]
theorem c9_at {E : AE} {G L : Nat → Nat → Int} {r : Nat → Nat → Option Nat} {a : Nat} {x : Int} {Q : AH → Value → Prop} (hk : kd E a = 1) (hx : 0 ≤ x ∧ x < (le E a : Int)) (hn : (le E a : Int) ≤ 2147483647) : RK MX9_at 0 [.ref a, .int (zi x)] [] (0, 0) (E, zg G, zk L, r) Q = Q (E, zg G, zk L, r) (.int (zi (G a x.toNat))) := by
  simp (disch := first | assumption | omega) only [↓fX9_at_0, ↓fX9_at_1, ↓fX9_at_4, ↓fX9_at_5, ↓fX9_at_5n, ↓fX9_at_6, ↓fX9_at_7, ↓fX9_at_10, ↓fX9_at_10n, ↓fX9_at_11, ↓fX9_at_12, ↓fX9_at_13, ↓fX9_at_16, ↓fX9_at_17]
  rw [if_neg (by omega), if_pos (by omega)]
theorem c9_at_out {E : AE} {G L : Nat → Nat → Int} {r : Nat → Nat → Option Nat} {a : Nat} {x : Int} {Q : AH → Value → Prop} (hk : kd E a = 1) (hr : -2147483648 ≤ x ∧ x < 2147483648) (hx : ¬ (0 ≤ x ∧ x < (le E a : Int))) (hn : (le E a : Int) ≤ 2147483647) : RK MX9_at 0 [.ref a, .int (zi x)] [] (0, 0) (E, zg G, zk L, r) Q = Q (E, zg G, zk L, r) (.int (zi (-1))) := by
  simp (disch := first | assumption | omega) only [↓fX9_at_0, ↓fX9_at_1, ↓fX9_at_4, ↓fX9_at_5, ↓fX9_at_5n, ↓fX9_at_6, ↓fX9_at_7, ↓fX9_at_10, ↓fX9_at_10n, ↓fX9_at_11, ↓fX9_at_13, ↓fX9_at_16, ↓fX9_at_17]
  split
  · rfl
  · rw [if_neg (by omega)]
def shSv (E : AE) (r : Nat → Nat → Option Nat) (S : Nat) : Prop := kd E S = 14 ∧ (kd E (S + 1) = 1 ∧ kd E (S + 2) = 1 ∧ kd E (S + 3) = 1 ∧ kd E (S + 4) = 1 ∧ kd E (S + 5) = 1) ∧ (le E (S + 1) = 12 ∧ le E (S + 2) = 600 ∧ le E (S + 3) = 601 ∧ le E (S + 4) = 601 ∧ le E (S + 5) = 600) ∧ r S 5 = some (S + 1) ∧ r S 9 = some (S + 2) ∧ r S 10 = some (S + 3) ∧ r S 11 = some (S + 4) ∧ r S 12 = some (S + 5)
theorem c7_isHere {E : AE} {G L : Nat → Nat → Int} {r : Nat → Nat → Option Nat} {S : Nat} {x : Int} {Q : AH → Value → Prop} (hS : shSv E r S) (hx : 0 ≤ x ∧ x < 600) (hg : -2147483648 ≤ G (S + 2) x.toNat ∧ G (S + 2) x.toNat < 2147483648) : RK MX7_isHere 0 [.ref S, .int (zi x)] [] (0, 0) (E, zg G, zk L, r) Q = if G (S + 2) x.toNat = 2147483647 then Q (E, zg G, zk L, r) (.int (zi 1)) else Q (E, zg G, zk L, r) (.int (zi 0)) := by
  obtain ⟨s0, ⟨s1, s2, s3, s4, s5⟩, ⟨l1, l2, l3, l4, l5⟩, r1, r2, r3, r4, r5⟩ := hS
  simp (disch := first | assumption | omega) only [↓fX7_isHere_0, ↓fX7_isHere_1, ↓fX7_isHere_4, ↓fX7_isHere_5, ↓fX7_isHere_8, ↓fX7_isHere_10, ↓fX7_isHere_13, ↓fX7_isHere_14, ↓fX7_isHere_17, ↓fX7_isHere_18, ↓c9_at]
def ct (p : Nat → Bool) : Nat → Nat
  | 0 => 0
  | n + 1 => ct p n + if p n = true then 1 else 0
theorem ct_le (p : Nat → Bool) : ∀ n, ct p n ≤ n
  | 0 => Nat.le_refl 0
  | n + 1 => by
    have := ct_le p n
    rw [ct]
    split <;> omega
theorem c7_countLeft_loop {E : AE} {G L : Nat → Nat → Int} {r : Nat → Nat → Option Nat} {S : Nat} {l1 : Value} {en : Int} {m : Nat} {Q : AH → Value → Prop} (hS : shSv E r S) (hm : G S 3 = m) (hm2 : m ≤ 600) (hen : 0 ≤ en ∧ en < 2147483648) (hg : ∀ i, -2147483648 ≤ G (S + 2) i ∧ G (S + 2) i < 2147483648) : ∀ (n i c : Nat), m - i ≤ n → i ≤ 10000 → c ≤ 10000 + i →
    RK MX7_countLeft 5 [.ref S, l1, .int (zi en), .int (zi (c : Int)), .int (zi (i : Int))] [] (0, 0) (E, zg G, zk L, r) Q = Q (E, zg G, zk L, r) (.int (zi ((c : Int) + (ct (fun j => decide (i ≤ j ∧ G (S + 2) j = 2147483647)) (min en.toNat m) : Int)))) := by
  intro n
  obtain ⟨s0, ⟨s1, s2, s3, s4, s5⟩, ⟨l1, l2, l3, l4, l5⟩, r1, r2, r3, r4, r5⟩ := id hS
  induction n with
  | zero =>
    intro i c hn hi hc
    have hz : ct (fun j => decide (i ≤ j ∧ G (S + 2) j = 2147483647)) (min en.toNat m) = 0 := sorry
    simp (disch := first | assumption | omega) only [↓fX7_countLeft_0, ↓fX7_countLeft_1, ↓fX7_countLeft_2, ↓fX7_countLeft_3, ↓fX7_countLeft_5, ↓fX7_countLeft_7, ↓fX7_countLeft_8, ↓fX7_countLeft_11, ↓fX7_countLeft_13, ↓fX7_countLeft_14, ↓fX7_countLeft_17, ↓fX7_countLeft_20, ↓fX7_countLeft_21, ↓fX7_countLeft_23, ↓fX7_countLeft_26, ↓fX7_countLeft_29, ↓fX7_countLeft_32, ↓fX7_countLeft_35, ↓fX7_countLeft_38, ↓fX7_countLeft_39, ↓c7_isHere, hm, c2_int, c2_ref]
    sorry
  | succ n ih =>
    intro i c hn hi hc
    rw [fX7_countLeft_5]
    simp (disch := first | assumption | omega | exact hg _ | rfl) only [↓fX7_countLeft_0, ↓fX7_countLeft_1, ↓fX7_countLeft_2, ↓fX7_countLeft_3, ↓fX7_countLeft_7, ↓fX7_countLeft_8, ↓fX7_countLeft_11, ↓fX7_countLeft_13, ↓fX7_countLeft_14, ↓fX7_countLeft_17, ↓fX7_countLeft_20, ↓fX7_countLeft_21, ↓fX7_countLeft_23, ↓fX7_countLeft_26, ↓fX7_countLeft_29, ↓fX7_countLeft_32, ↓fX7_countLeft_35, ↓fX7_countLeft_38, ↓fX7_countLeft_39, ↓c7_isHere, hm]
    sorry
