/-! Calls of the house that only look. -/
section BS
variable {E : AE} {G G' L : Nat → Nat → Int} {r : Nat → Nat → Option Nat} {h : AH} {Q : AH → Value → Prop} {X S n a cl : Nat} {v y s x d e b c w k o : Int} {p q : Nat → Nat} {σ τ : Nat → Nat → Int} {kk nn : Nat → Int} {ln : Nat → Nat} {lv : Nat → Nat → Int}
theorem liZ_b {ln : Nat} {lv : Nat → Int} (h : ∀ j, j < ln → 0 ≤ lv j ∧ lv j ≤ 9999) (i : Int) : -1 ≤ liZ ln lv i ∧ liZ ln lv i ≤ 9999 := by
  unfold liZ
  split
  · have := h i.toNat (by omega)
    omega
  · omega
end BS
