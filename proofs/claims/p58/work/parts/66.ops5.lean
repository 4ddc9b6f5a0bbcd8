/-! Calls of the house that only look. -/
section BS
variable {E : AE} {G G' L : Nat → Nat → Int} {r : Nat → Nat → Option Nat} {h : AH} {Q : AH → Value → Prop} {X S n a cl : Nat} {v y s x d e b c w k o : Int} {p q : Nat → Nat} {σ τ : Nat → Nat → Int} {kk nn : Nat → Int} {ln : Nat → Nat} {lv : Nat → Nat → Int}
theorem lrL_b (g : Int → Int) (n by_ : Int) (hn : n ≤ 600) : ∀ (k : Nat) (b mo ln i : Int), 1 ≤ i → (1 ≤ b ∧ b ≤ 600) → 0 ≤ ln → ln < i → 1 ≤ lrL g n by_ k b mo ln i ∧ lrL g n by_ k b mo ln i ≤ 600 := by
  intro k
  induction k with
  | zero => intro b mo ln i h1 h2 h3 h4; exact h2
  | succ k ih =>
    intro b mo ln i h1 h2 h3 h4
    unfold lrL
    by_cases q : i ≤ n
    · rw [if_pos q]
      have q1 : 0 ≤ (if g (i - 1) = by_ then ln + 1 else 1) ∧ (if g (i - 1) = by_ then ln + 1 else 1) ≤ i ∧ 1 ≤ (if g (i - 1) = by_ then ln + 1 else 1) := by split <;> omega
      have a1 := ih (i - (if g (i - 1) = by_ then ln + 1 else 1) + 1) (if g (i - 1) = by_ then ln + 1 else 1) (if g (i - 1) = by_ then ln + 1 else 1) (i + 1) (by omega) (by omega) (by omega) (by omega)
      have a2 := ih b mo (if g (i - 1) = by_ then ln + 1 else 1) (i + 1) (by omega) h2 (by omega) (by omega)
      by_cases z : mo < (if g (i - 1) = by_ then ln + 1 else 1)
      · rw [if_pos z]
        exact a1
      · rw [if_neg z]
        exact a2
    · rw [if_neg q]
      exact h2
theorem lrZ_b {σ : Nat → Int} (w : WF σ) : 1 ≤ lrZ σ ∧ lrZ σ ≤ 600 := lrL_b _ _ _ (szS_b w).2 600 1 0 0 1 (by omega) (by omega) (by omega) (by omega)
theorem lpL_b (A : Int → Int) (P : Int → Bool) (n d : Int) (hA : ∀ p, -1 ≤ A p ∧ A p ≤ 100000) : ∀ (k : Nat) (i b mo : Int), (-1 ≤ b ∧ b ≤ 100000) → -1 ≤ lpL A P n d k i b mo ∧ lpL A P n d k i b mo ≤ 100000 := by
  intro k
  induction k with
  | zero => intro i b mo h; exact h
  | succ k ih =>
    intro i b mo h
    unfold lpL
    have hi := hA i
    have a1 := ih (i + 1) b mo h
    have a2 := ih (i + 1) (A i) (pgL P n d 600 1 (A i + d)) hi
    repeat' split
    all_goals omega
theorem lpZ_b {σ : Nat → Int} (w : WF σ) (d : Int) : -1 ≤ lpZ σ d ∧ lpZ σ d ≤ 100000 := lpL_b _ _ _ _ (nAS_b w) 600 1 _ _ (nAS_b w 1)
theorem clZ_b {σ : Nat → Int} (w' : WF σ) {w : Int} (hw : 2 ≤ w) : clZ σ w = -1 ∨ (1 ≤ clZ σ w ∧ clZ σ w ≤ 600 ∧ w ≤ szS σ) := by
  have := szS_b w'
  unfold clZ
  split
  · have := bsL_b (fun i b => decide (nAS σ (i + w - 1) - nAS σ i < nAS σ (b + w - 1) - nAS σ b)) (szS σ - w + 2) 600 2 1 (by omega) (by omega)
    omega
  · exact Or.inl rfl
end BS
