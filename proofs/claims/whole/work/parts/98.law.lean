/-! The law's run, from its entry. -/
theorem law_ok (sz b L : Nat) (xs : Nat → Int32) (aK : Nat → Nat) (hb : b < sz) (hL : L ≤ 3072) (hK : ∀ i, i < 12 → aK i < sz ∧ aK i ≠ b) (hi : ∀ i j : Nat, i < 12 → j < 12 → aK i = aK j → i = j) : RK ML_law 0 (loc ML_law [.ref b]) [] (0, 0) (s0 sz b L xs aK) (fun _ v => v = .int 1) := law_first hb hL hK hi
