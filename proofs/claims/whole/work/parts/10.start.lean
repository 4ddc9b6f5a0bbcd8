/-! the start of the small machine: the script, the String constants -/
/-- the start of the small machine -/
def s0_k (b L : Nat) (aK : Nat → Nat) (a : Nat) : Nat × Nat := if a = b then (7, L) else match (List.range 12).find? (fun i => aK i == a) with
  | some i => (20, slen.getD i 0)
  | none => (0, 0)
def s0_i (b : Nat) (xs : Nat → Int32) (aK : Nat → Nat) (a j : Nat) : Int32 := if a = b then xs j else match (List.range 12).find? (fun i => aK i == a) with
  | some i => (stL.getD i []).getD j 0
  | none => 0
def s0_E (sz b L : Nat) (aK : Nat → Nat) : AE := (sz, s0_k b L aK, fun q => aK (stT.idxOf q))
def s0 (sz b L : Nat) (xs : Nat → Int32) (aK : Nat → Nat) : AH := (s0_E sz b L aK, s0_i b xs aK, (fun _ _ => 0), (fun _ _ => none))
theorem s0_find {aK : Nat → Nat} (hi : ∀ i j : Nat, i < 12 → j < 12 → aK i = aK j → i = j) {i : Nat} (h : i < 12) : (List.range 12).find? (fun j => aK j == aK i) = some i := by
  cases hf : (List.range 12).find? (fun j => aK j == aK i) with
  | none =>
    have := List.find?_eq_none.mp hf i (List.mem_range.mpr h)
    simp at this
  | some j =>
    have h1 := List.find?_some hf
    have h2 := List.mem_range.mp (List.mem_of_find?_eq_some hf)
    have h3 : aK j = aK i := by simpa using h1
    rw [hi j i h2 h h3]
