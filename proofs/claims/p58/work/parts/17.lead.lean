/-! Functional part: who leads. -/
section BS
variable {E : AE} {G L : Nat → Nat → Int} {r : Nat → Nat → Option Nat} {h : AH} {Q : AH → Value → Prop} {S S2 l : Nat} {w : Int}
theorem cmp0_b (x : Int) : -1 ≤ cmp0 x ∧ cmp0 x ≤ 1 := by
  unfold cmp0
  repeat' split
  all_goals omega
theorem lsO_b {a b : Int} (ha : -1 ≤ a ∧ a ≤ 100000) (hb : -1 ≤ b ∧ b ≤ 100000) : -1 ≤ lsO a b ∧ lsO a b ≤ 100000 := by
  unfold lsO
  repeat' split
  all_goals omega
def ldI (s : LdS) : Prop := (0 ≤ s.1 ∧ s.1 ≤ 600) ∧ (0 ≤ s.2.1 ∧ s.2.1 ≤ 600) ∧ (-10000 ≤ s.2.2.1 ∧ s.2.2.1 ≤ 10000) ∧ (-10000 ≤ s.2.2.2.1 ∧ s.2.2.2.1 ≤ 10000) ∧ (-10000 ≤ s.2.2.2.2.2.1 ∧ s.2.2.2.2.2.1 ≤ 10000) ∧ (-1 ≤ s.2.2.2.2.2.2.2 ∧ s.2.2.2.2.2.2.2 ≤ 1)
theorem ldS_I {s : LdS} (hg : rgS G S) (hg2 : rgS G S2) (hi : ldI s) (h1 : s.1 ≤ G S 13) (h2 : s.2.1 ≤ G S2 13) (hbr : ¬ (G S 13 ≤ s.1 ∧ G S2 13 ≤ s.2.1)) : ldI (ldS (nA G S) (nA G S2) s) ∧ (ldS (nA G S) (nA G S2) s).1 ≤ G S 13 ∧ (ldS (nA G S) (nA G S2) s).2.1 ≤ G S2 13 ∧ s.1 + s.2.1 + 1 ≤ (ldS (nA G S) (nA G S2) s).1 + (ldS (nA G S) (nA G S2) s).2.1 := by
  obtain ⟨a, b, l, gr, at_, le_, tu, si⟩ := s
  obtain ⟨i1, i2, i3, i4, i5, i6⟩ := hi
  dsimp only at i1 i2 i3 i4 i5 i6 h1 h2 hbr
  have ha : ¬ a < G S 13 → nA G S (a + 1) = -1 := fun h => by unfold nA; rw [if_neg (by omega)]
  have hb : ¬ b < G S2 13 → nA G S2 (b + 1) = -1 := fun h => by unfold nA; rw [if_neg (by omega)]
  have ha2 : a < G S 13 → 0 ≤ nA G S (a + 1) := fun h => (nA_0 hg ⟨by omega, by omega⟩).1
  have hb2 : b < G S2 13 → 0 ≤ nA G S2 (b + 1) := fun h => (nA_0 hg2 ⟨by omega, by omega⟩).1
  obtain ⟨g0, g1, g2, g3, g4, g6, g7, g8, g13, ga1, ga2, ga3, ga4, ga5⟩ := id hg
  obtain ⟨b0, b1, b2, b3, b4, b6, b7, b8, b13, ba1, ba2, ba3, ba4, ba5⟩ := id hg2
  unfold ldS ldI
  dsimp only
  generalize nA G S (a + 1) = x at *
  generalize nA G S2 (b + 1) = y at *
  have hx : x = lsO x y → a < G S 13 := by
    intro h
    unfold lsO at h
    by_cases q : a < G S 13
    · exact q
    · have e := ha q
      have e2 := hb2 (by omega)
      rw [if_pos e] at h
      omega
  have hy : y = lsO x y → b < G S2 13 := by
    intro h
    unfold lsO at h
    by_cases q : b < G S2 13
    · exact q
    · have e := hb q
      have e2 := ha2 (by omega)
      rw [if_neg (by omega), if_pos e] at h
      omega
  have hxy : x = lsO x y ∨ y = lsO x y := by
    unfold lsO
    repeat' split
    all_goals simp
  generalize ha' : (if x = lsO x y then a + 1 else a) = a'
  generalize hb' : (if y = lsO x y then b + 1 else b) = b'
  have ra : a ≤ a' ∧ a' ≤ a + 1 ∧ a' ≤ G S 13 := by
    rw [← ha']
    split
    · have := hx (by assumption)
      omega
    · omega
  have rb : b ≤ b' ∧ b' ≤ b + 1 ∧ b' ≤ G S2 13 := by
    rw [← hb']
    split
    · have := hy (by assumption)
      omega
    · omega
  have rc : a + b + 1 ≤ a' + b' := by
    rcases hxy with q | q
    · rw [if_pos q] at ha'
      omega
    · rw [if_pos q] at hb'
      omega
  have q := cmp0_b (a' - b')
  refine ⟨⟨by omega, by omega, by omega, ?_, ?_, ?_⟩, by omega, by omega, rc⟩
  · split <;> omega
  · split <;> omega
  · split <;> omega
theorem cuL_n {A : Int → Int} {n x : Int} (hn : 0 ≤ n) : ∀ (k : Nat) (c : Int), c ≤ n → cuL A n x k c ≤ n := by
  intro k
  induction k with
  | zero => intro c h; exact h
  | succ k ih =>
    intro c h
    unfold cuL
    split
    · exact ih _ (by omega)
    · exact h
def ld0 (G : Nat → Nat → Int) (S S2 : Nat) : LdS := (cuL (nA G S) (G S 13) 0 600 0, cuL (nA G S2) (G S2 13) 0 600 0, cuL (nA G S) (G S 13) 0 600 0 - cuL (nA G S2) (G S2 13) 0 600 0, cuL (nA G S) (G S 13) 0 600 0 - cuL (nA G S2) (G S2 13) 0 600 0, 0, cuL (nA G S) (G S 13) 0 600 0 - cuL (nA G S2) (G S2 13) 0 600 0, 0, cmp0 (cuL (nA G S) (G S 13) 0 600 0 - cuL (nA G S2) (G S2 13) 0 600 0))
end BS
