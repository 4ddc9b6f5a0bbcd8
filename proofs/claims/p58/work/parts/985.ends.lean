/-! The walk: what is refused; faults. -/
section BS
variable {E E' : AE} {G G' L L' : Nat → Nat → Int} {r r' : Nat → Nat → Option Nat} {h : AH} {Q : AH → Value → Prop} {X n a cl : Nat} {σ σ' : Nat → Nat → Int} {st st' s x y w k : Int}
theorem W_number1 (h : WK E r G X n σ st) (hs : I32 s) (hy : I32 y) (hy1 : y < 1) : ∃ G', FX X G G' ∧ WK E r G' X n σ 1 ∧ ∀ Q, RK MX9_number 0 [.ref X, .int (zi s), .int (zi y), jk] [] (0, 0) (E, zg G, zk L, r) Q = Q (E, zg G', zk L, r) (.int (zi (-1))) := by
  obtain ⟨a, kk, nn, τ, cl, ln, lv, fl, tb, f2, hH⟩ := id h
  obtain ⟨⟨⟨p, q, h1⟩, h2⟩, h3, -⟩ := hH
  obtain ⟨G1, g1, g2, g3⟩ := x_number (L := L) (y := y) h1 hs hy
  have eo : ∀ f, onS (decide (y < 1)) n s f = (1, -1) := fun f => by
    unfold onS
    rw [if_pos (decide_eq_true hy1)]
  rw [eo] at g2
  simp only [eo] at g3
  obtain ⟨w1, w2⟩ := WK_up h g1 g2
  exact ⟨G1, w1, w2, g3⟩
theorem W_number2 (h : WK E r G X n σ st) (hs : I32 s) (hs2 : ¬ (0 ≤ s ∧ s < n)) (hy : 1 ≤ y ∧ y < 2147483648) : ∃ G', FX X G G' ∧ WK E r G' X n σ 2 ∧ ∀ Q, RK MX9_number 0 [.ref X, .int (zi s), .int (zi y), jk] [] (0, 0) (E, zg G, zk L, r) Q = Q (E, zg G', zk L, r) (.int (zi (-1))) := by
  obtain ⟨a, kk, nn, τ, cl, ln, lv, fl, tb, f2, hH⟩ := id h
  obtain ⟨⟨⟨p, q, h1⟩, h2⟩, h3, -⟩ := hH
  obtain ⟨G1, g1, g2, g3⟩ := x_number (L := L) (y := y) h1 hs ⟨by omega, by omega⟩
  have eo : ∀ f, onS (decide (y < 1)) n s f = (2, -1) := fun f => by
    unfold onS
    rw [if_neg (fun k => absurd (of_decide_eq_true k) (by omega)), if_neg hs2]
  rw [eo] at g2
  simp only [eo] at g3
  obtain ⟨w1, w2⟩ := WK_up h g1 g2
  exact ⟨G1, w1, w2, g3⟩
theorem W_told1 (h : WK E r G X n σ st) (hs : I32 s) (hy : I32 y) (hy1 : y < 1) (hw : I32 w) : ∃ G', FX X G G' ∧ WK E r G' X n σ 1 ∧ ∀ Q, RK MX9_told 0 [.ref X, .int (zi s), .int (zi y), .int (zi w), jk] [] (0, 0) (E, zg G, zk L, r) Q = Q (E, zg G', zk L, r) (.int (zi (-1))) := by
  obtain ⟨a, kk, nn, τ, cl, ln, lv, fl, tb, f2, hH⟩ := id h
  obtain ⟨⟨⟨p, q, h1⟩, h2⟩, h3, -⟩ := hH
  obtain ⟨G1, g1, g2, g3⟩ := x_told (L := L) (y := y) (w := w) h1 hs hy hw
  have eo : ∀ f, onS (decide (y < 1 ∨ ¬ (0 ≤ w ∧ w ≤ 3))) n s f = (1, -1) := fun f => by
    unfold onS
    rw [if_pos (decide_eq_true (Or.inl hy1))]
  rw [eo] at g2
  simp only [eo] at g3
  obtain ⟨w1, w2⟩ := WK_up h g1 g2
  exact ⟨G1, w1, w2, g3⟩
theorem W_sieve1 (h : WK E r G X n σ st) (hs : I32 s) (hw : I32 w) (hw1 : ¬ (0 ≤ w ∧ w ≤ 7)) : ∃ G', FX X G G' ∧ WK E r G' X n σ 1 ∧ ∀ Q, RK MX9_sieve 0 [.ref X, .int (zi s), .int (zi w), jk] [] (0, 0) (E, zg G, zk L, r) Q = Q (E, zg G', zk L, r) (.int (zi (-1))) := by
  obtain ⟨a, kk, nn, τ, cl, ln, lv, fl, tb, f2, hH⟩ := id h
  obtain ⟨⟨⟨p, q, h1⟩, h2⟩, h3, -⟩ := hH
  obtain ⟨G1, g1, g2, g3⟩ := x_sieve (L := L) (w := w) h1 hs hw
  have eo : ∀ f, onS (decide (¬ (0 ≤ w ∧ w ≤ 7))) n s f = (1, -1) := fun f => by
    unfold onS
    rw [if_pos (decide_eq_true hw1)]
  rw [eo] at g2
  simp only [eo] at g3
  obtain ⟨w1, w2⟩ := WK_up h g1 g2
  exact ⟨G1, w1, w2, g3⟩
theorem W_fault0 (h : WK E r G X n σ st) : ∀ Q, RK MX9_fault 0 [.ref X, .int (zi 0)] [] (0, 0) (E, zg G, zk L, r) Q = Q (E, zg G, zk L, r) (.int (zi 0)) := fun Q => by
  obtain ⟨a, kk, nn, τ, cl, ln, lv, fl, tb, f2, ⟨⟨⟨p, q, h1⟩, h2⟩, h3, h4, h5, h6, h7, h8⟩⟩ := id h
  rw [o_fault h1 (by decide), if_pos rfl, h7]
theorem W_fault2 (h : WK E r G X n σ st) : ∀ Q, RK MX9_fault 0 [.ref X, .int (zi 2)] [] (0, 0) (E, zg G, zk L, r) Q = Q (E, zg G, zk L, r) (.int (zi (-1))) := fun Q => by
  obtain ⟨a, kk, nn, τ, cl, ln, lv, fl, tb, f2, ⟨⟨⟨p, q, h1⟩, h2⟩, -⟩⟩ := id h
  rw [o_fault h1 (by decide), if_neg (by decide), if_neg (by decide)]
theorem po_neg (wf : WF (σ s.toNat)) : poZ (σ s.toNat) (-1) = -1 := by
  have h1 := wf.2.1
  have e : hasS (σ s.toNat) (-1) = false := by
    unfold hasS iXS
    rw [if_pos (by omega)]
    rfl
  unfold poZ
  rw [if_neg (by rw [e]; decide)]
end BS
