/-! The walk: the acts. -/
def FR (X : Nat) (r r' : Nat → Nat → Option Nat) : Prop := ∀ x, x < X ∨ X + 130 ≤ x → r' x = r x
/-- one sieve changed -/
def chS (σ : Nat → Nat → Int) (s : Int) (τ : Nat → Int) : Nat → Nat → Int := fun t => if t = s.toNat then τ else σ t
section BS
variable {E E' : AE} {G G' L L' : Nat → Nat → Int} {r r' : Nat → Nat → Option Nat} {h : AH} {Q : AH → Value → Prop} {X n a cl : Nat} {p q : Nat → Nat} {σ σ' τ : Nat → Nat → Int} {kk nn : Nat → Int} {ln : Nat → Nat} {lv : Nat → Nat → Int} {st st' fl f1 f2 s x y w k : Int} {tb : Nat → Int}
theorem W_round (h : WK E r G X n σ st) (hs : 0 ≤ s ∧ s < n) (hg : ngS (σ s.toNat) ≠ -1) : ∃ G' r', (FX X G G' ∧ FR X r r') ∧ WK E r' G' X n (chS σ s (swS (σ s.toNat) (ngS (σ s.toNat)))) 0 ∧ ∀ Q, RK MX9_round 0 [.ref X, .int (zi s), jk, jk] [] (0, 0) (E, zg G, zk L, r) Q = Q (E, zg G', zk L, r') (.int (zi (szS (σ s.toNat) - szS (swS (σ s.toNat) (ngS (σ s.toNat)))))) := by
  obtain ⟨a, kk, nn, τ, cl, ln, lv, fl, tb, f2, ⟨⟨⟨p, q, h1⟩, h2⟩, h3, h4, h5', h6, h7, h8⟩⟩ := id h
  obtain ⟨G1, r1, q1, x1, x2, x3, x4, x5, x6⟩ := w_round (L := L) h1 h2 hs hg
  have e1 := x5 (X + 1) (by omega)
  have e2 := x5 (X + 1 + 1) (by omega)
  exact ⟨G1, r1, ⟨fun x hx => x5 x (by omega), fun x hx => x3 x (by omega) (by omega)⟩, ⟨_, _, _, _, cl, ln, lv, fl, tb, f2, ⟨⟨p, q1, x1⟩, x2⟩, h3, x4, by rw [e1]; exact h5', fun j hj => by rw [e2]; exact h6 j hj, by rw [e1]; exact h7, by rw [e1]; exact h8⟩, x6⟩
theorem W_all (h : WK E r G X n σ st) (hs : 0 ≤ s ∧ s < n) (hg : ngS (σ s.toNat) ≠ -1) : ∃ G' r', (FX X G G' ∧ FR X r r') ∧ WK E r' G' X n (chS σ s (smS 600 (σ s.toNat)).1) 0 ∧ ∀ Q, RK MX9_all 0 [.ref X, .int (zi s), jk] [] (0, 0) (E, zg G, zk L, r) Q = Q (E, zg G', zk L, r') (.int (zi ((smS 600 (σ s.toNat)).2))) := by
  obtain ⟨a, kk, nn, τ, cl, ln, lv, fl, tb, f2, ⟨⟨⟨p, q, h1⟩, h2⟩, h3, h4, h5', h6, h7, h8⟩⟩ := id h
  obtain ⟨G1, r1, q1, x1, x2, x3, x4, x5, x6⟩ := w_all (L := L) h1 h2 hs hg
  have e1 := x5 (X + 1) (by omega)
  have e2 := x5 (X + 1 + 1) (by omega)
  exact ⟨G1, r1, ⟨fun x hx => x5 x (by omega), fun x hx => x3 x (by omega) (by omega)⟩, ⟨_, _, _, _, cl, ln, lv, fl, tb, f2, ⟨⟨p, q1, x1⟩, x2⟩, h3, x4, by rw [e1]; exact h5', fun j hj => by rw [e2]; exact h6 j hj, by rw [e1]; exact h7, by rw [e1]; exact h8⟩, x6⟩
theorem W_strike (h : WK E r G X n σ st) (hs : 0 ≤ s ∧ s < n) (hI : I32 x) {i0 : Nat} (hi : iXS (σ s.toNat) x = i0) (hh : hbS (σ s.toNat) i0 = true) (hz : 2 ≤ szS (σ s.toNat)) : ∃ G' r', (FX X G G' ∧ FR X r r') ∧ WK E r' G' X n (chS σ s (hdS (σ s.toNat) i0)) 0 ∧ ∀ Q, RK MX9_strike 0 [.ref X, .int (zi s), .int (zi x), jk, jk] [] (0, 0) (E, zg G, zk L, r) Q = Q (E, zg G', zk L, r') (.int (zi (poZ (σ s.toNat) x))) := by
  obtain ⟨a, kk, nn, τ, cl, ln, lv, fl, tb, f2, ⟨⟨⟨p, q, h1⟩, h2⟩, h3, h4, h5', h6, h7, h8⟩⟩ := id h
  obtain ⟨G1, r1, q1, x1, x2, x3, x4, x5, x6⟩ := w_strike (L := L) h1 h2 hI hs hi hh hz
  have e1 := x5 (X + 1) (by omega)
  have e2 := x5 (X + 1 + 1) (by omega)
  exact ⟨G1, r1, ⟨fun x hx => x5 x (by omega), fun x hx => x3 x (by omega) (by omega)⟩, ⟨_, _, _, _, cl, ln, lv, fl, tb, f2, ⟨⟨p, q1, x1⟩, x2⟩, h3, x4, by rw [e1]; exact h5', fun j hj => by rw [e2]; exact h6 j hj, by rw [e1]; exact h7, by rw [e1]; exact h8⟩, x6⟩
theorem W_round5 (h : WK E r G X n σ st) (hs : 0 ≤ s ∧ s < n) (hg : ngS (σ s.toNat) = -1) : ∃ G', FX X G G' ∧ WK E r G' X n σ 5 ∧ ∀ Q, RK MX9_round 0 [.ref X, .int (zi s), jk, jk] [] (0, 0) (E, zg G, zk L, r) Q = Q (E, zg G', zk L, r) (.int (zi (-1))) := by
  obtain ⟨a, kk, nn, τ, cl, ln, lv, fl, tb, f2, hH⟩ := id h
  obtain ⟨⟨⟨p, q, h1⟩, h2⟩, -⟩ := hH
  obtain ⟨w1, w2⟩ := WK_up h (lkX_st h1.2.2 5) (u2_s _ _ _ _)
  exact ⟨_, w1, w2, fun Q => o_round5 h1 hs hg⟩
theorem W_all5 (h : WK E r G X n σ st) (hs : 0 ≤ s ∧ s < n) (hg : ngS (σ s.toNat) = -1) : ∃ G', FX X G G' ∧ WK E r G' X n σ 5 ∧ ∀ Q, RK MX9_all 0 [.ref X, .int (zi s), jk] [] (0, 0) (E, zg G, zk L, r) Q = Q (E, zg G', zk L, r) (.int (zi (-1))) := by
  obtain ⟨a, kk, nn, τ, cl, ln, lv, fl, tb, f2, hH⟩ := id h
  obtain ⟨⟨⟨p, q, h1⟩, h2⟩, -⟩ := hH
  obtain ⟨w1, w2⟩ := WK_up h (lkX_st h1.2.2 5) (u2_s _ _ _ _)
  exact ⟨_, w1, w2, fun Q => o_all5 h1 hs hg⟩
theorem W_balance (h : WK E r G X n σ st) (hs : 0 ≤ s ∧ s < n) (hy : 1 ≤ y ∧ y ≤ szS (σ s.toNat)) : ∃ G', FX X G G' ∧ WK E r G' X n σ 0 ∧ ∀ Q, RK MX9_balance 0 [.ref X, .int (zi s), .int (zi y), jk, jk] [] (0, 0) (E, zg G, zk L, r) Q = Q (E, zg G', zk L, r) (.int (zi (nAS (σ s.toNat) y - (σ s.toNat 1 + σ s.toNat 2 * (y - 1))))) := by
  obtain ⟨hk, hX, hn, hWF⟩ := WK_k h
  have wf := hWF s.toNat (by omega)
  have sb := szS_b wf
  have hs2 : I32 s := ⟨by omega, by omega⟩
  obtain ⟨a, kk, nn, τ, cl, ln, lv, fl, tb, f2, hH⟩ := id h
  obtain ⟨⟨⟨p, q, h1⟩, h2⟩, h3, -⟩ := hH
  obtain ⟨G1, g1, g2, g3⟩ := x_balance (L := L) (y := y) h1 hs2 ⟨by omega, by omega⟩
  have eo := fun f => onS_t (f := f) (bad := decide (y < 1)) (n := n) (s := s) (by simp only [decide_eq_false_iff_not]; omega) hs
  have n0 := nAS_0 wf hy
  have ei : ¬ nAS (σ s.toNat) y = -1 := by omega
  rw [eo, if_neg ei] at g2
  simp only [eo, ei, if_false] at g3
  obtain ⟨w1, w2⟩ := WK_up h g1 g2
  exact ⟨G1, w1, w2, g3⟩
theorem W_gone (h : WK E r G X n σ st) (hs : 0 ≤ s ∧ s < n) (hk : 0 ≤ k ∧ k < 2147483648) : ∃ G', FX X G G' ∧ WK E r G' X n σ (if snZ (σ s.toNat) k = -1 then 5 else 0) ∧ ∀ Q, RK MX9_gone 0 [.ref X, .int (zi s), .int (zi k), jk] [] (0, 0) (E, zg G, zk L, r) Q = Q (E, zg G', zk L, r) (.int (zi (snZ (σ s.toNat) k))) := by
  have hn := (WK_k h).2.2.1
  have hs2 : I32 s := ⟨by omega, by omega⟩
  obtain ⟨a, kk, nn, τ, cl, ln, lv, fl, tb, f2, hH⟩ := id h
  obtain ⟨⟨⟨p, q, h1⟩, h2⟩, h3, -⟩ := hH
  obtain ⟨G1, g1, g2, g3⟩ := x_gone (L := L) (k := k) h1 hs2 ⟨by omega, by omega⟩
  have eo := fun f => onS_t (f := f) (bad := decide (k < -1)) (n := n) (s := s) (by simp only [decide_eq_false_iff_not]; omega) hs
  have ei : ¬ k = -1 := by omega
  rw [eo, if_neg ei] at g2
  simp only [eo, ei, if_false] at g3
  obtain ⟨w1, w2⟩ := WK_up h g1 g2
  exact ⟨G1, w1, w2, g3⟩
theorem W_gone1 (h : WK E r G X n σ st) (hs : 0 ≤ s ∧ s < n) : ∃ G', FX X G G' ∧ WK E r G' X n σ 0 ∧ ∀ Q, RK MX9_gone 0 [.ref X, .int (zi s), .int (zi (-1)), jk] [] (0, 0) (E, zg G, zk L, r) Q = Q (E, zg G', zk L, r) (.int (zi (σ s.toNat 3 - szS (σ s.toNat)))) := by
  have hn := (WK_k h).2.2.1
  have hs2 : I32 s := ⟨by omega, by omega⟩
  obtain ⟨a, kk, nn, τ, cl, ln, lv, fl, tb, f2, hH⟩ := id h
  obtain ⟨⟨⟨p, q, h1⟩, h2⟩, h3, -⟩ := hH
  obtain ⟨G1, g1, g2, g3⟩ := x_gone (L := L) (k := -1) h1 hs2 (by decide)
  have eo := fun f => onS_t (f := f) (bad := decide ((-1 : Int) < -1)) (n := n) (s := s) (by decide) hs
  rw [eo, if_pos rfl] at g2
  simp only [eo, if_true] at g3
  obtain ⟨w1, w2⟩ := WK_up h g1 g2
  exact ⟨G1, w1, w2, g3⟩
theorem W_status (h : WK E r G X n σ st) : ∀ Q, RK MX9_status 0 [.ref X] [] (0, 0) (E, zg G, zk L, r) Q = Q (E, zg G, zk L, r) (.int (zi st)) := fun Q => by
  obtain ⟨a, kk, nn, τ, cl, ln, lv, fl, tb, f2, ⟨⟨⟨p, q, h1⟩, h2⟩, h3, h4, -⟩⟩ := id h
  rw [o_status h1, h4]
end BS
