/-! The walk: the house between the law's looks. -/
/-- all outside of the house stands -/
def FX (X : Nat) (G G' : Nat → Nat → Int) : Prop := ∀ x, x < X ∨ X + 130 ≤ x → G' x = G x
theorem FX.rf (X : Nat) (G : Nat → Nat → Int) : FX X G G := fun _ _ => rfl
theorem FX.trans {X : Nat} {G G1 G2 : Nat → Nat → Int} (h1 : FX X G G1) (h2 : FX X G1 G2) : FX X G G2 := fun x hx => (h2 x hx).trans (h1 x hx)
/-- the house after a good load, at a status -/
def WK (E : AE) (r : Nat → Nat → Option Nat) (G : Nat → Nat → Int) (X n : Nat) (σ : Nat → Nat → Int) (st : Int) : Prop := ∃ a kk nn τ cl ln lv fl tb f2, HI E r G X n σ a kk nn τ cl ln lv st fl tb 0 f2
section BS
variable {E E' : AE} {G G' L L' : Nat → Nat → Int} {r r' : Nat → Nat → Option Nat} {h : AH} {Q : AH → Value → Prop} {X n a cl : Nat} {p q : Nat → Nat} {σ σ' τ : Nat → Nat → Int} {kk nn : Nat → Int} {ln : Nat → Nat} {lv : Nat → Nat → Int} {st st' fl f1 f2 s x y w k : Int} {tb : Nat → Int}
theorem HI_lk (h : HI E r G X n σ a kk nn τ cl ln lv st fl tb f1 f2) (hl : lkX G G' X) (h5 : G' X 5 = st') : HI E r G' X n σ a kk nn τ cl ln lv st' fl tb f1 f2 := by
  have hk := HI_h h
  obtain ⟨⟨⟨p, q, h1⟩, h2⟩, h3, h4, h5', h6, h7, h8⟩ := h
  have e1 : G' (X + 1) = G (X + 1) := hl.1 _ (by omega) (by omega)
  have e2 : G' (X + 1 + 1) = G (X + 1 + 1) := hl.1 _ (by omega) (by omega)
  exact ⟨⟨⟨p, q, lkX_HXS h1 hl⟩, lkX_HXR hk h2 hl⟩, h3, h5, by rw [e1]; exact h5', fun j hj => by rw [e2]; exact h6 j hj, by rw [e1]; exact h7, by rw [e1]; exact h8⟩
theorem WK_up (h : WK E r G X n σ st) (hl : lkX G G' X) (h5 : G' X 5 = st') : FX X G G' ∧ WK E r G' X n σ st' := by
  obtain ⟨a, kk, nn, τ, cl, ln, lv, fl, tb, f2, hH⟩ := h
  exact ⟨fun x hx => hl.1 x (by omega) (by omega), a, kk, nn, τ, cl, ln, lv, fl, tb, f2, HI_lk hH hl h5⟩
theorem WK_x (h : WK E r G X n σ st) (xt : XT E E') (hf : ∀ x, x < X + 130 → G' x = G x ∧ r' x = r x) : WK E' r' G' X n σ st := by
  obtain ⟨a, kk, nn, τ, cl, ln, lv, fl, tb, f2, hH⟩ := h
  exact ⟨a, kk, nn, τ, cl, ln, lv, fl, tb, f2, HI_x hH xt hf⟩
theorem WK_k (h : WK E r G X n σ st) : kd E X = 15 ∧ X + 130 ≤ E.1 ∧ n ≤ 4 ∧ ∀ t, t < n → WF (σ t) := by
  obtain ⟨a, kk, nn, τ, cl, ln, lv, fl, tb, f2, hH⟩ := h
  obtain ⟨⟨⟨p, q, h1⟩, h2⟩, h3, -⟩ := id hH
  exact ⟨HI_h hH, h3, h1.2.1.2.2.2.1.2, fun t ht => (h1.2.1.2.2.2.2.2.1 t ht).2⟩
theorem onS_t {bad : Bool} {f : Int × Int} (hb : bad = false) (hs : 0 ≤ s ∧ s < n) : onS bad n s f = f := by
  subst hb
  unfold onS
  rw [if_neg (by decide), if_pos hs]
theorem W_sieve (h : WK E r G X n σ st) (hs : 0 ≤ s ∧ s < n) (hw : 0 ≤ w ∧ w ≤ 7) : ∃ G', FX X G G' ∧ WK E r G' X n σ 0 ∧ ∀ Q, RK MX9_sieve 0 [.ref X, .int (zi s), .int (zi w), jk] [] (0, 0) (E, zg G, zk L, r) Q = Q (E, zg G', zk L, r) (.int (zi (prpZ (σ s.toNat) w))) := by
  have hn := (WK_k h).2.2.1
  have hs2 : I32 s := ⟨by omega, by omega⟩
  obtain ⟨a, kk, nn, τ, cl, ln, lv, fl, tb, f2, hH⟩ := id h
  obtain ⟨⟨⟨p, q, h1⟩, h2⟩, h3, -⟩ := hH
  obtain ⟨G1, g1, g2, g3⟩ := x_sieve (L := L) (w := w) h1 hs2 ⟨by omega, by omega⟩
  have eo := fun f => onS_t (f := f) (bad := decide (¬ (0 ≤ w ∧ w ≤ 7))) (n := n) (s := s) (by simp only [decide_eq_false_iff_not]; omega) hs
  rw [eo] at g2
  simp only [eo] at g3
  obtain ⟨w1, w2⟩ := WK_up h g1 g2
  exact ⟨G1, w1, w2, g3⟩
theorem W_number (h : WK E r G X n σ st) (hs : 0 ≤ s ∧ s < n) (hy : 1 ≤ y ∧ y < 2147483648) : ∃ G', FX X G G' ∧ WK E r G' X n σ (if nAS (σ s.toNat) y = -1 then 5 else 0) ∧ ∀ Q, RK MX9_number 0 [.ref X, .int (zi s), .int (zi y), jk] [] (0, 0) (E, zg G, zk L, r) Q = Q (E, zg G', zk L, r) (.int (zi (nAS (σ s.toNat) y))) := by
  have hn := (WK_k h).2.2.1
  have hs2 : I32 s := ⟨by omega, by omega⟩
  obtain ⟨a, kk, nn, τ, cl, ln, lv, fl, tb, f2, hH⟩ := id h
  obtain ⟨⟨⟨p, q, h1⟩, h2⟩, h3, -⟩ := hH
  obtain ⟨G1, g1, g2, g3⟩ := x_number (L := L) (y := y) h1 hs2 ⟨by omega, by omega⟩
  have eo := fun f => onS_t (f := f) (bad := decide (y < 1)) (n := n) (s := s) (by simp only [decide_eq_false_iff_not]; omega) hs
  rw [eo] at g2
  simp only [eo] at g3
  obtain ⟨w1, w2⟩ := WK_up h g1 g2
  exact ⟨G1, w1, w2, g3⟩
theorem W_would (h : WK E r G X n σ st) (hs : 0 ≤ s ∧ s < n) (hy : 1 ≤ y ∧ y < 2147483648) : ∃ G', FX X G G' ∧ WK E r G' X n σ (if nAS (smS 600 (σ s.toNat)).1 y = -1 then 5 else 0) ∧ ∀ Q, RK MX9_would 0 [.ref X, .int (zi s), .int (zi y), jk] [] (0, 0) (E, zg G, zk L, r) Q = Q (E, zg G', zk L, r) (.int (zi (nAS (smS 600 (σ s.toNat)).1 y))) := by
  have hn := (WK_k h).2.2.1
  have hs2 : I32 s := ⟨by omega, by omega⟩
  obtain ⟨a, kk, nn, τ, cl, ln, lv, fl, tb, f2, hH⟩ := id h
  obtain ⟨⟨⟨p, q, h1⟩, h2⟩, h3, -⟩ := hH
  obtain ⟨G1, g1, g2, g3⟩ := x_would (L := L) (y := y) h1 hs2 ⟨by omega, by omega⟩
  have eo := fun f => onS_t (f := f) (bad := decide (y < 1)) (n := n) (s := s) (by simp only [decide_eq_false_iff_not]; omega) hs
  rw [eo] at g2
  simp only [eo] at g3
  obtain ⟨w1, w2⟩ := WK_up h g1 g2
  exact ⟨G1, w1, w2, g3⟩
theorem W_told (h : WK E r G X n σ st) (hs : 0 ≤ s ∧ s < n) (hy : 1 ≤ y ∧ y < 2147483648) (hw : 0 ≤ w ∧ w ≤ 3) : ∃ G', FX X G G' ∧ WK E r G' X n σ (if orZ (σ s.toNat) y w = -1 then 5 else 0) ∧ ∀ Q, RK MX9_told 0 [.ref X, .int (zi s), .int (zi y), .int (zi w), jk] [] (0, 0) (E, zg G, zk L, r) Q = Q (E, zg G', zk L, r) (.int (zi (orZ (σ s.toNat) y w))) := by
  have hn := (WK_k h).2.2.1
  have hs2 : I32 s := ⟨by omega, by omega⟩
  obtain ⟨a, kk, nn, τ, cl, ln, lv, fl, tb, f2, hH⟩ := id h
  obtain ⟨⟨⟨p, q, h1⟩, h2⟩, h3, -⟩ := hH
  obtain ⟨G1, g1, g2, g3⟩ := x_told (L := L) (y := y) (w := w) h1 hs2 ⟨by omega, by omega⟩ ⟨by omega, by omega⟩
  have eo := fun f => onS_t (f := f) (bad := decide (y < 1 ∨ ¬ (0 ≤ w ∧ w ≤ 3))) (n := n) (s := s) (by simp only [decide_eq_false_iff_not]; omega) hs
  rw [eo] at g2
  simp only [eo] at g3
  obtain ⟨w1, w2⟩ := WK_up h g1 g2
  exact ⟨G1, w1, w2, g3⟩
theorem W_back (h : WK E r G X n σ st) (hs : 0 ≤ s ∧ s < n) (hy : 1 ≤ y ∧ y < 2147483648) (hk : 1 ≤ k ∧ k < 2147483648) : ∃ G', FX X G G' ∧ WK E r G' X n σ (if lbZ (σ s.toNat) y y k = -1 then 5 else 0) ∧ ∀ Q, RK MX9_back 0 [.ref X, .int (zi s), .int (zi y), .int (zi k), jk] [] (0, 0) (E, zg G, zk L, r) Q = Q (E, zg G', zk L, r) (.int (zi (lbZ (σ s.toNat) y y k))) := by
  have hn := (WK_k h).2.2.1
  have hs2 : I32 s := ⟨by omega, by omega⟩
  obtain ⟨a, kk, nn, τ, cl, ln, lv, fl, tb, f2, hH⟩ := id h
  obtain ⟨⟨⟨p, q, h1⟩, h2⟩, h3, -⟩ := hH
  obtain ⟨G1, g1, g2, g3⟩ := x_back (L := L) (y := y) (k := k) h1 hs2 ⟨by omega, by omega⟩ ⟨by omega, by omega⟩
  have eo := fun f => onS_t (f := f) (bad := decide (y < 1 ∨ k < 1)) (n := n) (s := s) (by simp only [decide_eq_false_iff_not]; omega) hs
  rw [eo] at g2
  simp only [eo] at g3
  obtain ⟨w1, w2⟩ := WK_up h g1 g2
  exact ⟨G1, w1, w2, g3⟩
theorem W_ahead (h : WK E r G X n σ st) (hs : 0 ≤ s ∧ s < n) (hy : 1 ≤ y ∧ y < 2147483648) (hk : 1 ≤ k ∧ k < 2147483648) : ∃ G', FX X G G' ∧ WK E r G' X n σ (if lnoZ (σ s.toNat) y k = -1 then 5 else 0) ∧ ∀ Q, RK MX9_ahead 0 [.ref X, .int (zi s), .int (zi y), .int (zi k), jk] [] (0, 0) (E, zg G, zk L, r) Q = Q (E, zg G', zk L, r) (.int (zi (lnoZ (σ s.toNat) y k))) := by
  have hn := (WK_k h).2.2.1
  have hs2 : I32 s := ⟨by omega, by omega⟩
  obtain ⟨a, kk, nn, τ, cl, ln, lv, fl, tb, f2, hH⟩ := id h
  obtain ⟨⟨⟨p, q, h1⟩, h2⟩, h3, -⟩ := hH
  obtain ⟨G1, g1, g2, g3⟩ := x_ahead (L := L) (y := y) (k := k) h1 hs2 ⟨by omega, by omega⟩ ⟨by omega, by omega⟩
  have eo := fun f => onS_t (f := f) (bad := decide (y < 1 ∨ k < 1)) (n := n) (s := s) (by simp only [decide_eq_false_iff_not]; omega) hs
  rw [eo] at g2
  simp only [eo] at g3
  obtain ⟨w1, w2⟩ := WK_up h g1 g2
  exact ⟨G1, w1, w2, g3⟩
theorem W_rank (h : WK E r G X n σ st) (hs : 0 ≤ s ∧ s < n) (hx : I32 x) : ∃ G', FX X G G' ∧ WK E r G' X n σ (if poZ (σ s.toNat) x = -1 then 5 else 0) ∧ ∀ Q, RK MX9_rank 0 [.ref X, .int (zi s), .int (zi x), jk] [] (0, 0) (E, zg G, zk L, r) Q = Q (E, zg G', zk L, r) (.int (zi (poZ (σ s.toNat) x))) := by
  have hn := (WK_k h).2.2.1
  have hs2 : I32 s := ⟨by omega, by omega⟩
  obtain ⟨a, kk, nn, τ, cl, ln, lv, fl, tb, f2, hH⟩ := id h
  obtain ⟨⟨⟨p, q, h1⟩, h2⟩, h3, -⟩ := hH
  obtain ⟨G1, g1, g2, g3⟩ := x_rank (L := L) (x := x) h1 hs2 hx
  have eo := fun f => onS_t (f := f) (bad := false) (n := n) (s := s) (by rfl) hs
  rw [eo] at g2
  simp only [eo] at g3
  obtain ⟨w1, w2⟩ := WK_up h g1 g2
  exact ⟨G1, w1, w2, g3⟩
theorem W_fate (h : WK E r G X n σ st) (hs : 0 ≤ s ∧ s < n) (hx : I32 x) (hw : 0 ≤ w ∧ w ≤ 1) : ∃ G', FX X G G' ∧ WK E r G' X n σ (if osZ (σ s.toNat) x w = -1 then 5 else 0) ∧ ∀ Q, RK MX9_fate 0 [.ref X, .int (zi s), .int (zi x), .int (zi w), jk] [] (0, 0) (E, zg G, zk L, r) Q = Q (E, zg G', zk L, r) (.int (zi (osZ (σ s.toNat) x w))) := by
  have hn := (WK_k h).2.2.1
  have hs2 : I32 s := ⟨by omega, by omega⟩
  obtain ⟨a, kk, nn, τ, cl, ln, lv, fl, tb, f2, hH⟩ := id h
  obtain ⟨⟨⟨p, q, h1⟩, h2⟩, h3, -⟩ := hH
  obtain ⟨G1, g1, g2, g3⟩ := x_fate (L := L) (x := x) (w := w) h1 hs2 hx ⟨by omega, by omega⟩
  have eo := fun f => onS_t (f := f) (bad := decide (¬ (0 ≤ w ∧ w ≤ 1))) (n := n) (s := s) (by simp only [decide_eq_false_iff_not]; omega) hs
  rw [eo] at g2
  simp only [eo] at g3
  obtain ⟨w1, w2⟩ := WK_up h g1 g2
  exact ⟨G1, w1, w2, g3⟩
theorem W_upTo (h : WK E r G X n σ st) (hs : 0 ≤ s ∧ s < n) (hy : I32 y) : ∃ G', FX X G G' ∧ WK E r G' X n σ 0 ∧ ∀ Q, RK MX9_upTo 0 [.ref X, .int (zi s), .int (zi y), jk] [] (0, 0) (E, zg G, zk L, r) Q = Q (E, zg G', zk L, r) (.int (zi (cuZ (σ s.toNat) y))) := by
  have hn := (WK_k h).2.2.1
  have hs2 : I32 s := ⟨by omega, by omega⟩
  obtain ⟨a, kk, nn, τ, cl, ln, lv, fl, tb, f2, hH⟩ := id h
  obtain ⟨⟨⟨p, q, h1⟩, h2⟩, h3, -⟩ := hH
  obtain ⟨G1, g1, g2, g3⟩ := x_upTo (L := L) (y := y) h1 hs2 hy
  have eo := fun f => onS_t (f := f) (bad := false) (n := n) (s := s) (by rfl) hs
  rw [eo] at g2
  simp only [eo] at g3
  obtain ⟨w1, w2⟩ := WK_up h g1 g2
  exact ⟨G1, w1, w2, g3⟩
end BS
