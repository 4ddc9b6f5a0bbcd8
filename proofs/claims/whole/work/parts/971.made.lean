/-! The house made; the reference made. -/
section CN
variable {E E' : AE} {G G' L L' : Nat → Nat → Int} {r r' : Nat → Nat → Option Nat} {Q : AH → Value → Prop} {a A S H D X m : Nat}
theorem shD_m (h : shD E r D) (h1 : ∀ x, D ≤ x → x ≤ D + 35 → E'.2.1 x = E.2.1 x ∧ r' x = r x) : shD E' r' D := by
  obtain ⟨k0, ⟨k1, k2, k3, k4, k5⟩, ⟨l1, l2, l3, l4, l5⟩, d3, d4, d5⟩ := h
  have K : ∀ {x k : Nat}, D ≤ x → x ≤ D + 35 → kd E x = k → kd E' x = k := fun {x k} a b h => by
    show (E'.2.1 x).1 = k
    rw [(h1 x a b).1]
    exact h
  have LE : ∀ {x k : Nat}, D ≤ x → x ≤ D + 35 → le E x = k → le E' x = k := fun {x k} a b h => by
    show (E'.2.1 x).2 = k
    rw [(h1 x a b).1]
    exact h
  refine ⟨K (by omega) (by omega) k0, ⟨K (by omega) (by omega) k1, K (by omega) (by omega) k2, K (by omega) (by omega) k3, K (by omega) (by omega) k4, K (by omega) (by omega) k5⟩, ⟨LE (by omega) (by omega) l1, LE (by omega) (by omega) l2, LE (by omega) (by omega) l3, LE (by omega) (by omega) l4, LE (by omega) (by omega) l5⟩, ?_, fun t ht => ⟨shS_m (d4 t ht).1 (fun x a b => (h1 x (by omega) (by omega)).1) (h1 _ (by omega) (by omega)).2, ?_⟩, fun t ht => ⟨shL_m (d5 t ht).1 (fun x a b => (h1 x (by omega) (by omega)).1) (h1 _ (by omega) (by omega)).2, ?_⟩⟩
  · rw [(h1 D (by omega) (by omega)).2]
    exact d3
  · rw [(h1 _ (by omega) (by omega)).2]
    exact (d4 t ht).2
  · rw [(h1 _ (by omega) (by omega)).2]
    exact (d5 t ht).2
theorem shH_m (h : shH E r H) (h1 : ∀ x, H ≤ x → x ≤ H + 83 → E'.2.1 x = E.2.1 x ∧ r' x = r x) : shH E' r' H := by
  obtain ⟨k0, ⟨k1, k2, k3, k4, k5⟩, ⟨l1, l2, l3, l4, l5⟩, d3, d4, d5, d6, d7⟩ := h
  have K : ∀ {x k : Nat}, H ≤ x → x ≤ H + 83 → kd E x = k → kd E' x = k := fun {x k} a b h => by
    show (E'.2.1 x).1 = k
    rw [(h1 x a b).1]
    exact h
  have LE : ∀ {x k : Nat}, H ≤ x → x ≤ H + 83 → le E x = k → le E' x = k := fun {x k} a b h => by
    show (E'.2.1 x).2 = k
    rw [(h1 x a b).1]
    exact h
  refine ⟨K (by omega) (by omega) k0, ⟨K (by omega) (by omega) k1, K (by omega) (by omega) k2, K (by omega) (by omega) k3, K (by omega) (by omega) k4, K (by omega) (by omega) k5⟩, ⟨LE (by omega) (by omega) l1, LE (by omega) (by omega) l2, LE (by omega) (by omega) l3, LE (by omega) (by omega) l4, LE (by omega) (by omega) l5⟩, ?_, fun t ht => shS_m (d4 t ht) (fun x a b => (h1 x (by omega) (by omega)).1) (h1 _ (by omega) (by omega)).2, fun t ht => shL_m (d5 t ht) (fun x a b => (h1 x (by omega) (by omega)).1) (h1 _ (by omega) (by omega)).2, fun t ht => shS_m (d6 t ht) (fun x a b => (h1 x (by omega) (by omega)).1) (h1 _ (by omega) (by omega)).2, fun t ht => ?_⟩
  · rw [(h1 H (by omega) (by omega)).2]
    exact d3
  · rw [(h1 _ (by omega) (by omega)).2]
    exact d7 t ht
theorem shP_m (h : shP E r S) (h1 : ∀ x, S ≤ x → x ≤ S + 1 → E'.2.1 x = E.2.1 x ∧ r' x = r x) : shP E' r' S := by
  unfold shP kd le at h ⊢
  rw [(h1 S (by omega) (by omega)).1, (h1 (S + 1) (by omega) (by omega)).1, (h1 S (by omega) (by omega)).2]
  exact h
theorem i9_init (hk : kd E X = 15) (he : E.1 = X + 1) (hz : G X = fun _ => 0) : ∃ E' G' L' r', E'.1 = X + 130 ∧ E'.2.2 = E.2.2 ∧ (∀ x, x < X → E'.2.1 x = E.2.1 x ∧ G' x = G x ∧ L' x = L x ∧ r' x = r x) ∧ shX E' r' X ∧ shH E' r' (X + 37) ∧ sP r' (X + 37) (fun t => t) ∧ sA r' (X + 37) (fun t => t) ∧ (∀ x, X ≤ x → x < X + 130 → x ≠ X + 1 → G' x = fun _ => 0) ∧ (G' (X + 1) = fun j => if j = 4 then -1 else if j = 3 then -1 else 0) ∧ ∀ Q, RK MX9_init 0 [.ref X] [] (0, 0) (E, zg G, zk L, r) Q = Q (E', zg G', zk L', r') .null := by
  obtain ⟨E1, G1, L1, r1, ⟨a1, a2, a3, a4⟩, ⟨a5, a6⟩, ae⟩ := n5_init (G := G) (L := L) (r := r) (X + 1) he
  have k1 : kd E1 X = 15 := by
    show (E1.2.1 X).1 = 15
    rw [(a3 X (by omega)).1]
    exact hk
  obtain ⟨R1, hR1⟩ : ∃ R, R = u2 r1 X 0 (some E.1) := ⟨_, rfl⟩
  have o1 : ∀ x, x ≠ X → R1 x = r1 x := fun x hx => by rw [hR1]; exact u2_a _ _ _ _ hx
  obtain ⟨E2, G2, L2, r2, ⟨b1, b2, b3, b4⟩, ⟨b5, b6, b7⟩, be⟩ := n6_init (E := E1) (G := G1) (L := L1) (r := R1) (X + 37) a1
  have k2 : kd E2 X = 15 := by
    show (E2.2.1 X).1 = 15
    rw [(b3 X (by omega)).1]
    exact k1
  obtain ⟨R2, hR2⟩ : ∃ R, R = u2 r2 X 1 (some E1.1) := ⟨_, rfl⟩
  have o2 : ∀ x, x ≠ X → R2 x = r2 x := fun x hx => by rw [hR2]; exact u2_a _ _ _ _ hx
  obtain ⟨E3, G3, L3, r3, ⟨c1, c2', c3, c4⟩, c5, ce⟩ := n4_init (E := E2) (G := G2) (L := L2) (r := R2) (X + 121) b1
  have k3 : kd E3 X = 15 := by
    show (E3.2.1 X).1 = 15
    rw [(c3 X (by omega)).1]
    exact k2
  obtain ⟨R3, hR3⟩ : ∃ R, R = u2 r3 X 2 (some E2.1) := ⟨_, rfl⟩
  have o3 : ∀ x, x ≠ X → R3 x = r3 x := fun x hx => by rw [hR3]; exact u2_a _ _ _ _ hx
  obtain ⟨E4, G4, L4, r4, ⟨d1, d2, d3, d4⟩, d5, de⟩ := n7_init (E := E3) (G := G3) (L := L3) (r := R3) (X + 123) c1
  have k4 : kd E4 X = 15 := by
    show (E4.2.1 X).1 = 15
    rw [(d3 X (by omega)).1]
    exact k3
  obtain ⟨R4, hR4⟩ : ∃ R, R = u2 r4 X 3 (some E3.1) := ⟨_, rfl⟩
  have o4 : ∀ x, x ≠ X → R4 x = r4 x := fun x hx => by rw [hR4]; exact u2_a _ _ _ _ hx
  obtain ⟨E5, hE5⟩ : ∃ E5 : AE, E5 = (E4.1 + 1, u1 E4.2.1 E4.1 (1, 1200), E4.2.2) := ⟨_, rfl⟩
  obtain ⟨G5, hG5⟩ : ∃ g, g = u1 G4 E4.1 (fun _ => 0) := ⟨_, rfl⟩
  obtain ⟨L5, hL5⟩ : ∃ g, g = u1 L4 E4.1 (fun _ => 0) := ⟨_, rfl⟩
  obtain ⟨R5, hR5⟩ : ∃ R, R = u2 (u1 R4 E4.1 (fun _ => none)) X 4 (some E4.1) := ⟨_, rfl⟩
  have k5 : kd E5 X = 15 := by
    rw [hE5]
    show (u1 E4.2.1 E4.1 (1, 1200) X).1 = 15
    rw [v1_a _ _ _ (by omega)]
    exact k4
  have e5 : ∀ x, x < X + 129 → E5.2.1 x = E4.2.1 x := fun x hx => by rw [hE5]; exact v1_a _ _ _ (by omega)
  have o5 : ∀ x, x < X + 129 → x ≠ X → R5 x = R4 x := fun x hx hxX => by rw [hR5, u2_a _ _ _ _ hxX, v1_a _ _ _ (by omega)]
  have g5 : ∀ x, x < X + 129 → G5 x = G4 x := fun x hx => by rw [hG5]; exact v1_a _ _ _ (by omega)
  have l5 : ∀ x, x < X + 129 → L5 x = L4 x := fun x hx => by rw [hL5]; exact v1_a _ _ _ (by omega)
  obtain ⟨G6, hG6⟩ : ∃ g, g = u2 G5 X 5 0 := ⟨_, rfl⟩
  have g6 : ∀ x, x ≠ X → G6 x = G5 x := fun x hx => by rw [hG6]; exact u2_a _ _ _ _ hx
  -- what is kept
  have t4 : ∀ x, x < X + 129 → x ≠ X → E5.2.1 x = E4.2.1 x ∧ R5 x = r4 x := fun x hx h => ⟨e5 x hx, (o5 x hx h).trans (o4 x h)⟩
  have t3 : ∀ x, x < X + 123 → x ≠ X → E5.2.1 x = E3.2.1 x ∧ R5 x = r3 x := fun x hx h => ⟨(t4 x (by omega) h).1.trans (d3 x hx).1, ((t4 x (by omega) h).2.trans (d3 x hx).2.2.2).trans (o3 x h)⟩
  have t2 : ∀ x, x < X + 121 → x ≠ X → E5.2.1 x = E2.2.1 x ∧ R5 x = r2 x := fun x hx h => ⟨(t3 x (by omega) h).1.trans (c3 x hx).1, ((t3 x (by omega) h).2.trans (c3 x hx).2.2.2).trans (o2 x h)⟩
  have t1 : ∀ x, x < X + 37 → x ≠ X → E5.2.1 x = E1.2.1 x ∧ R5 x = r1 x := fun x hx h => ⟨(t2 x (by omega) h).1.trans (b3 x hx).1, ((t2 x (by omega) h).2.trans (b3 x hx).2.2.2).trans (o1 x h)⟩
  have s4 : ∀ x, x < X + 123 → x ≠ X → G6 x = G3 x := fun x hx h => ((g6 x h).trans (g5 x (by omega))).trans (d3 x hx).2.1
  have s2 : ∀ x, x < X + 121 → x ≠ X → G6 x = G2 x := fun x hx h => (s4 x (by omega) h).trans (c3 x hx).2.1
  have s1 : ∀ x, x < X + 37 → x ≠ X → G6 x = G1 x := fun x hx h => (s2 x (by omega) h).trans (b3 x hx).2.1
  have gX : G6 X = fun _ => 0 := by
    have q : G5 X = fun _ => 0 := by rw [g5 X (by omega), (d3 X (by omega)).2.1, (c3 X (by omega)).2.1, (b3 X (by omega)).2.1, (a3 X (by omega)).2.1, hz]
    funext j
    rw [hG6]
    by_cases hj : j = 5
    · rw [hj, u2_s]
    · rw [u2_i _ _ _ _ hj, q]
  have rX : ∀ j, R5 X j = if j = 4 then some (X + 129) else R4 X j := fun j => by
    rw [hR5]
    by_cases hj : j = 4
    · rw [hj, u2_s, if_pos rfl, d1]
    · rw [u2_i _ _ _ _ hj, if_neg hj, v1_a _ _ _ (by omega)]
  have rX4 : ∀ j, R4 X j = if j = 3 then some (X + 123) else R3 X j := fun j => by
    rw [hR4]
    by_cases hj : j = 3
    · rw [hj, u2_s, if_pos rfl, c1]
    · rw [u2_i _ _ _ _ hj, if_neg hj, (d3 X (by omega)).2.2.2]
  have rX3 : ∀ j, R3 X j = if j = 2 then some (X + 121) else R2 X j := fun j => by
    rw [hR3]
    by_cases hj : j = 2
    · rw [hj, u2_s, if_pos rfl, b1]
    · rw [u2_i _ _ _ _ hj, if_neg hj, (c3 X (by omega)).2.2.2]
  have rX2 : ∀ j, R2 X j = if j = 1 then some (X + 37) else R1 X j := fun j => by
    rw [hR2]
    by_cases hj : j = 1
    · rw [hj, u2_s, if_pos rfl, a1]
    · rw [u2_i _ _ _ _ hj, if_neg hj, (b3 X (by omega)).2.2.2]
  have rX1 : R1 X 0 = some (X + 1) := by rw [hR1, u2_s, he]
  refine ⟨E5, G6, L5, R5, ?_, ?_, fun x hx => ⟨?_, ?_, ?_, ?_⟩, ⟨k5, ⟨?_, ?_, ?_, ?_, ?_⟩, shD_m a5 (fun x x1 x2 => t1 x (by omega) (by omega)), shP_m c5 (fun x x1 x2 => t3 x (by omega) (by omega)), shS_m d5 (fun x x1 x2 => (t4 x (by omega) (by omega)).1) (t4 _ (by omega) (by omega)).2, ?_⟩, shH_m b5 (fun x x1 x2 => t2 x (by omega) (by omega)), ?_, ?_, fun x h1 h2 h3 => ?_, ?_, fun Q => ?_⟩
  · rw [hE5]
    show E4.1 + 1 = X + 130
    rw [d1]
  · rw [hE5]
    exact d2.trans (c2'.trans (b2.trans a2))
  · rw [e5 x (by omega), (d3 x (by omega)).1, (c3 x (by omega)).1, (b3 x (by omega)).1, (a3 x (by omega)).1]
  · rw [s1 x (by omega) (by omega), (a3 x (by omega)).2.1]
  · rw [l5 x (by omega), (d3 x (by omega)).2.2.1, (c3 x (by omega)).2.2.1, (b3 x (by omega)).2.2.1, (a3 x (by omega)).2.2.1]
  · rw [(t1 x (by omega) (by omega)).2, (a3 x (by omega)).2.2.2]
  · rw [rX, if_neg (by decide), rX4, if_neg (by decide), rX3, if_neg (by decide), rX2, if_neg (by decide), rX1]
  · rw [rX, if_neg (by decide), rX4, if_neg (by decide), rX3, if_neg (by decide), rX2, if_pos rfl]
  · rw [rX, if_neg (by decide), rX4, if_neg (by decide), rX3, if_pos rfl]
  · rw [rX, if_neg (by decide), rX4, if_pos rfl]
  · rw [rX, if_pos rfl]
  · have q : E5.2.1 (X + 129) = (1, 1200) := by
      rw [hE5, ← d1]
      exact v1_s _ _ _
    exact ⟨show (E5.2.1 (X + 129)).1 = 1 by rw [q], show (E5.2.1 (X + 129)).2 = 1200 by rw [q]⟩
  · refine ⟨fun t ht => ?_, fun t u _ _ h => h⟩
    rw [(t2 _ (by omega) (by omega)).2]
    exact b6.1 t ht
  · refine ⟨fun t ht => ?_, fun t u _ _ h => h⟩
    rw [(t2 _ (by omega) (by omega)).2]
    exact b7.1 t ht
  · by_cases x0 : x = X
    · rw [x0, gX]
    · by_cases x1 : x < X + 37
      · rw [s1 x x1 x0]
        exact a4 x (by omega) (by omega)
      · by_cases x2 : x < X + 121
        · rw [s2 x x2 x0]
          exact b4 x (by omega) (by omega)
        · by_cases x3 : x < X + 123
          · rw [s4 x x3 x0]
            exact c4 x (by omega) (by omega)
          · by_cases x4 : x < X + 129
            · rw [g6 x x0, g5 x x4]
              exact d4 x (by omega) (by omega)
            · have x5 : x = X + 129 := by omega
              rw [g6 x x0, hG5, x5, ← d1, v1_s]
  · rw [s1 _ (by omega) (by omega), a6]
  · rw [fX9_init_0, fX9_init_1, fX9_init_4, fX9_init_5 (by decide) (by decide), fX9_init_8 (c2_ref _), fX9_init_9 (by decide) (by decide) kd_h, ae]
    rw [fX9_init_12 k1, ← hR1, fX9_init_15, fX9_init_16 (by decide) (by decide), fX9_init_19 (c2_ref _), fX9_init_20 (by decide) (by decide) kd_h, be]
    rw [fX9_init_23 k2, ← hR2, fX9_init_26, fX9_init_27 (by decide) (by decide), fX9_init_30 (c2_ref _), fX9_init_31 (by decide) (by decide) kd_h, ce]
    rw [fX9_init_34 k3, ← hR3, fX9_init_37, fX9_init_38 (by decide) (by decide), fX9_init_41 (c2_ref _), fX9_init_42 (by decide) (by decide) kd_h, de]
    rw [fX9_init_45 k4, ← hR4, fX9_init_48, fX9_init_49, fX9_init_52 (by decide) (by decide) (by decide)]
    have ez : ((1200 : Int)).toNat = 1200 := rfl
    rw [ez, ← hE5, ← hG5, ← hL5, fX9_init_54 k5, ← hR5, fX9_init_57, fX9_init_58, fX9_init_59 k5, ← hG6, fX9_init_62]
/-- the reference's cells when it is made -/
def mkE (e2 : Nat → Nat × Nat) (m : Nat) : Nat → Nat × Nat := u1 (u1 (u1 (u1 (u1 (u1 (u1 (u1 (u1 (u1 (u1 (u1 (u1 e2 (m + 1) (1, 9120)) (m + 2) (1, 7296)) (m + 3) (1, 58368)) (m + 4) (1, 8)) (m + 5) (1, 33)) (m + 6) (1, 33)) (m + 7) (1, 600)) (m + 8) (3, 600)) (m + 9) (1, 600)) (m + 10) (1, 4000)) (m + 11) (2, 600)) (m + 12) (4, 7)) (m + 13) (4, 12)
def mkG (G : Nat → Nat → Int) (m : Nat) : Nat → Nat → Int := u1 (u1 (u2 (u2 (u1 (u1 (u1 (u1 (u1 (u1 (u1 (u1 (u1 (u1 (u1 G (m + 1) (fun _ => 0)) (m + 2) (fun _ => 0)) (m + 3) (fun _ => 0)) (m + 4) (fun _ => 0)) (m + 5) (fun _ => 0)) (m + 6) (fun _ => 0)) (m + 7) (fun _ => 0)) (m + 8) (fun _ => 0)) (m + 9) (fun _ => 0)) (m + 10) (fun _ => 0)) (m + 11) (fun _ => 0)) m 19 (-1)) m 20 (-1)) (m + 12) (fun _ => 0)) (m + 13) (fun _ => 0)
def mkL (L : Nat → Nat → Int) (m : Nat) : Nat → Nat → Int := u2 (u2 (u2 (u2 (u2 (u2 (u2 (u2 (u2 (u2 (u2 (u2 (u1 (u1 (u1 (u1 (u1 (u1 (u1 (u1 (u1 (u1 (u1 (u1 (u1 L (m + 1) (fun _ => 0)) (m + 2) (fun _ => 0)) (m + 3) (fun _ => 0)) (m + 4) (fun _ => 0)) (m + 5) (fun _ => 0)) (m + 6) (fun _ => 0)) (m + 7) (fun _ => 0)) (m + 8) (fun _ => 0)) (m + 9) (fun _ => 0)) (m + 10) (fun _ => 0)) (m + 11) (fun _ => 0)) (m + 12) (fun _ => 0)) (m + 13) (fun _ => 0)) (m + 13) 0 10278770) (m + 13) 1 131638) (m + 13) 2 79) (m + 13) 3 257011) (m + 13) 4 6793144) (m + 13) 5 2497681432) (m + 13) 6 6793797) (m + 13) 7 8864267) (m + 13) 8 3383428) (m + 13) 9 266675617) (m + 13) 10 404923) (m + 13) 11 243290
def mkR (r : Nat → Nat → Option Nat) (m : Nat) : Nat → Nat → Option Nat := u2 (u1 (u2 (u1 (u2 (u1 (u2 (u1 (u2 (u1 (u2 (u1 (u2 (u1 (u2 (u1 (u2 (u1 (u2 (u1 (u2 (u1 (u2 (u1 (u2 (u1 r (m + 1) (fun _ => none)) m 2 (some (m + 1))) (m + 2) (fun _ => none)) m 3 (some (m + 2))) (m + 3) (fun _ => none)) m 4 (some (m + 3))) (m + 4) (fun _ => none)) m 5 (some (m + 4))) (m + 5) (fun _ => none)) m 9 (some (m + 5))) (m + 6) (fun _ => none)) m 10 (some (m + 6))) (m + 7) (fun _ => none)) m 11 (some (m + 7))) (m + 8) (fun _ => none)) m 13 (some (m + 8))) (m + 9) (fun _ => none)) m 14 (some (m + 9))) (m + 10) (fun _ => none)) m 15 (some (m + 10))) (m + 11) (fun _ => none)) m 17 (some (m + 11))) (m + 12) (fun _ => none)) m 31 (some (m + 12))) (m + 13) (fun _ => none)) m 33 (some (m + 13))
theorem mk_shM {e1 : Nat} {e2 : Nat → Nat × Nat} {e3 : Nat → Nat} (hk : (e2 m).1 = 16) : shM (e1, mkE e2 m, e3) (mkR r m) m := by
  unfold shM
  simp [kd, le, mkE, mkR, u1, u2, hk]
theorem mkE_lt {e2 : Nat → Nat × Nat} {x : Nat} (h : x ≤ m) : mkE e2 m x = e2 x := by
  unfold mkE
  rw [v1_a _ _ _ (by omega), v1_a _ _ _ (by omega), v1_a _ _ _ (by omega), v1_a _ _ _ (by omega), v1_a _ _ _ (by omega), v1_a _ _ _ (by omega), v1_a _ _ _ (by omega), v1_a _ _ _ (by omega), v1_a _ _ _ (by omega), v1_a _ _ _ (by omega), v1_a _ _ _ (by omega), v1_a _ _ _ (by omega), v1_a _ _ _ (by omega)]
theorem mkG_lt {x : Nat} (h : x < m) : mkG G m x = G x := by
  unfold mkG
  rw [v1_a _ _ _ (by omega), v1_a _ _ _ (by omega), u2_a _ _ _ _ (by omega), u2_a _ _ _ _ (by omega), v1_a _ _ _ (by omega), v1_a _ _ _ (by omega), v1_a _ _ _ (by omega), v1_a _ _ _ (by omega), v1_a _ _ _ (by omega), v1_a _ _ _ (by omega), v1_a _ _ _ (by omega), v1_a _ _ _ (by omega), v1_a _ _ _ (by omega), v1_a _ _ _ (by omega), v1_a _ _ _ (by omega)]
theorem mkL_lt {x : Nat} (h : x ≤ m) : mkL L m x = L x := by
  unfold mkL
  rw [u2_a _ _ _ _ (by omega), u2_a _ _ _ _ (by omega), u2_a _ _ _ _ (by omega), u2_a _ _ _ _ (by omega), u2_a _ _ _ _ (by omega), u2_a _ _ _ _ (by omega), u2_a _ _ _ _ (by omega), u2_a _ _ _ _ (by omega), u2_a _ _ _ _ (by omega), u2_a _ _ _ _ (by omega), u2_a _ _ _ _ (by omega), u2_a _ _ _ _ (by omega), v1_a _ _ _ (by omega), v1_a _ _ _ (by omega), v1_a _ _ _ (by omega), v1_a _ _ _ (by omega), v1_a _ _ _ (by omega), v1_a _ _ _ (by omega), v1_a _ _ _ (by omega), v1_a _ _ _ (by omega), v1_a _ _ _ (by omega), v1_a _ _ _ (by omega), v1_a _ _ _ (by omega), v1_a _ _ _ (by omega), v1_a _ _ _ (by omega)]
theorem mkR_lt {x : Nat} (h : x < m) : mkR r m x = r x := by
  unfold mkR
  rw [u2_a _ _ _ _ (by omega), v1_a _ _ _ (by omega), u2_a _ _ _ _ (by omega), v1_a _ _ _ (by omega), u2_a _ _ _ _ (by omega), v1_a _ _ _ (by omega), u2_a _ _ _ _ (by omega), v1_a _ _ _ (by omega), u2_a _ _ _ _ (by omega), v1_a _ _ _ (by omega), u2_a _ _ _ _ (by omega), v1_a _ _ _ (by omega), u2_a _ _ _ _ (by omega), v1_a _ _ _ (by omega), u2_a _ _ _ _ (by omega), v1_a _ _ _ (by omega), u2_a _ _ _ _ (by omega), v1_a _ _ _ (by omega), u2_a _ _ _ _ (by omega), v1_a _ _ _ (by omega), u2_a _ _ _ _ (by omega), v1_a _ _ _ (by omega), u2_a _ _ _ _ (by omega), v1_a _ _ _ (by omega), u2_a _ _ _ _ (by omega), v1_a _ _ _ (by omega)]
theorem mkG_m (hz : G m = fun _ => 0) (j : Nat) : mkG G m m j = if j = 20 then -1 else if j = 19 then -1 else 0 := by
  simp [mkG, u1, u2, hz]
theorem mkG_z {x : Nat} (h1 : m < x) (h2 : x ≤ m + 13) : mkG G m x = fun _ => 0 := by
  have hx : x = m + 1 ∨ x = m + 2 ∨ x = m + 3 ∨ x = m + 4 ∨ x = m + 5 ∨ x = m + 6 ∨ x = m + 7 ∨ x = m + 8 ∨ x = m + 9 ∨ x = m + 10 ∨ x = m + 11 ∨ x = m + 12 ∨ x = m + 13 := by omega
  unfold mkG
  rcases hx with rfl | rfl | rfl | rfl | rfl | rfl | rfl | rfl | rfl | rfl | rfl | rfl | rfl
  · rw [v1_a _ _ _ (by omega), v1_a _ _ _ (by omega), u2_a _ _ _ _ (by omega), u2_a _ _ _ _ (by omega), v1_a _ _ _ (by omega), v1_a _ _ _ (by omega), v1_a _ _ _ (by omega), v1_a _ _ _ (by omega), v1_a _ _ _ (by omega), v1_a _ _ _ (by omega), v1_a _ _ _ (by omega), v1_a _ _ _ (by omega), v1_a _ _ _ (by omega), v1_a _ _ _ (by omega), v1_s]
  · rw [v1_a _ _ _ (by omega), v1_a _ _ _ (by omega), u2_a _ _ _ _ (by omega), u2_a _ _ _ _ (by omega), v1_a _ _ _ (by omega), v1_a _ _ _ (by omega), v1_a _ _ _ (by omega), v1_a _ _ _ (by omega), v1_a _ _ _ (by omega), v1_a _ _ _ (by omega), v1_a _ _ _ (by omega), v1_a _ _ _ (by omega), v1_a _ _ _ (by omega), v1_s]
  · rw [v1_a _ _ _ (by omega), v1_a _ _ _ (by omega), u2_a _ _ _ _ (by omega), u2_a _ _ _ _ (by omega), v1_a _ _ _ (by omega), v1_a _ _ _ (by omega), v1_a _ _ _ (by omega), v1_a _ _ _ (by omega), v1_a _ _ _ (by omega), v1_a _ _ _ (by omega), v1_a _ _ _ (by omega), v1_a _ _ _ (by omega), v1_s]
  · rw [v1_a _ _ _ (by omega), v1_a _ _ _ (by omega), u2_a _ _ _ _ (by omega), u2_a _ _ _ _ (by omega), v1_a _ _ _ (by omega), v1_a _ _ _ (by omega), v1_a _ _ _ (by omega), v1_a _ _ _ (by omega), v1_a _ _ _ (by omega), v1_a _ _ _ (by omega), v1_a _ _ _ (by omega), v1_s]
  · rw [v1_a _ _ _ (by omega), v1_a _ _ _ (by omega), u2_a _ _ _ _ (by omega), u2_a _ _ _ _ (by omega), v1_a _ _ _ (by omega), v1_a _ _ _ (by omega), v1_a _ _ _ (by omega), v1_a _ _ _ (by omega), v1_a _ _ _ (by omega), v1_a _ _ _ (by omega), v1_s]
  · rw [v1_a _ _ _ (by omega), v1_a _ _ _ (by omega), u2_a _ _ _ _ (by omega), u2_a _ _ _ _ (by omega), v1_a _ _ _ (by omega), v1_a _ _ _ (by omega), v1_a _ _ _ (by omega), v1_a _ _ _ (by omega), v1_a _ _ _ (by omega), v1_s]
  · rw [v1_a _ _ _ (by omega), v1_a _ _ _ (by omega), u2_a _ _ _ _ (by omega), u2_a _ _ _ _ (by omega), v1_a _ _ _ (by omega), v1_a _ _ _ (by omega), v1_a _ _ _ (by omega), v1_a _ _ _ (by omega), v1_s]
  · rw [v1_a _ _ _ (by omega), v1_a _ _ _ (by omega), u2_a _ _ _ _ (by omega), u2_a _ _ _ _ (by omega), v1_a _ _ _ (by omega), v1_a _ _ _ (by omega), v1_a _ _ _ (by omega), v1_s]
  · rw [v1_a _ _ _ (by omega), v1_a _ _ _ (by omega), u2_a _ _ _ _ (by omega), u2_a _ _ _ _ (by omega), v1_a _ _ _ (by omega), v1_a _ _ _ (by omega), v1_s]
  · rw [v1_a _ _ _ (by omega), v1_a _ _ _ (by omega), u2_a _ _ _ _ (by omega), u2_a _ _ _ _ (by omega), v1_a _ _ _ (by omega), v1_s]
  · rw [v1_a _ _ _ (by omega), v1_a _ _ _ (by omega), u2_a _ _ _ _ (by omega), u2_a _ _ _ _ (by omega), v1_s]
  · rw [v1_a _ _ _ (by omega), v1_s]
  · rw [v1_s]
theorem mkL_kWd : kWd (mkL L m) m := by
  intro i hi
  have hx : i = 0 ∨ i = 1 ∨ i = 2 ∨ i = 3 ∨ i = 4 ∨ i = 5 ∨ i = 6 ∨ i = 7 ∨ i = 8 ∨ i = 9 ∨ i = 10 ∨ i = 11 := by omega
  rcases hx with rfl | rfl | rfl | rfl | rfl | rfl | rfl | rfl | rfl | rfl | rfl | rfl
  · have q : mkL L m (m + 13) 0 = 10278770 := by
      unfold mkL
      rw [u2_i _ _ _ _ (by decide), u2_i _ _ _ _ (by decide), u2_i _ _ _ _ (by decide), u2_i _ _ _ _ (by decide), u2_i _ _ _ _ (by decide), u2_i _ _ _ _ (by decide), u2_i _ _ _ _ (by decide), u2_i _ _ _ _ (by decide), u2_i _ _ _ _ (by decide), u2_i _ _ _ _ (by decide), u2_i _ _ _ _ (by decide), u2_s]
    rw [q]
    decide
  · have q : mkL L m (m + 13) 1 = 131638 := by
      unfold mkL
      rw [u2_i _ _ _ _ (by decide), u2_i _ _ _ _ (by decide), u2_i _ _ _ _ (by decide), u2_i _ _ _ _ (by decide), u2_i _ _ _ _ (by decide), u2_i _ _ _ _ (by decide), u2_i _ _ _ _ (by decide), u2_i _ _ _ _ (by decide), u2_i _ _ _ _ (by decide), u2_i _ _ _ _ (by decide), u2_s]
    rw [q]
    decide
  · have q : mkL L m (m + 13) 2 = 79 := by
      unfold mkL
      rw [u2_i _ _ _ _ (by decide), u2_i _ _ _ _ (by decide), u2_i _ _ _ _ (by decide), u2_i _ _ _ _ (by decide), u2_i _ _ _ _ (by decide), u2_i _ _ _ _ (by decide), u2_i _ _ _ _ (by decide), u2_i _ _ _ _ (by decide), u2_i _ _ _ _ (by decide), u2_s]
    rw [q]
    decide
  · have q : mkL L m (m + 13) 3 = 257011 := by
      unfold mkL
      rw [u2_i _ _ _ _ (by decide), u2_i _ _ _ _ (by decide), u2_i _ _ _ _ (by decide), u2_i _ _ _ _ (by decide), u2_i _ _ _ _ (by decide), u2_i _ _ _ _ (by decide), u2_i _ _ _ _ (by decide), u2_i _ _ _ _ (by decide), u2_s]
    rw [q]
    decide
  · have q : mkL L m (m + 13) 4 = 6793144 := by
      unfold mkL
      rw [u2_i _ _ _ _ (by decide), u2_i _ _ _ _ (by decide), u2_i _ _ _ _ (by decide), u2_i _ _ _ _ (by decide), u2_i _ _ _ _ (by decide), u2_i _ _ _ _ (by decide), u2_i _ _ _ _ (by decide), u2_s]
    rw [q]
    decide
  · have q : mkL L m (m + 13) 5 = 2497681432 := by
      unfold mkL
      rw [u2_i _ _ _ _ (by decide), u2_i _ _ _ _ (by decide), u2_i _ _ _ _ (by decide), u2_i _ _ _ _ (by decide), u2_i _ _ _ _ (by decide), u2_i _ _ _ _ (by decide), u2_s]
    rw [q]
    decide
  · have q : mkL L m (m + 13) 6 = 6793797 := by
      unfold mkL
      rw [u2_i _ _ _ _ (by decide), u2_i _ _ _ _ (by decide), u2_i _ _ _ _ (by decide), u2_i _ _ _ _ (by decide), u2_i _ _ _ _ (by decide), u2_s]
    rw [q]
    decide
  · have q : mkL L m (m + 13) 7 = 8864267 := by
      unfold mkL
      rw [u2_i _ _ _ _ (by decide), u2_i _ _ _ _ (by decide), u2_i _ _ _ _ (by decide), u2_i _ _ _ _ (by decide), u2_s]
    rw [q]
    decide
  · have q : mkL L m (m + 13) 8 = 3383428 := by
      unfold mkL
      rw [u2_i _ _ _ _ (by decide), u2_i _ _ _ _ (by decide), u2_i _ _ _ _ (by decide), u2_s]
    rw [q]
    decide
  · have q : mkL L m (m + 13) 9 = 266675617 := by
      unfold mkL
      rw [u2_i _ _ _ _ (by decide), u2_i _ _ _ _ (by decide), u2_s]
    rw [q]
    decide
  · have q : mkL L m (m + 13) 10 = 404923 := by
      unfold mkL
      rw [u2_i _ _ _ _ (by decide), u2_s]
    rw [q]
    decide
  · have q : mkL L m (m + 13) 11 = 243290 := by
      unfold mkL
      rw [u2_s]
    rw [q]
    decide
theorem i10_init (hk : kd E m = 16) (he : E.1 = m + 1) : ∀ Q, RK MX10_init 0 [.ref m] [] (0, 0) (E, zg G, zk L, r) Q = Q ((m + 14, mkE E.2.1 m, E.2.2), zg (mkG G m), zk (mkL L m), mkR r m) .null := fun Q => by
  obtain ⟨e1, e2, e3⟩ := E
  have he : e1 = m + 1 := he
  subst he
  have hk : (e2 m).1 = 16 := hk
  have E13 : mkE e2 m (m + 13) = (4, 12) := by
    unfold mkE
    exact v1_s _ _ _
  have K13 : kd (m + 14, mkE e2 m, e3) (m + 13) = 4 := by
    show (mkE e2 m (m + 13)).1 = 4
    rw [E13]
  have L13 : le (m + 14, mkE e2 m, e3) (m + 13) = 12 := by
    show (mkE e2 m (m + 13)).2 = 12
    rw [E13]
  have W13 : ∀ i : Int, (0 ≤ i ∧ i < 12) → 0 ≤ i ∧ i < (le (m + 14, mkE e2 m, e3) (m + 13) : Int) := fun i hi => by rw [L13]; exact hi
  have V13 : (le (m + 14, mkE e2 m, e3) (m + 13) : Int) ≤ 2147483647 := by rw [L13]; decide
  rw [fX10_init_0, fX10_init_1, fX10_init_4, fX10_init_5, fX10_init_8 (by decide) (by decide) (by decide), fX10_init_10 (by exact kd_o (show m ≠ m + 1 by omega) (show kd (_, e2, e3) m = 16 from hk))]
  rw [fX10_init_13, fX10_init_14, fX10_init_17 (by decide) (by decide) (by decide), fX10_init_19 (by exact kd_o (show m ≠ m + 2 by omega) (kd_o (show m ≠ m + 1 by omega) (show kd (_, e2, e3) m = 16 from hk)))]
  rw [fX10_init_22, fX10_init_23, fX10_init_25 (by decide) (by decide) (by decide), fX10_init_27 (by exact kd_o (show m ≠ m + 3 by omega) (kd_o (show m ≠ m + 2 by omega) (kd_o (show m ≠ m + 1 by omega) (show kd (_, e2, e3) m = 16 from hk))))]
  rw [fX10_init_30, fX10_init_31, fX10_init_33 (by decide) (by decide) (by decide), fX10_init_35 (by exact kd_o (show m ≠ m + 4 by omega) (kd_o (show m ≠ m + 3 by omega) (kd_o (show m ≠ m + 2 by omega) (kd_o (show m ≠ m + 1 by omega) (show kd (_, e2, e3) m = 16 from hk)))))]
  rw [fX10_init_38, fX10_init_39, fX10_init_41 (by decide) (by decide) (by decide), fX10_init_43 (by exact kd_o (show m ≠ m + 5 by omega) (kd_o (show m ≠ m + 4 by omega) (kd_o (show m ≠ m + 3 by omega) (kd_o (show m ≠ m + 2 by omega) (kd_o (show m ≠ m + 1 by omega) (show kd (_, e2, e3) m = 16 from hk))))))]
  rw [fX10_init_46, fX10_init_47, fX10_init_49 (by decide) (by decide) (by decide), fX10_init_51 (by exact kd_o (show m ≠ m + 6 by omega) (kd_o (show m ≠ m + 5 by omega) (kd_o (show m ≠ m + 4 by omega) (kd_o (show m ≠ m + 3 by omega) (kd_o (show m ≠ m + 2 by omega) (kd_o (show m ≠ m + 1 by omega) (show kd (_, e2, e3) m = 16 from hk)))))))]
  rw [fX10_init_54, fX10_init_55, fX10_init_58 (by decide) (by decide) (by decide), fX10_init_60 (by exact kd_o (show m ≠ m + 7 by omega) (kd_o (show m ≠ m + 6 by omega) (kd_o (show m ≠ m + 5 by omega) (kd_o (show m ≠ m + 4 by omega) (kd_o (show m ≠ m + 3 by omega) (kd_o (show m ≠ m + 2 by omega) (kd_o (show m ≠ m + 1 by omega) (show kd (_, e2, e3) m = 16 from hk))))))))]
  rw [fX10_init_63, fX10_init_64, fX10_init_67 (by decide) (by decide) (by decide), fX10_init_69 (by exact kd_o (show m ≠ m + 8 by omega) (kd_o (show m ≠ m + 7 by omega) (kd_o (show m ≠ m + 6 by omega) (kd_o (show m ≠ m + 5 by omega) (kd_o (show m ≠ m + 4 by omega) (kd_o (show m ≠ m + 3 by omega) (kd_o (show m ≠ m + 2 by omega) (kd_o (show m ≠ m + 1 by omega) (show kd (_, e2, e3) m = 16 from hk)))))))))]
  rw [fX10_init_72, fX10_init_73, fX10_init_76 (by decide) (by decide) (by decide), fX10_init_78 (by exact kd_o (show m ≠ m + 9 by omega) (kd_o (show m ≠ m + 8 by omega) (kd_o (show m ≠ m + 7 by omega) (kd_o (show m ≠ m + 6 by omega) (kd_o (show m ≠ m + 5 by omega) (kd_o (show m ≠ m + 4 by omega) (kd_o (show m ≠ m + 3 by omega) (kd_o (show m ≠ m + 2 by omega) (kd_o (show m ≠ m + 1 by omega) (show kd (_, e2, e3) m = 16 from hk))))))))))]
  rw [fX10_init_81, fX10_init_82, fX10_init_85 (by decide) (by decide) (by decide), fX10_init_87 (by exact kd_o (show m ≠ m + 10 by omega) (kd_o (show m ≠ m + 9 by omega) (kd_o (show m ≠ m + 8 by omega) (kd_o (show m ≠ m + 7 by omega) (kd_o (show m ≠ m + 6 by omega) (kd_o (show m ≠ m + 5 by omega) (kd_o (show m ≠ m + 4 by omega) (kd_o (show m ≠ m + 3 by omega) (kd_o (show m ≠ m + 2 by omega) (kd_o (show m ≠ m + 1 by omega) (show kd (_, e2, e3) m = 16 from hk)))))))))))]
  rw [fX10_init_90, fX10_init_91, fX10_init_94 (by decide) (by decide) (by decide), fX10_init_96 (by exact kd_o (show m ≠ m + 11 by omega) (kd_o (show m ≠ m + 10 by omega) (kd_o (show m ≠ m + 9 by omega) (kd_o (show m ≠ m + 8 by omega) (kd_o (show m ≠ m + 7 by omega) (kd_o (show m ≠ m + 6 by omega) (kd_o (show m ≠ m + 5 by omega) (kd_o (show m ≠ m + 4 by omega) (kd_o (show m ≠ m + 3 by omega) (kd_o (show m ≠ m + 2 by omega) (kd_o (show m ≠ m + 1 by omega) (show kd (_, e2, e3) m = 16 from hk))))))))))))]
  rw [fX10_init_99, fX10_init_100, fX10_init_101 (by exact kd_o (show m ≠ m + 11 by omega) (kd_o (show m ≠ m + 10 by omega) (kd_o (show m ≠ m + 9 by omega) (kd_o (show m ≠ m + 8 by omega) (kd_o (show m ≠ m + 7 by omega) (kd_o (show m ≠ m + 6 by omega) (kd_o (show m ≠ m + 5 by omega) (kd_o (show m ≠ m + 4 by omega) (kd_o (show m ≠ m + 3 by omega) (kd_o (show m ≠ m + 2 by omega) (kd_o (show m ≠ m + 1 by omega) (show kd (_, e2, e3) m = 16 from hk))))))))))))]
  rw [fX10_init_104, fX10_init_105, fX10_init_106 (by exact kd_o (show m ≠ m + 11 by omega) (kd_o (show m ≠ m + 10 by omega) (kd_o (show m ≠ m + 9 by omega) (kd_o (show m ≠ m + 8 by omega) (kd_o (show m ≠ m + 7 by omega) (kd_o (show m ≠ m + 6 by omega) (kd_o (show m ≠ m + 5 by omega) (kd_o (show m ≠ m + 4 by omega) (kd_o (show m ≠ m + 3 by omega) (kd_o (show m ≠ m + 2 by omega) (kd_o (show m ≠ m + 1 by omega) (show kd (_, e2, e3) m = 16 from hk))))))))))))]
  rw [fX10_init_109, fX10_init_110, fX10_init_112 (by decide) (by decide) (by decide), fX10_init_114 (by exact kd_o (show m ≠ m + 12 by omega) (kd_o (show m ≠ m + 11 by omega) (kd_o (show m ≠ m + 10 by omega) (kd_o (show m ≠ m + 9 by omega) (kd_o (show m ≠ m + 8 by omega) (kd_o (show m ≠ m + 7 by omega) (kd_o (show m ≠ m + 6 by omega) (kd_o (show m ≠ m + 5 by omega) (kd_o (show m ≠ m + 4 by omega) (kd_o (show m ≠ m + 3 by omega) (kd_o (show m ≠ m + 2 by omega) (kd_o (show m ≠ m + 1 by omega) (show kd (_, e2, e3) m = 16 from hk)))))))))))))]
  rw [fX10_init_117, fX10_init_118, fX10_init_120 (by decide) (by decide) (by decide), fX10_init_122 (c2_ref _), fX10_init_123, fX10_init_124, fX10_init_127 (by exact K13) (by exact W13 0 (by decide)) (by exact V13), fX10_init_128 (c2_ref _), fX10_init_129, fX10_init_130, fX10_init_133 (by exact K13) (by exact W13 1 (by decide)) (by exact V13), fX10_init_134 (c2_ref _), fX10_init_135, fX10_init_136, fX10_init_139 (by exact K13) (by exact W13 2 (by decide)) (by exact V13), fX10_init_140 (c2_ref _), fX10_init_141, fX10_init_142, fX10_init_145 (by exact K13) (by exact W13 3 (by decide)) (by exact V13), fX10_init_146 (c2_ref _), fX10_init_147, fX10_init_148, fX10_init_151 (by exact K13) (by exact W13 4 (by decide)) (by exact V13), fX10_init_152 (c2_ref _), fX10_init_153, fX10_init_154, fX10_init_157 (by exact K13) (by exact W13 5 (by decide)) (by exact V13), fX10_init_158 (c2_ref _), fX10_init_159, fX10_init_161, fX10_init_164 (by exact K13) (by exact W13 6 (by decide)) (by exact V13), fX10_init_165 (c2_ref _), fX10_init_166, fX10_init_168, fX10_init_171 (by exact K13) (by exact W13 7 (by decide)) (by exact V13), fX10_init_172 (c2_ref _), fX10_init_173, fX10_init_175, fX10_init_178 (by exact K13) (by exact W13 8 (by decide)) (by exact V13), fX10_init_179 (c2_ref _), fX10_init_180, fX10_init_182, fX10_init_185 (by exact K13) (by exact W13 9 (by decide)) (by exact V13), fX10_init_186 (c2_ref _), fX10_init_187, fX10_init_189, fX10_init_192 (by exact K13) (by exact W13 10 (by decide)) (by exact V13), fX10_init_193 (c2_ref _), fX10_init_194, fX10_init_196, fX10_init_199 (by exact K13) (by exact W13 11 (by decide)) (by exact V13), fX10_init_200 (by exact kd_o (show m ≠ m + 13 by omega) (kd_o (show m ≠ m + 12 by omega) (kd_o (show m ≠ m + 11 by omega) (kd_o (show m ≠ m + 10 by omega) (kd_o (show m ≠ m + 9 by omega) (kd_o (show m ≠ m + 8 by omega) (kd_o (show m ≠ m + 7 by omega) (kd_o (show m ≠ m + 6 by omega) (kd_o (show m ≠ m + 5 by omega) (kd_o (show m ≠ m + 4 by omega) (kd_o (show m ≠ m + 3 by omega) (kd_o (show m ≠ m + 2 by omega) (kd_o (show m ≠ m + 1 by omega) (show kd (_, e2, e3) m = 16 from hk))))))))))))))]
  rw [fX10_init_203]
  rfl
end CN
