/-! The constructors of the class. -/
theorem v1_s {α : Type} (f : Nat → α) (a : Nat) (x : α) : u1 f a x a = x := if_pos rfl
theorem v1_a {α : Type} (f : Nat → α) (a : Nat) (x : α) {b : Nat} (h : b ≠ a) : u1 f a x b = f b := if_neg h
/-- an object made at a: what stood before a stands, a to c are taken -/
def GI (E : AE) (G L : Nat → Nat → Int) (r : Nat → Nat → Option Nat) (E' : AE) (G' L' : Nat → Nat → Int) (r' : Nat → Nat → Option Nat) (a c : Nat) : Prop := E'.1 = c ∧ E'.2.2 = E.2.2 ∧ (∀ x, x ≤ a → E'.2.1 x = E.2.1 x ∧ L' x = L x) ∧ (∀ x, x < a → G' x = G x ∧ r' x = r x) ∧ ∀ x, a < x → x < c → G' x = fun _ => 0
/-- objects made from b on, w an array of references that is filled -/
def GL (E : AE) (G L : Nat → Nat → Int) (r : Nat → Nat → Option Nat) (E' : AE) (G' L' : Nat → Nat → Int) (r' : Nat → Nat → Option Nat) (w b c : Nat) : Prop := E'.1 = c ∧ E'.2.2 = E.2.2 ∧ (∀ x, x < b → E'.2.1 x = E.2.1 x ∧ G' x = G x ∧ L' x = L x) ∧ (∀ x, x < b → x ≠ w → r' x = r x) ∧ ∀ x, b ≤ x → x < c → G' x = fun _ => 0
section CN
variable {E E' : AE} {G G' L L' : Nat → Nat → Int} {r r' : Nat → Nat → Option Nat} {Q : AH → Value → Prop} {a A S H D X y0 k1 k2 : Nat}
theorem kd_o {n : Nat} {f : Nat → Nat × Nat} {v : Nat × Nat} {z : Nat → Nat} {b k : Nat} (hne : a ≠ b) (h : kd (n, f, z) a = k) : kd (n, u1 f b v, z) a = k := by
  show (u1 f b v a).1 = k
  rw [v1_a _ _ _ hne]
  exact h
theorem kd_h {n : Nat} {f : Nat → Nat × Nat} {z : Nat → Nat} {b k l : Nat} : kd (n, u1 f b (k, l), z) b = k := by
  show (u1 f b (k, l) b).1 = k
  rw [v1_s]
theorem shS_m (h : shS E r S) (h1 : ∀ x, S ≤ x → x ≤ S + 5 → E'.2.1 x = E.2.1 x) (h2 : r' S = r S) : shS E' r' S := by
  unfold shS kd le at h ⊢
  rw [h1 S (by omega) (by omega), h1 (S + 1) (by omega) (by omega), h1 (S + 2) (by omega) (by omega), h1 (S + 3) (by omega) (by omega), h1 (S + 4) (by omega) (by omega), h1 (S + 5) (by omega) (by omega), h2]
  exact h
theorem shL_m (h : shL E r S) (h1 : ∀ x, S ≤ x → x ≤ S + 1 → E'.2.1 x = E.2.1 x) (h2 : r' S = r S) : shL E' r' S := by
  unfold shL kd le at h ⊢
  rw [h1 S (by omega) (by omega), h1 (S + 1) (by omega) (by omega), h2]
  exact h
theorem i7_init (hk : kd E a = 14) (he : E.1 = a + 1) : ∃ E' G' L' r', GI E G L r E' G' L' r' a (a + 6) ∧ G' a = G a ∧ shS E' r' a ∧ ∀ Q, RK MX7_init 0 [.ref a] [] (0, 0) (E, zg G, zk L, r) Q = Q (E', zg G', zk L', r') .null := by
  obtain ⟨e1, e2, e3⟩ := E
  have he : e1 = a + 1 := he
  subst he
  have hk : (e2 a).1 = 14 := hk
  refine ⟨(a + 6, u1 (u1 (u1 (u1 (u1 e2 (a + 1) (1, 12)) (a + 2) (1, 600)) (a + 3) (1, 601)) (a + 4) (1, 601)) (a + 5) (1, 600), e3), u1 (u1 (u1 (u1 (u1 G (a + 1) (fun _ => 0)) (a + 2) (fun _ => 0)) (a + 3) (fun _ => 0)) (a + 4) (fun _ => 0)) (a + 5) (fun _ => 0), u1 (u1 (u1 (u1 (u1 L (a + 1) (fun _ => 0)) (a + 2) (fun _ => 0)) (a + 3) (fun _ => 0)) (a + 4) (fun _ => 0)) (a + 5) (fun _ => 0), u2 (u1 (u2 (u1 (u2 (u1 (u2 (u1 (u2 (u1 r (a + 1) (fun _ => none)) a 5 (some (a + 1))) (a + 2) (fun _ => none)) a 9 (some (a + 2))) (a + 3) (fun _ => none)) a 10 (some (a + 3))) (a + 4) (fun _ => none)) a 11 (some (a + 4))) (a + 5) (fun _ => none)) a 12 (some (a + 5)), ⟨rfl, rfl, fun x hx => ⟨?_, ?_⟩, fun x hx => ⟨?_, ?_⟩, fun x h1 h2 => ?_⟩, ?_, ?_, fun Q => ?_⟩
  · show (u1 (u1 (u1 (u1 (u1 e2 (a + 1) (1, 12)) (a + 2) (1, 600)) (a + 3) (1, 601)) (a + 4) (1, 601)) (a + 5) (1, 600)) x = _
    rw [v1_a _ _ _ (by omega), v1_a _ _ _ (by omega), v1_a _ _ _ (by omega), v1_a _ _ _ (by omega), v1_a _ _ _ (by omega)]
  · rw [v1_a _ _ _ (by omega), v1_a _ _ _ (by omega), v1_a _ _ _ (by omega), v1_a _ _ _ (by omega), v1_a _ _ _ (by omega)]
  · rw [v1_a _ _ _ (by omega), v1_a _ _ _ (by omega), v1_a _ _ _ (by omega), v1_a _ _ _ (by omega), v1_a _ _ _ (by omega)]
  · rw [u2_a _ _ _ _ (by omega), v1_a _ _ _ (by omega), u2_a _ _ _ _ (by omega), v1_a _ _ _ (by omega), u2_a _ _ _ _ (by omega), v1_a _ _ _ (by omega), u2_a _ _ _ _ (by omega), v1_a _ _ _ (by omega), u2_a _ _ _ _ (by omega), v1_a _ _ _ (by omega)]
  · unfold u1
    repeat' split
    all_goals first | rfl | omega
  · rw [v1_a _ _ _ (by omega), v1_a _ _ _ (by omega), v1_a _ _ _ (by omega), v1_a _ _ _ (by omega), v1_a _ _ _ (by omega)]
  · unfold shS
    simp [kd, le, u1, u2, hk]
  · rw [fX7_init_0, fX7_init_1, fX7_init_4, fX7_init_5, fX7_init_7 (by decide) (by decide) (by decide), fX7_init_9 (by exact kd_o (show a ≠ a + 1 by omega) (show kd (_, e2, e3) a = 14 from hk)), fX7_init_12, fX7_init_13, fX7_init_16 (by decide) (by decide) (by decide), fX7_init_18 (by exact kd_o (show a ≠ a + 2 by omega) (kd_o (show a ≠ a + 1 by omega) (show kd (_, e2, e3) a = 14 from hk))), fX7_init_21, fX7_init_22, fX7_init_25 (by decide) (by decide) (by decide), fX7_init_27 (by exact kd_o (show a ≠ a + 3 by omega) (kd_o (show a ≠ a + 2 by omega) (kd_o (show a ≠ a + 1 by omega) (show kd (_, e2, e3) a = 14 from hk)))), fX7_init_30, fX7_init_31, fX7_init_34 (by decide) (by decide) (by decide), fX7_init_36 (by exact kd_o (show a ≠ a + 4 by omega) (kd_o (show a ≠ a + 3 by omega) (kd_o (show a ≠ a + 2 by omega) (kd_o (show a ≠ a + 1 by omega) (show kd (_, e2, e3) a = 14 from hk))))), fX7_init_39, fX7_init_40, fX7_init_43 (by decide) (by decide) (by decide), fX7_init_45 (by exact kd_o (show a ≠ a + 5 by omega) (kd_o (show a ≠ a + 4 by omega) (kd_o (show a ≠ a + 3 by omega) (kd_o (show a ≠ a + 2 by omega) (kd_o (show a ≠ a + 1 by omega) (show kd (_, e2, e3) a = 14 from hk)))))), fX7_init_48]
    rfl
theorem i2_init (hk : kd E a = 10) (he : E.1 = a + 1) : ∃ E' G' L' r', GI E G L r E' G' L' r' a (a + 2) ∧ G' a = G a ∧ shL E' r' a ∧ ∀ Q, RK MX2_init 0 [.ref a] [] (0, 0) (E, zg G, zk L, r) Q = Q (E', zg G', zk L', r') .null := by
  obtain ⟨e1, e2, e3⟩ := E
  have he : e1 = a + 1 := he
  subst he
  have hk : (e2 a).1 = 10 := hk
  refine ⟨(a + 2, u1 e2 (a + 1) (1, 10), e3), u1 G (a + 1) (fun _ => 0), u1 L (a + 1) (fun _ => 0), u2 (u1 r (a + 1) (fun _ => none)) a 0 (some (a + 1)), ⟨rfl, rfl, fun x hx => ⟨?_, ?_⟩, fun x hx => ⟨?_, ?_⟩, fun x h1 h2 => ?_⟩, ?_, ?_, fun Q => ?_⟩
  · show (u1 e2 (a + 1) (1, 10)) x = _
    rw [v1_a _ _ _ (by omega)]
  · rw [v1_a _ _ _ (by omega)]
  · rw [v1_a _ _ _ (by omega)]
  · rw [u2_a _ _ _ _ (by omega), v1_a _ _ _ (by omega)]
  · unfold u1
    repeat' split
    all_goals first | rfl | omega
  · rw [v1_a _ _ _ (by omega)]
  · unfold shL
    simp [kd, le, u1, u2, hk]
  · rw [fX2_init_0, fX2_init_1, fX2_init_4, fX2_init_5, fX2_init_7 (by decide) (by decide) (by decide), fX2_init_9 (by exact kd_o (show a ≠ a + 1 by omega) (show kd (_, e2, e3) a = 10 from hk)), fX2_init_12]
    rfl
theorem i4_init (hk : kd E a = 11) (he : E.1 = a + 1) : ∃ E' G' L' r', GI E G L r E' G' L' r' a (a + 2) ∧ G' a = G a ∧ shP E' r' a ∧ ∀ Q, RK MX4_init 0 [.ref a] [] (0, 0) (E, zg G, zk L, r) Q = Q (E', zg G', zk L', r') .null := by
  obtain ⟨e1, e2, e3⟩ := E
  have he : e1 = a + 1 := he
  subst he
  have hk : (e2 a).1 = 11 := hk
  refine ⟨(a + 2, u1 e2 (a + 1) (1, 3600), e3), u1 G (a + 1) (fun _ => 0), u1 L (a + 1) (fun _ => 0), u2 (u1 r (a + 1) (fun _ => none)) a 0 (some (a + 1)), ⟨rfl, rfl, fun x hx => ⟨?_, ?_⟩, fun x hx => ⟨?_, ?_⟩, fun x h1 h2 => ?_⟩, ?_, ?_, fun Q => ?_⟩
  · show (u1 e2 (a + 1) (1, 3600)) x = _
    rw [v1_a _ _ _ (by omega)]
  · rw [v1_a _ _ _ (by omega)]
  · rw [v1_a _ _ _ (by omega)]
  · rw [u2_a _ _ _ _ (by omega), v1_a _ _ _ (by omega)]
  · unfold u1
    repeat' split
    all_goals first | rfl | omega
  · rw [v1_a _ _ _ (by omega)]
  · unfold shP
    simp [kd, le, u1, u2, hk]
  · rw [fX4_init_0, fX4_init_1, fX4_init_4, fX4_init_5, fX4_init_8 (by decide) (by decide) (by decide), fX4_init_10 (by exact kd_o (show a ≠ a + 1 by omega) (show kd (_, e2, e3) a = 11 from hk)), fX4_init_13]
    rfl
theorem l6_a (hH : H < y0) (hA : A < y0) (hHA : H ≠ A) : ∀ (k t : Nat) (E : AE) (G L : Nat → Nat → Int) (r : Nat → Nat → Option Nat) (k1 k2 : Nat), t + k = 4 → E.1 = y0 + 6 * t → kd E H = 13 → r H 0 = some A → kd E A = 5 → le E A = 4 → (∀ u, u < t → shS E r (y0 + 6 * u) ∧ r A u = some (y0 + 6 * u)) → k1 + 6 * k ≤ 83 → k2 + 2428 * k ≤ 29203 →
    ∃ E' G' L' r', GL E G L r E' G' L' r' A (y0 + 6 * t) (y0 + 6 * 4) ∧ (∀ u, u < 4 → shS E' r' (y0 + 6 * u) ∧ r' A u = some (y0 + 6 * u)) ∧ ∀ Q, RK MX6_init 47 [.ref H, .int (zi (t : Int))] [] (k1, k2) (E, zg G, zk L, r) Q = RK MX6_init 75 [.ref H, .int (zi 4)] [] (k1 + 6 * k, k2 + 2428 * k) (E', zg G', zk L', r') Q := by
  intro k
  induction k with
  | zero =>
    intro t E G L r k1 k2 ht he hk hr ka la hs h1 h2
    have et : t = 4 := by omega
    subst et
    refine ⟨E, G, L, r, ⟨he, rfl, fun x _ => ⟨rfl, rfl, rfl⟩, fun x _ _ => rfl, fun x h3 h4 => absurd h4 (by omega)⟩, hs, fun Q => ?_⟩
    rw [fX6_init_47, fX6_init_48, fX6_init_49 hk hr, fX6_init_52 (by rw [ka]; decide), la, fX6_init_53 (by decide) (by decide), if_neg (by decide)]
    rfl
  | succ k ih =>
    intro t E G L r k1 k2 ht he hk hr ka la hs h1 h2
    obtain ⟨e1, e2, e3⟩ := E
    have he : e1 = y0 + 6 * t := he
    obtain ⟨y, hy⟩ : ∃ y, y = y0 + 6 * t := ⟨_, rfl⟩
    rw [← hy] at he
    subst he
    obtain ⟨E2, G2, L2, r2, ⟨g1, g2, g3, g4, g5⟩, gy, gs, ge⟩ := i7_init (E := (e1 + 1, u1 e2 e1 (14, 14), e3)) (G := u1 G e1 (fun _ => 0)) (L := u1 L e1 (fun _ => 0)) (r := u1 r e1 (fun _ => none)) (a := e1) kd_h rfl
    let r3 : Nat → Nat → Option Nat := u2 r2 A t (some e1)
    have gk : ∀ x, x < e1 → E2.2.1 x = e2 x := fun x hx => by rw [(g3 x (by omega)).1]; exact v1_a _ _ _ (by omega)
    have gr : ∀ x, x < e1 → x ≠ A → r3 x = r x := fun x hx hxA => by
      show u2 r2 A t (some e1) x = r x
      rw [u2_a _ _ _ _ hxA, (g4 x hx).2, v1_a _ _ _ (by omega)]
    have gA : ∀ j, j ≠ t → r3 A j = r A j := fun j hj => by
      show u2 r2 A t (some e1) A j = r A j
      rw [u2_i _ _ _ _ hj, (g4 A (by omega)).2, v1_a _ _ _ (by omega)]
    have e3s : shS E2 r3 e1 := by
      have q : r3 e1 = r2 e1 := u2_a _ _ _ _ (by omega)
      exact shS_m gs (fun _ _ _ => rfl) q
    have k2A : kd E2 A = 5 := by
      show (E2.2.1 A).1 = 5
      rw [gk A (by omega)]
      exact ka
    have l2A : le E2 A = 4 := by
      show (E2.2.1 A).2 = 4
      rw [gk A (by omega)]
      exact la
    have k2H : kd E2 H = 13 := by
      show (E2.2.1 H).1 = 13
      rw [gk H (by omega)]
      exact hk
    have k2y : kd E2 e1 = 14 := by
      show (E2.2.1 e1).1 = 14
      rw [(g3 e1 (by omega)).1]
      exact kd_h (n := 0) (z := e3)
    obtain ⟨E4, G4, L4, r4, ⟨j1, j2, j3, j4, j5⟩, js, je⟩ := ih (t + 1) E2 G2 L2 r3 (k1 + 1 + 5) (k2 + 14 + 2414) (by omega) (by rw [g1]; omega) k2H ((congrFun (gr H (by omega) hHA) 0).trans hr) k2A l2A (fun u hu => by
      by_cases q : u = t
      · subst q
        rw [← hy]
        exact ⟨e3s, u2_s _ _ _ _⟩
      · obtain ⟨q1, q2⟩ := hs u (by omega)
        exact ⟨shS_m q1 (fun x x1 x2 => gk x (by omega)) (gr _ (by omega) (by omega)), (gA u q).trans q2⟩) (by omega) (by omega)
    refine ⟨E4, G4, L4, r4, ⟨j1, j2.trans g2, fun x hx => ?_, fun x hx hxA => ?_, fun x h3 h4 => ?_⟩, js, fun Q => ?_⟩
    · obtain ⟨q1, q2, q3⟩ := j3 x (by omega)
      refine ⟨q1.trans (gk x (by omega)), q2.trans ?_, q3.trans ?_⟩
      · rw [(g4 x (by omega)).1, v1_a _ _ _ (by omega)]
      · rw [(g3 x (by omega)).2, v1_a _ _ _ (by omega)]
    · rw [j4 x (by omega) hxA, gr x (by omega) hxA]
    · by_cases q : y0 + 6 * (t + 1) ≤ x
      · exact j5 x q h4
      · rw [(j3 x (by omega)).2.1]
        by_cases q2 : x = e1
        · rw [q2, gy, v1_s]
        · exact g5 x (by omega) (by omega)
    · have hlt : (t : Int) < ((4 : Nat) : Int) := by omega
      have et : (t : Int).toNat = t := Int.toNat_natCast t
      have hk' : kd (e1, e2, e3) H = 13 := hk
      have er : r2 H 0 = some A := by rw [(g4 H (by omega)).2, v1_a _ _ _ (by omega)]; exact hr
      have q1 : k1 + 1 + 5 ≤ 83 := by omega
      have q2 : k2 + 14 + 2414 ≤ 29203 := Nat.le_trans (Nat.add_le_add_left (Nat.le_mul_of_pos_right 2428 (Nat.succ_pos k)) k2) h2
      have j' := je Q
      rw [show k1 + 1 + 5 + 6 * k = k1 + 6 * (k + 1) by omega, show k2 + 14 + 2414 + 2428 * k = k2 + 2428 * (k + 1) by omega, Int.natCast_add] at j'
      rw [← j', fX6_init_47, fX6_init_48, fX6_init_49 hk hr, fX6_init_52 (by rw [ka]; decide), la, fX6_init_53 (by omega) (by decide), if_pos hlt, fX6_init_56, fX6_init_57 hk hr, fX6_init_60, fX6_init_61 (by omega) (by omega), fX6_init_64 (c2_ref _), fX6_init_65 (k1 := k1 + 1) (k2 := k2 + 14) q1 q2 (by exact kd_h)]
      rw [ge, fX6_init_68 (Or.inl ⟨k2A, k2y⟩) (by rw [l2A]; omega) (by rw [l2A]; decide), fX6_init_69 (c2_ref _), fX6_init_72, et]
      rfl
theorem l6_b (hH : H < y0) (hA : A < y0) (hHA : H ≠ A) : ∀ (k t : Nat) (E : AE) (G L : Nat → Nat → Int) (r : Nat → Nat → Option Nat) (k1 k2 : Nat), t + k = 3 → E.1 = y0 + 2 * t → kd E H = 13 → r H 2 = some A → kd E A = 6 → le E A = 3 → (∀ u, u < t → shL E r (y0 + 2 * u) ∧ r A u = some (y0 + 2 * u)) → k1 + 2 * k ≤ 83 → k2 + 12 * k ≤ 29203 →
    ∃ E' G' L' r', GL E G L r E' G' L' r' A (y0 + 2 * t) (y0 + 2 * 3) ∧ (∀ u, u < 3 → shL E' r' (y0 + 2 * u) ∧ r' A u = some (y0 + 2 * u)) ∧ ∀ Q, RK MX6_init 77 [.ref H, .int (zi (t : Int))] [] (k1, k2) (E, zg G, zk L, r) Q = RK MX6_init 105 [.ref H, .int (zi 3)] [] (k1 + 2 * k, k2 + 12 * k) (E', zg G', zk L', r') Q := by
  intro k
  induction k with
  | zero =>
    intro t E G L r k1 k2 ht he hk hr ka la hs h1 h2
    have et : t = 3 := by omega
    subst et
    refine ⟨E, G, L, r, ⟨he, rfl, fun x _ => ⟨rfl, rfl, rfl⟩, fun x _ _ => rfl, fun x h3 h4 => absurd h4 (by omega)⟩, hs, fun Q => ?_⟩
    rw [fX6_init_77, fX6_init_78, fX6_init_79 hk hr, fX6_init_82 (by rw [ka]; decide), la, fX6_init_83 (by decide) (by decide), if_neg (by decide)]
    rfl
  | succ k ih =>
    intro t E G L r k1 k2 ht he hk hr ka la hs h1 h2
    obtain ⟨e1, e2, e3⟩ := E
    have he : e1 = y0 + 2 * t := he
    obtain ⟨y, hy⟩ : ∃ y, y = y0 + 2 * t := ⟨_, rfl⟩
    rw [← hy] at he
    subst he
    obtain ⟨E2, G2, L2, r2, ⟨g1, g2, g3, g4, g5⟩, gy, gs, ge⟩ := i2_init (E := (e1 + 1, u1 e2 e1 (10, 2), e3)) (G := u1 G e1 (fun _ => 0)) (L := u1 L e1 (fun _ => 0)) (r := u1 r e1 (fun _ => none)) (a := e1) kd_h rfl
    let r3 : Nat → Nat → Option Nat := u2 r2 A t (some e1)
    have gk : ∀ x, x < e1 → E2.2.1 x = e2 x := fun x hx => by rw [(g3 x (by omega)).1]; exact v1_a _ _ _ (by omega)
    have gr : ∀ x, x < e1 → x ≠ A → r3 x = r x := fun x hx hxA => by
      show u2 r2 A t (some e1) x = r x
      rw [u2_a _ _ _ _ hxA, (g4 x hx).2, v1_a _ _ _ (by omega)]
    have gA : ∀ j, j ≠ t → r3 A j = r A j := fun j hj => by
      show u2 r2 A t (some e1) A j = r A j
      rw [u2_i _ _ _ _ hj, (g4 A (by omega)).2, v1_a _ _ _ (by omega)]
    have e3s : shL E2 r3 e1 := by
      have q : r3 e1 = r2 e1 := u2_a _ _ _ _ (by omega)
      exact shL_m gs (fun _ _ _ => rfl) q
    have k2A : kd E2 A = 6 := by
      show (E2.2.1 A).1 = 6
      rw [gk A (by omega)]
      exact ka
    have l2A : le E2 A = 3 := by
      show (E2.2.1 A).2 = 3
      rw [gk A (by omega)]
      exact la
    have k2H : kd E2 H = 13 := by
      show (E2.2.1 H).1 = 13
      rw [gk H (by omega)]
      exact hk
    have k2y : kd E2 e1 = 10 := by
      show (E2.2.1 e1).1 = 10
      rw [(g3 e1 (by omega)).1]
      exact kd_h (n := 0) (z := e3)
    obtain ⟨E4, G4, L4, r4, ⟨j1, j2, j3, j4, j5⟩, js, je⟩ := ih (t + 1) E2 G2 L2 r3 (k1 + 1 + 1) (k2 + 2 + 10) (by omega) (by rw [g1]; omega) k2H ((congrFun (gr H (by omega) hHA) 2).trans hr) k2A l2A (fun u hu => by
      by_cases q : u = t
      · subst q
        rw [← hy]
        exact ⟨e3s, u2_s _ _ _ _⟩
      · obtain ⟨q1, q2⟩ := hs u (by omega)
        exact ⟨shL_m q1 (fun x x1 x2 => gk x (by omega)) (gr _ (by omega) (by omega)), (gA u q).trans q2⟩) (by omega) (by omega)
    refine ⟨E4, G4, L4, r4, ⟨j1, j2.trans g2, fun x hx => ?_, fun x hx hxA => ?_, fun x h3 h4 => ?_⟩, js, fun Q => ?_⟩
    · obtain ⟨q1, q2, q3⟩ := j3 x (by omega)
      refine ⟨q1.trans (gk x (by omega)), q2.trans ?_, q3.trans ?_⟩
      · rw [(g4 x (by omega)).1, v1_a _ _ _ (by omega)]
      · rw [(g3 x (by omega)).2, v1_a _ _ _ (by omega)]
    · rw [j4 x (by omega) hxA, gr x (by omega) hxA]
    · by_cases q : y0 + 2 * (t + 1) ≤ x
      · exact j5 x q h4
      · rw [(j3 x (by omega)).2.1]
        by_cases q2 : x = e1
        · rw [q2, gy, v1_s]
        · exact g5 x (by omega) (by omega)
    · have hlt : (t : Int) < ((3 : Nat) : Int) := by omega
      have et : (t : Int).toNat = t := Int.toNat_natCast t
      have hk' : kd (e1, e2, e3) H = 13 := hk
      have er : r2 H 2 = some A := by rw [(g4 H (by omega)).2, v1_a _ _ _ (by omega)]; exact hr
      have q1 : k1 + 1 + 1 ≤ 83 := by omega
      have q2 : k2 + 2 + 10 ≤ 29203 := Nat.le_trans (Nat.add_le_add_left (Nat.le_mul_of_pos_right 12 (Nat.succ_pos k)) k2) h2
      have j' := je Q
      rw [show k1 + 1 + 1 + 2 * k = k1 + 2 * (k + 1) by omega, show k2 + 2 + 10 + 12 * k = k2 + 12 * (k + 1) by omega, Int.natCast_add] at j'
      rw [← j', fX6_init_77, fX6_init_78, fX6_init_79 hk hr, fX6_init_82 (by rw [ka]; decide), la, fX6_init_83 (by omega) (by decide), if_pos hlt, fX6_init_86, fX6_init_87 hk hr, fX6_init_90, fX6_init_91 (by omega) (by omega), fX6_init_94 (c2_ref _), fX6_init_95 (k1 := k1 + 1) (k2 := k2 + 2) q1 q2 (by exact kd_h)]
      rw [ge, fX6_init_98 (Or.inr ⟨k2A, k2y⟩) (by rw [l2A]; omega) (by rw [l2A]; decide), fX6_init_99 (c2_ref _), fX6_init_102, et]
      rfl
theorem l6_c (hH : H < y0) (hA : A < y0) (hHA : H ≠ A) : ∀ (k t : Nat) (E : AE) (G L : Nat → Nat → Int) (r : Nat → Nat → Option Nat) (k1 k2 : Nat), t + k = 8 → E.1 = y0 + 6 * t → kd E H = 13 → r H 6 = some A → kd E A = 5 → le E A = 8 → (∀ u, u < t → shS E r (y0 + 6 * u) ∧ r A u = some (y0 + 6 * u)) → k1 + 6 * k ≤ 83 → k2 + 2428 * k ≤ 29203 →
    ∃ E' G' L' r', GL E G L r E' G' L' r' A (y0 + 6 * t) (y0 + 6 * 8) ∧ (∀ u, u < 8 → shS E' r' (y0 + 6 * u) ∧ r' A u = some (y0 + 6 * u)) ∧ ∀ Q, RK MX6_init 107 [.ref H, .int (zi (t : Int))] [] (k1, k2) (E, zg G, zk L, r) Q = RK MX6_init 135 [.ref H, .int (zi 8)] [] (k1 + 6 * k, k2 + 2428 * k) (E', zg G', zk L', r') Q := by
  intro k
  induction k with
  | zero =>
    intro t E G L r k1 k2 ht he hk hr ka la hs h1 h2
    have et : t = 8 := by omega
    subst et
    refine ⟨E, G, L, r, ⟨he, rfl, fun x _ => ⟨rfl, rfl, rfl⟩, fun x _ _ => rfl, fun x h3 h4 => absurd h4 (by omega)⟩, hs, fun Q => ?_⟩
    rw [fX6_init_107, fX6_init_108, fX6_init_109 hk hr, fX6_init_112 (by rw [ka]; decide), la, fX6_init_113 (by decide) (by decide), if_neg (by decide)]
    rfl
  | succ k ih =>
    intro t E G L r k1 k2 ht he hk hr ka la hs h1 h2
    obtain ⟨e1, e2, e3⟩ := E
    have he : e1 = y0 + 6 * t := he
    obtain ⟨y, hy⟩ : ∃ y, y = y0 + 6 * t := ⟨_, rfl⟩
    rw [← hy] at he
    subst he
    obtain ⟨E2, G2, L2, r2, ⟨g1, g2, g3, g4, g5⟩, gy, gs, ge⟩ := i7_init (E := (e1 + 1, u1 e2 e1 (14, 14), e3)) (G := u1 G e1 (fun _ => 0)) (L := u1 L e1 (fun _ => 0)) (r := u1 r e1 (fun _ => none)) (a := e1) kd_h rfl
    let r3 : Nat → Nat → Option Nat := u2 r2 A t (some e1)
    have gk : ∀ x, x < e1 → E2.2.1 x = e2 x := fun x hx => by rw [(g3 x (by omega)).1]; exact v1_a _ _ _ (by omega)
    have gr : ∀ x, x < e1 → x ≠ A → r3 x = r x := fun x hx hxA => by
      show u2 r2 A t (some e1) x = r x
      rw [u2_a _ _ _ _ hxA, (g4 x hx).2, v1_a _ _ _ (by omega)]
    have gA : ∀ j, j ≠ t → r3 A j = r A j := fun j hj => by
      show u2 r2 A t (some e1) A j = r A j
      rw [u2_i _ _ _ _ hj, (g4 A (by omega)).2, v1_a _ _ _ (by omega)]
    have e3s : shS E2 r3 e1 := by
      have q : r3 e1 = r2 e1 := u2_a _ _ _ _ (by omega)
      exact shS_m gs (fun _ _ _ => rfl) q
    have k2A : kd E2 A = 5 := by
      show (E2.2.1 A).1 = 5
      rw [gk A (by omega)]
      exact ka
    have l2A : le E2 A = 8 := by
      show (E2.2.1 A).2 = 8
      rw [gk A (by omega)]
      exact la
    have k2H : kd E2 H = 13 := by
      show (E2.2.1 H).1 = 13
      rw [gk H (by omega)]
      exact hk
    have k2y : kd E2 e1 = 14 := by
      show (E2.2.1 e1).1 = 14
      rw [(g3 e1 (by omega)).1]
      exact kd_h (n := 0) (z := e3)
    obtain ⟨E4, G4, L4, r4, ⟨j1, j2, j3, j4, j5⟩, js, je⟩ := ih (t + 1) E2 G2 L2 r3 (k1 + 1 + 5) (k2 + 14 + 2414) (by omega) (by rw [g1]; omega) k2H ((congrFun (gr H (by omega) hHA) 6).trans hr) k2A l2A (fun u hu => by
      by_cases q : u = t
      · subst q
        rw [← hy]
        exact ⟨e3s, u2_s _ _ _ _⟩
      · obtain ⟨q1, q2⟩ := hs u (by omega)
        exact ⟨shS_m q1 (fun x x1 x2 => gk x (by omega)) (gr _ (by omega) (by omega)), (gA u q).trans q2⟩) (by omega) (by omega)
    refine ⟨E4, G4, L4, r4, ⟨j1, j2.trans g2, fun x hx => ?_, fun x hx hxA => ?_, fun x h3 h4 => ?_⟩, js, fun Q => ?_⟩
    · obtain ⟨q1, q2, q3⟩ := j3 x (by omega)
      refine ⟨q1.trans (gk x (by omega)), q2.trans ?_, q3.trans ?_⟩
      · rw [(g4 x (by omega)).1, v1_a _ _ _ (by omega)]
      · rw [(g3 x (by omega)).2, v1_a _ _ _ (by omega)]
    · rw [j4 x (by omega) hxA, gr x (by omega) hxA]
    · by_cases q : y0 + 6 * (t + 1) ≤ x
      · exact j5 x q h4
      · rw [(j3 x (by omega)).2.1]
        by_cases q2 : x = e1
        · rw [q2, gy, v1_s]
        · exact g5 x (by omega) (by omega)
    · have hlt : (t : Int) < ((8 : Nat) : Int) := by omega
      have et : (t : Int).toNat = t := Int.toNat_natCast t
      have hk' : kd (e1, e2, e3) H = 13 := hk
      have er : r2 H 6 = some A := by rw [(g4 H (by omega)).2, v1_a _ _ _ (by omega)]; exact hr
      have q1 : k1 + 1 + 5 ≤ 83 := by omega
      have q2 : k2 + 14 + 2414 ≤ 29203 := Nat.le_trans (Nat.add_le_add_left (Nat.le_mul_of_pos_right 2428 (Nat.succ_pos k)) k2) h2
      have j' := je Q
      rw [show k1 + 1 + 5 + 6 * k = k1 + 6 * (k + 1) by omega, show k2 + 14 + 2414 + 2428 * k = k2 + 2428 * (k + 1) by omega, Int.natCast_add] at j'
      rw [← j', fX6_init_107, fX6_init_108, fX6_init_109 hk hr, fX6_init_112 (by rw [ka]; decide), la, fX6_init_113 (by omega) (by decide), if_pos hlt, fX6_init_116, fX6_init_117 hk hr, fX6_init_120, fX6_init_121 (by omega) (by omega), fX6_init_124 (c2_ref _), fX6_init_125 (k1 := k1 + 1) (k2 := k2 + 14) q1 q2 (by exact kd_h)]
      rw [ge, fX6_init_128 (Or.inl ⟨k2A, k2y⟩) (by rw [l2A]; omega) (by rw [l2A]; decide), fX6_init_129 (c2_ref _), fX6_init_132, et]
      rfl
theorem l5_a (hH : H < y0) (hA : A < y0) (hHA : H ≠ A) : ∀ (k t : Nat) (E : AE) (G L : Nat → Nat → Int) (r : Nat → Nat → Option Nat) (k1 k2 : Nat), t + k = 4 → E.1 = y0 + 6 * t → kd E H = 12 → r H 9 = some A → kd E A = 5 → le E A = 4 → (∀ u, u < t → shS E r (y0 + 6 * u) ∧ r A u = some (y0 + 6 * u)) → k1 + 6 * k ≤ 35 → k2 + 2428 * k ≤ 10369 →
    ∃ E' G' L' r', GL E G L r E' G' L' r' A (y0 + 6 * t) (y0 + 6 * 4) ∧ (∀ u, u < 4 → shS E' r' (y0 + 6 * u) ∧ r' A u = some (y0 + 6 * u)) ∧ ∀ Q, RK MX5_init 57 [.ref H, .int (zi (t : Int))] [] (k1, k2) (E, zg G, zk L, r) Q = RK MX5_init 85 [.ref H, .int (zi 4)] [] (k1 + 6 * k, k2 + 2428 * k) (E', zg G', zk L', r') Q := by
  intro k
  induction k with
  | zero =>
    intro t E G L r k1 k2 ht he hk hr ka la hs h1 h2
    have et : t = 4 := by omega
    subst et
    refine ⟨E, G, L, r, ⟨he, rfl, fun x _ => ⟨rfl, rfl, rfl⟩, fun x _ _ => rfl, fun x h3 h4 => absurd h4 (by omega)⟩, hs, fun Q => ?_⟩
    rw [fX5_init_57, fX5_init_58, fX5_init_59 hk hr, fX5_init_62 (by rw [ka]; decide), la, fX5_init_63 (by decide) (by decide), if_neg (by decide)]
    rfl
  | succ k ih =>
    intro t E G L r k1 k2 ht he hk hr ka la hs h1 h2
    obtain ⟨e1, e2, e3⟩ := E
    have he : e1 = y0 + 6 * t := he
    obtain ⟨y, hy⟩ : ∃ y, y = y0 + 6 * t := ⟨_, rfl⟩
    rw [← hy] at he
    subst he
    obtain ⟨E2, G2, L2, r2, ⟨g1, g2, g3, g4, g5⟩, gy, gs, ge⟩ := i7_init (E := (e1 + 1, u1 e2 e1 (14, 14), e3)) (G := u1 G e1 (fun _ => 0)) (L := u1 L e1 (fun _ => 0)) (r := u1 r e1 (fun _ => none)) (a := e1) kd_h rfl
    let r3 : Nat → Nat → Option Nat := u2 r2 A t (some e1)
    have gk : ∀ x, x < e1 → E2.2.1 x = e2 x := fun x hx => by rw [(g3 x (by omega)).1]; exact v1_a _ _ _ (by omega)
    have gr : ∀ x, x < e1 → x ≠ A → r3 x = r x := fun x hx hxA => by
      show u2 r2 A t (some e1) x = r x
      rw [u2_a _ _ _ _ hxA, (g4 x hx).2, v1_a _ _ _ (by omega)]
    have gA : ∀ j, j ≠ t → r3 A j = r A j := fun j hj => by
      show u2 r2 A t (some e1) A j = r A j
      rw [u2_i _ _ _ _ hj, (g4 A (by omega)).2, v1_a _ _ _ (by omega)]
    have e3s : shS E2 r3 e1 := by
      have q : r3 e1 = r2 e1 := u2_a _ _ _ _ (by omega)
      exact shS_m gs (fun _ _ _ => rfl) q
    have k2A : kd E2 A = 5 := by
      show (E2.2.1 A).1 = 5
      rw [gk A (by omega)]
      exact ka
    have l2A : le E2 A = 4 := by
      show (E2.2.1 A).2 = 4
      rw [gk A (by omega)]
      exact la
    have k2H : kd E2 H = 12 := by
      show (E2.2.1 H).1 = 12
      rw [gk H (by omega)]
      exact hk
    have k2y : kd E2 e1 = 14 := by
      show (E2.2.1 e1).1 = 14
      rw [(g3 e1 (by omega)).1]
      exact kd_h (n := 0) (z := e3)
    obtain ⟨E4, G4, L4, r4, ⟨j1, j2, j3, j4, j5⟩, js, je⟩ := ih (t + 1) E2 G2 L2 r3 (k1 + 1 + 5) (k2 + 14 + 2414) (by omega) (by rw [g1]; omega) k2H ((congrFun (gr H (by omega) hHA) 9).trans hr) k2A l2A (fun u hu => by
      by_cases q : u = t
      · subst q
        rw [← hy]
        exact ⟨e3s, u2_s _ _ _ _⟩
      · obtain ⟨q1, q2⟩ := hs u (by omega)
        exact ⟨shS_m q1 (fun x x1 x2 => gk x (by omega)) (gr _ (by omega) (by omega)), (gA u q).trans q2⟩) (by omega) (by omega)
    refine ⟨E4, G4, L4, r4, ⟨j1, j2.trans g2, fun x hx => ?_, fun x hx hxA => ?_, fun x h3 h4 => ?_⟩, js, fun Q => ?_⟩
    · obtain ⟨q1, q2, q3⟩ := j3 x (by omega)
      refine ⟨q1.trans (gk x (by omega)), q2.trans ?_, q3.trans ?_⟩
      · rw [(g4 x (by omega)).1, v1_a _ _ _ (by omega)]
      · rw [(g3 x (by omega)).2, v1_a _ _ _ (by omega)]
    · rw [j4 x (by omega) hxA, gr x (by omega) hxA]
    · by_cases q : y0 + 6 * (t + 1) ≤ x
      · exact j5 x q h4
      · rw [(j3 x (by omega)).2.1]
        by_cases q2 : x = e1
        · rw [q2, gy, v1_s]
        · exact g5 x (by omega) (by omega)
    · have hlt : (t : Int) < ((4 : Nat) : Int) := by omega
      have et : (t : Int).toNat = t := Int.toNat_natCast t
      have hk' : kd (e1, e2, e3) H = 12 := hk
      have er : r2 H 9 = some A := by rw [(g4 H (by omega)).2, v1_a _ _ _ (by omega)]; exact hr
      have q1 : k1 + 1 + 5 ≤ 35 := by omega
      have q2 : k2 + 14 + 2414 ≤ 10369 := Nat.le_trans (Nat.add_le_add_left (Nat.le_mul_of_pos_right 2428 (Nat.succ_pos k)) k2) h2
      have j' := je Q
      rw [show k1 + 1 + 5 + 6 * k = k1 + 6 * (k + 1) by omega, show k2 + 14 + 2414 + 2428 * k = k2 + 2428 * (k + 1) by omega, Int.natCast_add] at j'
      rw [← j', fX5_init_57, fX5_init_58, fX5_init_59 hk hr, fX5_init_62 (by rw [ka]; decide), la, fX5_init_63 (by omega) (by decide), if_pos hlt, fX5_init_66, fX5_init_67 hk hr, fX5_init_70, fX5_init_71 (by omega) (by omega), fX5_init_74 (c2_ref _), fX5_init_75 (k1 := k1 + 1) (k2 := k2 + 14) q1 q2 (by exact kd_h)]
      rw [ge, fX5_init_78 (Or.inl ⟨k2A, k2y⟩) (by rw [l2A]; omega) (by rw [l2A]; decide), fX5_init_79 (c2_ref _), fX5_init_82, et]
      rfl
theorem l5_b (hH : H < y0) (hA : A < y0) (hHA : H ≠ A) : ∀ (k t : Nat) (E : AE) (G L : Nat → Nat → Int) (r : Nat → Nat → Option Nat) (k1 k2 : Nat), t + k = 3 → E.1 = y0 + 2 * t → kd E H = 12 → r H 11 = some A → kd E A = 6 → le E A = 3 → (∀ u, u < t → shL E r (y0 + 2 * u) ∧ r A u = some (y0 + 2 * u)) → k1 + 2 * k ≤ 35 → k2 + 12 * k ≤ 10369 →
    ∃ E' G' L' r', GL E G L r E' G' L' r' A (y0 + 2 * t) (y0 + 2 * 3) ∧ (∀ u, u < 3 → shL E' r' (y0 + 2 * u) ∧ r' A u = some (y0 + 2 * u)) ∧ ∀ Q, RK MX5_init 87 [.ref H, .int (zi (t : Int))] [] (k1, k2) (E, zg G, zk L, r) Q = RK MX5_init 115 [.ref H, .int (zi 3)] [] (k1 + 2 * k, k2 + 12 * k) (E', zg G', zk L', r') Q := by
  intro k
  induction k with
  | zero =>
    intro t E G L r k1 k2 ht he hk hr ka la hs h1 h2
    have et : t = 3 := by omega
    subst et
    refine ⟨E, G, L, r, ⟨he, rfl, fun x _ => ⟨rfl, rfl, rfl⟩, fun x _ _ => rfl, fun x h3 h4 => absurd h4 (by omega)⟩, hs, fun Q => ?_⟩
    rw [fX5_init_87, fX5_init_88, fX5_init_89 hk hr, fX5_init_92 (by rw [ka]; decide), la, fX5_init_93 (by decide) (by decide), if_neg (by decide)]
    rfl
  | succ k ih =>
    intro t E G L r k1 k2 ht he hk hr ka la hs h1 h2
    obtain ⟨e1, e2, e3⟩ := E
    have he : e1 = y0 + 2 * t := he
    obtain ⟨y, hy⟩ : ∃ y, y = y0 + 2 * t := ⟨_, rfl⟩
    rw [← hy] at he
    subst he
    obtain ⟨E2, G2, L2, r2, ⟨g1, g2, g3, g4, g5⟩, gy, gs, ge⟩ := i2_init (E := (e1 + 1, u1 e2 e1 (10, 2), e3)) (G := u1 G e1 (fun _ => 0)) (L := u1 L e1 (fun _ => 0)) (r := u1 r e1 (fun _ => none)) (a := e1) kd_h rfl
    let r3 : Nat → Nat → Option Nat := u2 r2 A t (some e1)
    have gk : ∀ x, x < e1 → E2.2.1 x = e2 x := fun x hx => by rw [(g3 x (by omega)).1]; exact v1_a _ _ _ (by omega)
    have gr : ∀ x, x < e1 → x ≠ A → r3 x = r x := fun x hx hxA => by
      show u2 r2 A t (some e1) x = r x
      rw [u2_a _ _ _ _ hxA, (g4 x hx).2, v1_a _ _ _ (by omega)]
    have gA : ∀ j, j ≠ t → r3 A j = r A j := fun j hj => by
      show u2 r2 A t (some e1) A j = r A j
      rw [u2_i _ _ _ _ hj, (g4 A (by omega)).2, v1_a _ _ _ (by omega)]
    have e3s : shL E2 r3 e1 := by
      have q : r3 e1 = r2 e1 := u2_a _ _ _ _ (by omega)
      exact shL_m gs (fun _ _ _ => rfl) q
    have k2A : kd E2 A = 6 := by
      show (E2.2.1 A).1 = 6
      rw [gk A (by omega)]
      exact ka
    have l2A : le E2 A = 3 := by
      show (E2.2.1 A).2 = 3
      rw [gk A (by omega)]
      exact la
    have k2H : kd E2 H = 12 := by
      show (E2.2.1 H).1 = 12
      rw [gk H (by omega)]
      exact hk
    have k2y : kd E2 e1 = 10 := by
      show (E2.2.1 e1).1 = 10
      rw [(g3 e1 (by omega)).1]
      exact kd_h (n := 0) (z := e3)
    obtain ⟨E4, G4, L4, r4, ⟨j1, j2, j3, j4, j5⟩, js, je⟩ := ih (t + 1) E2 G2 L2 r3 (k1 + 1 + 1) (k2 + 2 + 10) (by omega) (by rw [g1]; omega) k2H ((congrFun (gr H (by omega) hHA) 11).trans hr) k2A l2A (fun u hu => by
      by_cases q : u = t
      · subst q
        rw [← hy]
        exact ⟨e3s, u2_s _ _ _ _⟩
      · obtain ⟨q1, q2⟩ := hs u (by omega)
        exact ⟨shL_m q1 (fun x x1 x2 => gk x (by omega)) (gr _ (by omega) (by omega)), (gA u q).trans q2⟩) (by omega) (by omega)
    refine ⟨E4, G4, L4, r4, ⟨j1, j2.trans g2, fun x hx => ?_, fun x hx hxA => ?_, fun x h3 h4 => ?_⟩, js, fun Q => ?_⟩
    · obtain ⟨q1, q2, q3⟩ := j3 x (by omega)
      refine ⟨q1.trans (gk x (by omega)), q2.trans ?_, q3.trans ?_⟩
      · rw [(g4 x (by omega)).1, v1_a _ _ _ (by omega)]
      · rw [(g3 x (by omega)).2, v1_a _ _ _ (by omega)]
    · rw [j4 x (by omega) hxA, gr x (by omega) hxA]
    · by_cases q : y0 + 2 * (t + 1) ≤ x
      · exact j5 x q h4
      · rw [(j3 x (by omega)).2.1]
        by_cases q2 : x = e1
        · rw [q2, gy, v1_s]
        · exact g5 x (by omega) (by omega)
    · have hlt : (t : Int) < ((3 : Nat) : Int) := by omega
      have et : (t : Int).toNat = t := Int.toNat_natCast t
      have hk' : kd (e1, e2, e3) H = 12 := hk
      have er : r2 H 11 = some A := by rw [(g4 H (by omega)).2, v1_a _ _ _ (by omega)]; exact hr
      have q1 : k1 + 1 + 1 ≤ 35 := by omega
      have q2 : k2 + 2 + 10 ≤ 10369 := Nat.le_trans (Nat.add_le_add_left (Nat.le_mul_of_pos_right 12 (Nat.succ_pos k)) k2) h2
      have j' := je Q
      rw [show k1 + 1 + 1 + 2 * k = k1 + 2 * (k + 1) by omega, show k2 + 2 + 10 + 12 * k = k2 + 12 * (k + 1) by omega, Int.natCast_add] at j'
      rw [← j', fX5_init_87, fX5_init_88, fX5_init_89 hk hr, fX5_init_92 (by rw [ka]; decide), la, fX5_init_93 (by omega) (by decide), if_pos hlt, fX5_init_96, fX5_init_97 hk hr, fX5_init_100, fX5_init_101 (by omega) (by omega), fX5_init_104 (c2_ref _), fX5_init_105 (k1 := k1 + 1) (k2 := k2 + 2) q1 q2 (by exact kd_h)]
      rw [ge, fX5_init_108 (Or.inr ⟨k2A, k2y⟩) (by rw [l2A]; omega) (by rw [l2A]; decide), fX5_init_109 (c2_ref _), fX5_init_112, et]
      rfl
end CN
