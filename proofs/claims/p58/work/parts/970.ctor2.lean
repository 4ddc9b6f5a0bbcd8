/-! Shelf, reader, house: made. -/
section CN
variable {E E' : AE} {G G' L L' : Nat → Nat → Int} {r r' : Nat → Nat → Option Nat} {Q : AH → Value → Prop} {a A S H D X y0 k1 k2 w b c : Nat}
theorem shS_G (h : shS E r S) (hg : GL E G L r E' G' L' r' w b c) (hb : S + 5 < b) (hw : S ≠ w) : shS E' r' S := shS_m h (fun x _ x2 => (hg.2.2.1 x (by omega)).1) (hg.2.2.2.1 S (by omega) hw)
theorem shL_G (h : shL E r S) (hg : GL E G L r E' G' L' r' w b c) (hb : S + 1 < b) (hw : S ≠ w) : shL E' r' S := shL_m h (fun x _ x2 => (hg.2.2.1 x (by omega)).1) (hg.2.2.2.1 S (by omega) hw)
theorem kd_G {k : Nat} (h : kd E a = k) (hg : GL E G L r E' G' L' r' w b c) (hb : a < b) : kd E' a = k := by
  show (E'.2.1 a).1 = k
  rw [(hg.2.2.1 a hb).1]
  exact h
theorem le_G {k : Nat} (h : le E a = k) (hg : GL E G L r E' G' L' r' w b c) (hb : a < b) : le E' a = k := by
  show (E'.2.1 a).2 = k
  rw [(hg.2.2.1 a hb).1]
  exact h
theorem r_G {j : Nat} {o : Option Nat} (h : r a j = o) (hg : GL E G L r E' G' L' r' w b c) (hb : a < b) (hw : a ≠ w) : r' a j = o := by
  rw [hg.2.2.2.1 a hb hw]
  exact h
theorem i6_0 (hk : kd E H = 13) (he : E.1 = H + 1) : ∃ E' G' L' r', GI E G L r E' G' L' r' H (H + 6) ∧ G' H = G H ∧ (kd E' H = 13 ∧ (kd E' (H + 1) = 5 ∧ kd E' (H + 2) = 6 ∧ kd E' (H + 3) = 1 ∧ kd E' (H + 4) = 1 ∧ kd E' (H + 5) = 5) ∧ (le E' (H + 1) = 4 ∧ le E' (H + 2) = 3 ∧ le E' (H + 3) = 8 ∧ le E' (H + 4) = 8 ∧ le E' (H + 5) = 8) ∧ (r' H 0 = some (H + 1) ∧ r' H 2 = some (H + 2) ∧ r' H 4 = some (H + 3) ∧ r' H 5 = some (H + 4) ∧ r' H 6 = some (H + 5))) ∧ ∀ Q, RK MX6_init 0 [.ref H, jk] [] (0, 0) (E, zg G, zk L, r) Q = RK MX6_init 47 [.ref H, .int (zi ((0 : Nat) : Int))] [] (5, 31) (E', zg G', zk L', r') Q := by
  obtain ⟨e1, e2, e3⟩ := E
  have he : e1 = H + 1 := he
  subst he
  have hk : (e2 H).1 = 13 := hk
  refine ⟨(H + 6, u1 (u1 (u1 (u1 (u1 e2 (H + 1) (5, 4)) (H + 2) (6, 3)) (H + 3) (1, 8)) (H + 4) (1, 8)) (H + 5) (5, 8), e3), u1 (u1 (u1 (u1 (u1 G (H + 1) (fun _ => 0)) (H + 2) (fun _ => 0)) (H + 3) (fun _ => 0)) (H + 4) (fun _ => 0)) (H + 5) (fun _ => 0), u1 (u1 (u1 (u1 (u1 L (H + 1) (fun _ => 0)) (H + 2) (fun _ => 0)) (H + 3) (fun _ => 0)) (H + 4) (fun _ => 0)) (H + 5) (fun _ => 0), u2 (u1 (u2 (u1 (u2 (u1 (u2 (u1 (u2 (u1 r (H + 1) (fun _ => none)) H 0 (some (H + 1))) (H + 2) (fun _ => none)) H 2 (some (H + 2))) (H + 3) (fun _ => none)) H 4 (some (H + 3))) (H + 4) (fun _ => none)) H 5 (some (H + 4))) (H + 5) (fun _ => none)) H 6 (some (H + 5)), ⟨rfl, rfl, fun x hx => ⟨?_, ?_⟩, fun x hx => ⟨?_, ?_⟩, fun x h1 h2 => ?_⟩, ?_, ?_, fun Q => ?_⟩
  · show (u1 (u1 (u1 (u1 (u1 e2 (H + 1) (5, 4)) (H + 2) (6, 3)) (H + 3) (1, 8)) (H + 4) (1, 8)) (H + 5) (5, 8)) x = _
    rw [v1_a _ _ _ (by omega), v1_a _ _ _ (by omega), v1_a _ _ _ (by omega), v1_a _ _ _ (by omega), v1_a _ _ _ (by omega)]
  · rw [v1_a _ _ _ (by omega), v1_a _ _ _ (by omega), v1_a _ _ _ (by omega), v1_a _ _ _ (by omega), v1_a _ _ _ (by omega)]
  · rw [v1_a _ _ _ (by omega), v1_a _ _ _ (by omega), v1_a _ _ _ (by omega), v1_a _ _ _ (by omega), v1_a _ _ _ (by omega)]
  · rw [u2_a _ _ _ _ (by omega), v1_a _ _ _ (by omega), u2_a _ _ _ _ (by omega), v1_a _ _ _ (by omega), u2_a _ _ _ _ (by omega), v1_a _ _ _ (by omega), u2_a _ _ _ _ (by omega), v1_a _ _ _ (by omega), u2_a _ _ _ _ (by omega), v1_a _ _ _ (by omega)]
  · unfold u1
    repeat' split
    all_goals first | rfl | omega
  · rw [v1_a _ _ _ (by omega), v1_a _ _ _ (by omega), v1_a _ _ _ (by omega), v1_a _ _ _ (by omega), v1_a _ _ _ (by omega)]
  · simp [kd, le, u1, u2, hk]
  · rw [fX6_init_0, fX6_init_1, fX6_init_4, fX6_init_5, fX6_init_6 (by decide) (by decide) (by decide), fX6_init_9 (by exact kd_o (show H ≠ H + 1 by omega) (show kd (_, e2, e3) H = 13 from hk)), fX6_init_12, fX6_init_13, fX6_init_14 (by decide) (by decide) (by decide), fX6_init_17 (by exact kd_o (show H ≠ H + 2 by omega) (kd_o (show H ≠ H + 1 by omega) (show kd (_, e2, e3) H = 13 from hk))), fX6_init_20, fX6_init_21, fX6_init_23 (by decide) (by decide) (by decide), fX6_init_25 (by exact kd_o (show H ≠ H + 3 by omega) (kd_o (show H ≠ H + 2 by omega) (kd_o (show H ≠ H + 1 by omega) (show kd (_, e2, e3) H = 13 from hk)))), fX6_init_28, fX6_init_29, fX6_init_31 (by decide) (by decide) (by decide), fX6_init_33 (by exact kd_o (show H ≠ H + 4 by omega) (kd_o (show H ≠ H + 3 by omega) (kd_o (show H ≠ H + 2 by omega) (kd_o (show H ≠ H + 1 by omega) (show kd (_, e2, e3) H = 13 from hk))))), fX6_init_36, fX6_init_37, fX6_init_39 (by decide) (by decide) (by decide), fX6_init_42 (by exact kd_o (show H ≠ H + 5 by omega) (kd_o (show H ≠ H + 4 by omega) (kd_o (show H ≠ H + 3 by omega) (kd_o (show H ≠ H + 2 by omega) (kd_o (show H ≠ H + 1 by omega) (show kd (_, e2, e3) H = 13 from hk)))))), fX6_init_45, fX6_init_46 (c2_ref _)]
    rfl
theorem i6_init (hk : kd E H = 13) (he : E.1 = H + 1) : ∃ E' G' L' r', GI E G L r E' G' L' r' H (H + 84) ∧ G' H = G H ∧ shH E' r' H ∧ sP r' H (fun t => t) ∧ sA r' H (fun t => t) ∧ ∀ Q, RK MX6_init 0 [.ref H, jk] [] (0, 0) (E, zg G, zk L, r) Q = Q (E', zg G', zk L', r') .null := by
  obtain ⟨E1, G1, L1, r1, ⟨a1, a2, a3, a4, a5⟩, ah, ⟨b0, ⟨b1, b2, b3, b4, b5⟩, ⟨c1, c2', c3, c4, c5⟩, ⟨d0, d2, d4, d5, d6⟩⟩, ae⟩ := i6_0 (G := G) (L := L) (r := r) hk he
  obtain ⟨E2, G2, L2, r2, g2, s2, e2⟩ := l6_a (H := H) (A := H + 1) (y0 := H + 6) (by omega) (by omega) (by omega) 4 0 E1 G1 L1 r1 5 31 rfl (by rw [a1]) b0 d0 b1 c1 (fun u hu => absurd hu (by omega)) (by decide) (by decide)
  obtain ⟨E3, G3, L3, r3, g3, s3, e3⟩ := l6_b (H := H) (A := H + 2) (y0 := H + 30) (by omega) (by omega) (by omega) 3 0 E2 G2 L2 r2 (5 + 6 * 4) (31 + 2428 * 4) rfl (by rw [g2.1]) (kd_G b0 g2 (by omega)) (r_G d2 g2 (by omega) (by omega)) (kd_G b2 g2 (by omega)) (le_G c2' g2 (by omega)) (fun u hu => absurd hu (by omega)) (by decide) (by decide)
  obtain ⟨E4, G4, L4, r4, g4, s4, e4⟩ := l6_c (H := H) (A := H + 5) (y0 := H + 36) (by omega) (by omega) (by omega) 8 0 E3 G3 L3 r3 (5 + 6 * 4 + 2 * 3) (31 + 2428 * 4 + 12 * 3) rfl (by rw [g3.1]) (kd_G (kd_G b0 g2 (by omega)) g3 (by omega)) (r_G (r_G d6 g2 (by omega) (by omega)) g3 (by omega) (by omega)) (kd_G (kd_G b5 g2 (by omega)) g3 (by omega)) (le_G (le_G c5 g2 (by omega)) g3 (by omega)) (fun u hu => absurd hu (by omega)) (by decide) (by decide)
  have K : ∀ {x k : Nat}, x < H + 6 → kd E1 x = k → kd E4 x = k := fun hx h => kd_G (kd_G (kd_G h g2 (by omega)) g3 (by omega)) g4 (by omega)
  have LE : ∀ {x k : Nat}, x < H + 6 → le E1 x = k → le E4 x = k := fun hx h => le_G (le_G (le_G h g2 (by omega)) g3 (by omega)) g4 (by omega)
  have R : ∀ {x j : Nat} {o : Option Nat}, x < H + 6 → x ≠ H + 1 → x ≠ H + 2 → x ≠ H + 5 → r1 x j = o → r4 x j = o := fun hx n1 n2 n5 h => r_G (r_G (r_G h g2 (by omega) n1) g3 (by omega) n2) g4 (by omega) n5
  refine ⟨E4, G4, L4, r4, ⟨g4.1, g4.2.1.trans (g3.2.1.trans (g2.2.1.trans a2)), fun x hx => ⟨?_, ?_⟩, fun x hx => ⟨?_, ?_⟩, fun x h1 h2 => ?_⟩, ?_, ⟨K (by omega) b0, ⟨K (by omega) b1, K (by omega) b2, K (by omega) b3, K (by omega) b4, K (by omega) b5⟩, ⟨LE (by omega) c1, LE (by omega) c2', LE (by omega) c3, LE (by omega) c4, LE (by omega) c5⟩, ⟨R (by omega) (by omega) (by omega) (by omega) d0, R (by omega) (by omega) (by omega) (by omega) d2, R (by omega) (by omega) (by omega) (by omega) d4, R (by omega) (by omega) (by omega) (by omega) d5, R (by omega) (by omega) (by omega) (by omega) d6⟩, fun t ht => shS_G (shS_G (s2 t ht).1 g3 (by omega) (by omega)) g4 (by omega) (by omega), fun t ht => shL_G (s3 t ht).1 g4 (by omega) (by omega), fun t ht => (s4 t ht).1, fun t ht => r_G (s3 t ht).2 g4 (by omega) (by omega)⟩, ⟨fun t ht => ⟨r_G (r_G (s2 t ht).2 g3 (by omega) (by omega)) g4 (by omega) (by omega), ht⟩, fun t u _ _ h => h⟩, ⟨fun t ht => ⟨(s4 t ht).2, ht⟩, fun t u _ _ h => h⟩, fun Q => ?_⟩
  · rw [(g4.2.2.1 x (by omega)).1, (g3.2.2.1 x (by omega)).1, (g2.2.2.1 x (by omega)).1, (a3 x hx).1]
  · rw [(g4.2.2.1 x (by omega)).2.2, (g3.2.2.1 x (by omega)).2.2, (g2.2.2.1 x (by omega)).2.2, (a3 x hx).2]
  · rw [(g4.2.2.1 x (by omega)).2.1, (g3.2.2.1 x (by omega)).2.1, (g2.2.2.1 x (by omega)).2.1, (a4 x hx).1]
  · rw [g4.2.2.2.1 x (by omega) (by omega), g3.2.2.2.1 x (by omega) (by omega), g2.2.2.2.1 x (by omega) (by omega), (a4 x hx).2]
  · by_cases q4 : H + 36 ≤ x
    · exact g4.2.2.2.2 x (by omega) (by omega)
    · rw [(g4.2.2.1 x (by omega)).2.1]
      by_cases q3 : H + 30 ≤ x
      · exact g3.2.2.2.2 x (by omega) (by omega)
      · rw [(g3.2.2.1 x (by omega)).2.1]
        by_cases q2 : H + 6 ≤ x
        · exact g2.2.2.2.2 x (by omega) (by omega)
        · rw [(g2.2.2.1 x (by omega)).2.1]
          exact a5 x h1 (by omega)
  · rw [(g4.2.2.1 H (by omega)).2.1, (g3.2.2.1 H (by omega)).2.1, (g2.2.2.1 H (by omega)).2.1, ah]
  · have e3' : RK MX6_init 77 [.ref H, .int (zi 0)] [] (5 + 6 * 4, 31 + 2428 * 4) (E2, zg G2, zk L2, r2) Q = _ := e3 Q
    have e4' : RK MX6_init 107 [.ref H, .int (zi 0)] [] (5 + 6 * 4 + 2 * 3, 31 + 2428 * 4 + 12 * 3) (E3, zg G3, zk L3, r3) Q = _ := e4 Q
    rw [ae, e2, fX6_init_75, fX6_init_76 (c2_ref _), e3', fX6_init_105, fX6_init_106 (c2_ref _), e4', fX6_init_135]
theorem i5_0 (hk : kd E D = 12) (he : E.1 = D + 1) : ∃ E' G' L' r', GI E G L r E' G' L' r' D (D + 6) ∧ G' D = (fun j => if j = 4 then -1 else if j = 3 then -1 else G D j) ∧ (kd E' D = 12 ∧ (kd E' (D + 1) = 1 ∧ kd E' (D + 2) = 5 ∧ kd E' (D + 3) = 6 ∧ kd E' (D + 4) = 1 ∧ kd E' (D + 5) = 1) ∧ (le E' (D + 1) = 600 ∧ le E' (D + 2) = 4 ∧ le E' (D + 3) = 3 ∧ le E' (D + 4) = 7 ∧ le E' (D + 5) = 7) ∧ (r' D 0 = some (D + 1) ∧ r' D 9 = some (D + 2) ∧ r' D 11 = some (D + 3) ∧ r' D 13 = some (D + 4) ∧ r' D 14 = some (D + 5))) ∧ ∀ Q, RK MX5_init 0 [.ref D, jk] [] (0, 0) (E, zg G, zk L, r) Q = RK MX5_init 57 [.ref D, .int (zi ((0 : Nat) : Int))] [] (5, 621) (E', zg G', zk L', r') Q := by
  obtain ⟨e1, e2, e3⟩ := E
  have he : e1 = D + 1 := he
  subst he
  have hk : (e2 D).1 = 12 := hk
  refine ⟨(D + 6, u1 (u1 (u1 (u1 (u1 e2 (D + 1) (1, 600)) (D + 2) (5, 4)) (D + 3) (6, 3)) (D + 4) (1, 7)) (D + 5) (1, 7), e3), u1 (u1 (u1 (u1 (u2 (u2 (u1 G (D + 1) (fun _ => 0)) D 3 (-1)) D 4 (-1)) (D + 2) (fun _ => 0)) (D + 3) (fun _ => 0)) (D + 4) (fun _ => 0)) (D + 5) (fun _ => 0), u1 (u1 (u1 (u1 (u1 L (D + 1) (fun _ => 0)) (D + 2) (fun _ => 0)) (D + 3) (fun _ => 0)) (D + 4) (fun _ => 0)) (D + 5) (fun _ => 0), u2 (u1 (u2 (u1 (u2 (u1 (u2 (u1 (u2 (u1 r (D + 1) (fun _ => none)) D 0 (some (D + 1))) (D + 2) (fun _ => none)) D 9 (some (D + 2))) (D + 3) (fun _ => none)) D 11 (some (D + 3))) (D + 4) (fun _ => none)) D 13 (some (D + 4))) (D + 5) (fun _ => none)) D 14 (some (D + 5)), ⟨rfl, rfl, fun x hx => ⟨?_, ?_⟩, fun x hx => ⟨?_, ?_⟩, fun x h1 h2 => ?_⟩, ?_, ?_, fun Q => ?_⟩
  · show (u1 (u1 (u1 (u1 (u1 e2 (D + 1) (1, 600)) (D + 2) (5, 4)) (D + 3) (6, 3)) (D + 4) (1, 7)) (D + 5) (1, 7)) x = _
    rw [v1_a _ _ _ (by omega), v1_a _ _ _ (by omega), v1_a _ _ _ (by omega), v1_a _ _ _ (by omega), v1_a _ _ _ (by omega)]
  · rw [v1_a _ _ _ (by omega), v1_a _ _ _ (by omega), v1_a _ _ _ (by omega), v1_a _ _ _ (by omega), v1_a _ _ _ (by omega)]
  · rw [v1_a _ _ _ (by omega), v1_a _ _ _ (by omega), v1_a _ _ _ (by omega), v1_a _ _ _ (by omega), u2_a _ _ _ _ (by omega), u2_a _ _ _ _ (by omega), v1_a _ _ _ (by omega)]
  · rw [u2_a _ _ _ _ (by omega), v1_a _ _ _ (by omega), u2_a _ _ _ _ (by omega), v1_a _ _ _ (by omega), u2_a _ _ _ _ (by omega), v1_a _ _ _ (by omega), u2_a _ _ _ _ (by omega), v1_a _ _ _ (by omega), u2_a _ _ _ _ (by omega), v1_a _ _ _ (by omega)]
  · have hne : x ≠ D := by omega
    have q : (u1 (u1 (u1 (u1 (u2 (u2 (u1 G (D + 1) (fun _ => 0)) D 3 (-1)) D 4 (-1)) (D + 2) (fun _ => 0)) (D + 3) (fun _ => 0)) (D + 4) (fun _ => 0)) (D + 5) (fun _ => 0)) x = (u1 (u1 (u1 (u1 (u1 G (D + 1) (fun _ => 0)) (D + 2) (fun _ => 0)) (D + 3) (fun _ => 0)) (D + 4) (fun _ => 0)) (D + 5) (fun _ => 0)) x := by
      simp only [u1, u2_a _ _ _ _ hne]
    rw [q]
    unfold u1
    repeat' split
    all_goals first | rfl | omega
  · funext j
    simp [u1, u2]
    try (split <;> simp_all)
  · simp [kd, le, u1, u2, hk]
  · rw [fX5_init_0, fX5_init_1, fX5_init_4, fX5_init_5, fX5_init_8 (by decide) (by decide) (by decide), fX5_init_10 (by exact kd_o (show D ≠ D + 1 by omega) (show kd (_, e2, e3) D = 12 from hk)), fX5_init_13, fX5_init_14, fX5_init_15 (by exact kd_o (show D ≠ D + 1 by omega) (show kd (_, e2, e3) D = 12 from hk)), fX5_init_18, fX5_init_19, fX5_init_20 (by exact kd_o (show D ≠ D + 1 by omega) (show kd (_, e2, e3) D = 12 from hk)), fX5_init_23, fX5_init_24, fX5_init_25 (by decide) (by decide) (by decide), fX5_init_28 (by exact kd_o (show D ≠ D + 2 by omega) (kd_o (show D ≠ D + 1 by omega) (show kd (_, e2, e3) D = 12 from hk))), fX5_init_31, fX5_init_32, fX5_init_33 (by decide) (by decide) (by decide), fX5_init_36 (by exact kd_o (show D ≠ D + 3 by omega) (kd_o (show D ≠ D + 2 by omega) (kd_o (show D ≠ D + 1 by omega) (show kd (_, e2, e3) D = 12 from hk)))), fX5_init_39, fX5_init_40, fX5_init_42 (by decide) (by decide) (by decide), fX5_init_44 (by exact kd_o (show D ≠ D + 4 by omega) (kd_o (show D ≠ D + 3 by omega) (kd_o (show D ≠ D + 2 by omega) (kd_o (show D ≠ D + 1 by omega) (show kd (_, e2, e3) D = 12 from hk))))), fX5_init_47, fX5_init_48, fX5_init_50 (by decide) (by decide) (by decide), fX5_init_52 (by exact kd_o (show D ≠ D + 5 by omega) (kd_o (show D ≠ D + 4 by omega) (kd_o (show D ≠ D + 3 by omega) (kd_o (show D ≠ D + 2 by omega) (kd_o (show D ≠ D + 1 by omega) (show kd (_, e2, e3) D = 12 from hk)))))), fX5_init_55, fX5_init_56 (c2_ref _)]
    rfl
theorem i5_init (hk : kd E D = 12) (he : E.1 = D + 1) (hq : kRef E r D) : ∃ E' G' L' r', GI E G L r E' G' L' r' D (D + 36) ∧ (G' D = fun j => if j = 4 then -1 else if j = 3 then -1 else G D j) ∧ shD E' r' D ∧ ∀ Q, RK MX5_init 0 [.ref D, jk] [] (0, 0) (E, zg G, zk L, r) Q = Q (E', zg G', zk L', r') .null := by
  obtain ⟨E1, G1, L1, r1, ⟨a1, a2, a3, a4, a5⟩, ah, ⟨b0, ⟨b1, b2, b3, b4, b5⟩, ⟨c1, c2', c3, c4, c5⟩, ⟨d0, d2, d4, d5, d6⟩⟩, ae⟩ := i5_0 (G := G) (L := L) (r := r) hk he
  obtain ⟨E2, G2, L2, r2, g2, s2, e2⟩ := l5_a (H := D) (A := D + 2) (y0 := D + 6) (by omega) (by omega) (by omega) 4 0 E1 G1 L1 r1 5 621 rfl (by rw [a1]) b0 d2 b2 c2' (fun u hu => absurd hu (by omega)) (by decide) (by decide)
  obtain ⟨E3, G3, L3, r3, g3, s3, e3⟩ := l5_b (H := D) (A := D + 3) (y0 := D + 30) (by omega) (by omega) (by omega) 3 0 E2 G2 L2 r2 (5 + 6 * 4) (621 + 2428 * 4) rfl (by rw [g2.1]) (kd_G b0 g2 (by omega)) (r_G d4 g2 (by omega) (by omega)) (kd_G b3 g2 (by omega)) (le_G c3 g2 (by omega)) (fun u hu => absurd hu (by omega)) (by decide) (by decide)
  have K : ∀ {x k : Nat}, x < D + 6 → kd E1 x = k → kd E3 x = k := fun hx h => kd_G (kd_G h g2 (by omega)) g3 (by omega)
  have LE : ∀ {x k : Nat}, x < D + 6 → le E1 x = k → le E3 x = k := fun hx h => le_G (le_G h g2 (by omega)) g3 (by omega)
  have R : ∀ {x j : Nat} {o : Option Nat}, x < D + 6 → x ≠ D + 2 → x ≠ D + 3 → r1 x j = o → r3 x j = o := fun hx n1 n2 h => r_G (r_G h g2 (by omega) n1) g3 (by omega) n2
  refine ⟨E3, G3, L3, r3, ⟨g3.1, g3.2.1.trans (g2.2.1.trans a2), fun x hx => ⟨?_, ?_⟩, fun x hx => ⟨?_, ?_⟩, fun x h1 h2 => ?_⟩, ?_, ⟨K (by omega) b0, ⟨K (by omega) b1, K (by omega) b2, K (by omega) b3, K (by omega) b4, K (by omega) b5⟩, ⟨LE (by omega) c1, LE (by omega) c2', LE (by omega) c3, LE (by omega) c4, LE (by omega) c5⟩, ⟨R (by omega) (by omega) (by omega) d0, R (by omega) (by omega) (by omega) d2, R (by omega) (by omega) (by omega) d4, R (by omega) (by omega) (by omega) d5, R (by omega) (by omega) (by omega) d6⟩, fun t ht => ⟨shS_G (s2 t ht).1 g3 (by omega) (by omega), r_G (s2 t ht).2 g3 (by omega) (by omega)⟩, fun t ht => s3 t ht, fun i hi => by
    rw [g3.2.1.trans (g2.2.1.trans a2)]
    have hi1 := (hq i hi).1
    refine ⟨hi1, ?_⟩
    rw [g3.2.2.2.1 _ (by omega) (by omega), g2.2.2.2.1 _ (by omega) (by omega), (a4 _ (by omega)).2]
    exact (hq i hi).2⟩, fun Q => ?_⟩
  · rw [(g3.2.2.1 x (by omega)).1, (g2.2.2.1 x (by omega)).1, (a3 x hx).1]
  · rw [(g3.2.2.1 x (by omega)).2.2, (g2.2.2.1 x (by omega)).2.2, (a3 x hx).2]
  · rw [(g3.2.2.1 x (by omega)).2.1, (g2.2.2.1 x (by omega)).2.1, (a4 x hx).1]
  · rw [g3.2.2.2.1 x (by omega) (by omega), g2.2.2.2.1 x (by omega) (by omega), (a4 x hx).2]
  · by_cases q3 : D + 30 ≤ x
    · exact g3.2.2.2.2 x (by omega) (by omega)
    · rw [(g3.2.2.1 x (by omega)).2.1]
      by_cases q2 : D + 6 ≤ x
      · exact g2.2.2.2.2 x (by omega) (by omega)
      · rw [(g2.2.2.1 x (by omega)).2.1]
        exact a5 x h1 (by omega)
  · rw [(g3.2.2.1 D (by omega)).2.1, (g2.2.2.1 D (by omega)).2.1, ah]
  · have e3' : RK MX5_init 87 [.ref D, .int (zi 0)] [] (5 + 6 * 4, 621 + 2428 * 4) (E2, zg G2, zk L2, r2) Q = _ := e3 Q
    rw [ae, e2, fX5_init_85, fX5_init_86 (c2_ref _), e3', fX5_init_115]
theorem n7_init (y : Nat) (he : E.1 = y) : ∃ E' G' L' r', (E'.1 = y + 6 ∧ E'.2.2 = E.2.2 ∧ (∀ x, x < y → E'.2.1 x = E.2.1 x ∧ G' x = G x ∧ L' x = L x ∧ r' x = r x) ∧ ∀ x, y ≤ x → x < y + 6 → G' x = fun _ => 0) ∧ shS E' r' y ∧ ∀ Q, RK MX7_init 0 [.ref E.1] [] (0, 0) ((E.1 + 1, u1 E.2.1 E.1 (14, 14), E.2.2), zg (u1 G E.1 (fun _ => 0)), zk (u1 L E.1 (fun _ => 0)), u1 r E.1 (fun _ => none)) Q = Q (E', zg G', zk L', r') .null := by
  obtain ⟨e1, e2, e3⟩ := E
  have he : e1 = y := he
  subst he
  obtain ⟨E2, G2, L2, r2, ⟨g1, g2, g3, g4, g5⟩, gy, gs⟩ := i7_init (E := (e1 + 1, u1 e2 e1 (14, 14), e3)) (G := u1 G e1 (fun _ => 0)) (L := u1 L e1 (fun _ => 0)) (r := u1 r e1 (fun _ => none)) kd_h rfl
  rw [v1_s] at gy
  obtain ⟨gs1, ge⟩ := gs
  refine ⟨E2, G2, L2, r2, ⟨g1, g2, fun x hx => ⟨?_, ?_, ?_, ?_⟩, fun x h1 h2 => ?_⟩, gs1, ge⟩
  · rw [(g3 x (by omega)).1]
    exact v1_a _ _ _ (by omega)
  · rw [(g4 x hx).1, v1_a _ _ _ (by omega)]
  · rw [(g3 x (by omega)).2, v1_a _ _ _ (by omega)]
  · rw [(g4 x hx).2, v1_a _ _ _ (by omega)]
  · by_cases q : x = e1
    · rw [q, gy]
    · exact g5 x (by omega) h2
theorem n4_init (y : Nat) (he : E.1 = y) : ∃ E' G' L' r', (E'.1 = y + 2 ∧ E'.2.2 = E.2.2 ∧ (∀ x, x < y → E'.2.1 x = E.2.1 x ∧ G' x = G x ∧ L' x = L x ∧ r' x = r x) ∧ ∀ x, y ≤ x → x < y + 2 → G' x = fun _ => 0) ∧ shP E' r' y ∧ ∀ Q, RK MX4_init 0 [.ref E.1] [] (0, 0) ((E.1 + 1, u1 E.2.1 E.1 (11, 2), E.2.2), zg (u1 G E.1 (fun _ => 0)), zk (u1 L E.1 (fun _ => 0)), u1 r E.1 (fun _ => none)) Q = Q (E', zg G', zk L', r') .null := by
  obtain ⟨e1, e2, e3⟩ := E
  have he : e1 = y := he
  subst he
  obtain ⟨E2, G2, L2, r2, ⟨g1, g2, g3, g4, g5⟩, gy, gs⟩ := i4_init (E := (e1 + 1, u1 e2 e1 (11, 2), e3)) (G := u1 G e1 (fun _ => 0)) (L := u1 L e1 (fun _ => 0)) (r := u1 r e1 (fun _ => none)) kd_h rfl
  rw [v1_s] at gy
  obtain ⟨gs1, ge⟩ := gs
  refine ⟨E2, G2, L2, r2, ⟨g1, g2, fun x hx => ⟨?_, ?_, ?_, ?_⟩, fun x h1 h2 => ?_⟩, gs1, ge⟩
  · rw [(g3 x (by omega)).1]
    exact v1_a _ _ _ (by omega)
  · rw [(g4 x hx).1, v1_a _ _ _ (by omega)]
  · rw [(g3 x (by omega)).2, v1_a _ _ _ (by omega)]
  · rw [(g4 x hx).2, v1_a _ _ _ (by omega)]
  · by_cases q : x = e1
    · rw [q, gy]
    · exact g5 x (by omega) h2
theorem n6_init (y : Nat) (he : E.1 = y) : ∃ E' G' L' r', (E'.1 = y + 84 ∧ E'.2.2 = E.2.2 ∧ (∀ x, x < y → E'.2.1 x = E.2.1 x ∧ G' x = G x ∧ L' x = L x ∧ r' x = r x) ∧ ∀ x, y ≤ x → x < y + 84 → G' x = fun _ => 0) ∧ (shH E' r' y ∧ sP r' y (fun t => t) ∧ sA r' y (fun t => t)) ∧ ∀ Q, RK MX6_init 0 [.ref E.1, jk] [] (0, 0) ((E.1 + 1, u1 E.2.1 E.1 (13, 8), E.2.2), zg (u1 G E.1 (fun _ => 0)), zk (u1 L E.1 (fun _ => 0)), u1 r E.1 (fun _ => none)) Q = Q (E', zg G', zk L', r') .null := by
  obtain ⟨e1, e2, e3⟩ := E
  have he : e1 = y := he
  subst he
  obtain ⟨E2, G2, L2, r2, ⟨g1, g2, g3, g4, g5⟩, gy, gs⟩ := i6_init (E := (e1 + 1, u1 e2 e1 (13, 8), e3)) (G := u1 G e1 (fun _ => 0)) (L := u1 L e1 (fun _ => 0)) (r := u1 r e1 (fun _ => none)) kd_h rfl
  rw [v1_s] at gy
  obtain ⟨gs1, gs2, gs3, ge⟩ := gs
  refine ⟨E2, G2, L2, r2, ⟨g1, g2, fun x hx => ⟨?_, ?_, ?_, ?_⟩, fun x h1 h2 => ?_⟩, ⟨gs1, gs2, gs3⟩, ge⟩
  · rw [(g3 x (by omega)).1]
    exact v1_a _ _ _ (by omega)
  · rw [(g4 x hx).1, v1_a _ _ _ (by omega)]
  · rw [(g3 x (by omega)).2, v1_a _ _ _ (by omega)]
  · rw [(g4 x hx).2, v1_a _ _ _ (by omega)]
  · by_cases q : x = e1
    · rw [q, gy]
    · exact g5 x (by omega) h2
theorem n5_init (y : Nat) (he : E.1 = y) (hq : kRef E r y) : ∃ E' G' L' r', (E'.1 = y + 36 ∧ E'.2.2 = E.2.2 ∧ (∀ x, x < y → E'.2.1 x = E.2.1 x ∧ G' x = G x ∧ L' x = L x ∧ r' x = r x) ∧ ∀ x, y < x → x < y + 36 → G' x = fun _ => 0) ∧ (shD E' r' y ∧ G' y = fun j => if j = 4 then -1 else if j = 3 then -1 else 0) ∧ ∀ Q, RK MX5_init 0 [.ref E.1, jk] [] (0, 0) ((E.1 + 1, u1 E.2.1 E.1 (12, 15), E.2.2), zg (u1 G E.1 (fun _ => 0)), zk (u1 L E.1 (fun _ => 0)), u1 r E.1 (fun _ => none)) Q = Q (E', zg G', zk L', r') .null := by
  obtain ⟨e1, e2, e3⟩ := E
  have he : e1 = y := he
  subst he
  obtain ⟨E2, G2, L2, r2, ⟨g1, g2, g3, g4, g5⟩, gy, gs⟩ := i5_init (E := (e1 + 1, u1 e2 e1 (12, 15), e3)) (G := u1 G e1 (fun _ => 0)) (L := u1 L e1 (fun _ => 0)) (r := u1 r e1 (fun _ => none)) kd_h rfl (fun i hi => ⟨(hq i hi).1, by
    rw [show (u1 r e1 (fun _ => none)) (e3 i) = r (e3 i) from v1_a _ _ _ (Nat.ne_of_lt (hq i hi).1)]
    exact (hq i hi).2⟩)
  rw [v1_s] at gy
  obtain ⟨gs1, ge⟩ := gs
  refine ⟨E2, G2, L2, r2, ⟨g1, g2, fun x hx => ⟨?_, ?_, ?_, ?_⟩, fun x h1 h2 => ?_⟩, ⟨gs1, gy⟩, ge⟩
  · rw [(g3 x (by omega)).1]
    exact v1_a _ _ _ (by omega)
  · rw [(g4 x hx).1, v1_a _ _ _ (by omega)]
  · rw [(g3 x (by omega)).2, v1_a _ _ _ (by omega)]
  · rw [(g4 x hx).2, v1_a _ _ _ (by omega)]
  · exact g5 x h1 h2
end CN
