/-! Calls on both sides: feed, load, print, and those that only look. -/
theorem getD_b {ys : List Int} {B : Int} (hB : 0 ≤ B) (h : ∀ y, y ∈ ys → 0 ≤ y ∧ y ≤ B) (i : Nat) : 0 ≤ ys.getD i 0 ∧ ys.getD i 0 ≤ B := by
  rw [List.getD_eq_getElem?_getD]
  cases q : ys[i]? with
  | none => exact ⟨Int.le_refl _, hB⟩
  | some y => exact h y (List.mem_of_getElem? q)
theorem getD_s {ys : List Int} (i : Nat) : (ys.map sg8).getD i 0 = sg8 (ys.getD i 0) := by
  rw [List.getD_eq_getElem?_getD, List.getD_eq_getElem?_getD, List.getElem?_map]
  cases ys[i]? with
  | none => rfl
  | some y => rfl
theorem btS_b (n : Int) : ∀ y, y ∈ btS n → 0 ≤ y ∧ y ≤ 255 := by
  intro y hy
  unfold btS at hy
  simp only [List.mem_cons, List.not_mem_nil, or_false] at hy
  rcases hy with e | e | e | e <;> (rw [e]; omega)
theorem app_b {xs ys : List Int} {B : Int} (h1 : ∀ y, y ∈ xs → 0 ≤ y ∧ y ≤ B) (h2 : ∀ y, y ∈ ys → 0 ≤ y ∧ y ≤ B) : ∀ y, y ∈ xs ++ ys → 0 ≤ y ∧ y ≤ B := fun y hy => by
  rcases List.mem_append.mp hy with z | z
  · exact h1 y z
  · exact h2 y z
theorem nil_b {B : Int} : ∀ y, y ∈ ([] : List Int) → 0 ≤ y ∧ y ≤ B := fun y hy => absurd hy (by simp)
theorem one_b {B b : Int} (h : 0 ≤ b ∧ b ≤ B) : ∀ y, y ∈ [b] → 0 ≤ y ∧ y ≤ B := fun y hy => by
  rw [List.mem_singleton] at hy
  rw [hy]
  exact h
theorem dgL_b (n : Int) : ∀ (k : Nat) (u : Int), ∀ y, y ∈ dgL n k u → 0 ≤ y ∧ y ≤ 1000 := by
  intro k
  induction k with
  | zero => exact fun u => nil_b
  | succ k ih =>
    intro u
    rw [dgL]
    by_cases c : 0 < u
    · rw [if_pos c]
      refine app_b ?_ (ih _)
      by_cases d : u ≤ n ∨ u = 1
      · rw [if_pos d]
        exact one_b (by omega)
      · rw [if_neg d]
        exact nil_b
    · rw [if_neg c]
      exact nil_b
theorem pmL_b (A R : Int → Int) (n : Int) : ∀ (k : Nat) (p : Int), ∀ y, y ∈ pmL A R n k p → 0 ≤ y ∧ y ≤ 1000 := by
  intro k
  induction k with
  | zero => exact fun p => nil_b
  | succ k ih =>
    intro p
    rw [pmL]
    by_cases c : p ≤ n
    · rw [if_pos c]
      refine app_b ?_ (app_b (dgL_b _ _ _) ?_)
      · by_cases d : 1 < p
        · rw [if_pos d]
          exact one_b (by decide)
        · rw [if_neg d]
          exact nil_b
      · by_cases d : R p - p + 1 < 3
        · rw [if_pos d]
          exact ih _
        · rw [if_neg d]
          exact app_b (one_b (by decide)) (app_b (dgL_b _ _ _) (ih _))
    · rw [if_neg c]
      exact nil_b
section CB
variable {E : AE} {G G' G1 G2 L L' L1 : Nat → Nat → Int} {r r' r1 : Nat → Nat → Option Nat} {Q : AH → Value → Prop} {X m n a cl : Nat} {p q : Nat → Nat} {σ τ σ' : Nat → Nat → Int} {kk nn : Nat → Int} {ln : Nat → Nat} {lv : Nat → Nat → Int} {N : Nat → Nat} {Sg : Nat → Nat → Nat → Int} {ys : List Int} {st st' fl f1 f2 : Int} {tb : Nat → Int} {v1 v2 v3 v4 v5 : Int}
theorem ca_print (h : ST E r G L X m n σ a kk nn τ cl ln lv ys st fl tb f1 f2 N Sg) (i1 : I32 v1) : CALL E r G L X m MX9_print MX10_print [.ref X, .int (zi v1), jk] [.ref m, .int (zi v1), jk, jk] := by
  obtain ⟨⟨p, q, hx⟩, hr, hO, a1, a2, a3, a4, a5⟩ := id h.2.1
  by_cases c : 0 ≤ v1 ∧ v1 < n
  · obtain ⟨hXm, hC, hR, hN, hS, hA, hy⟩ := id h
    obtain ⟨sS, sR, sW, -⟩ := HXS_sv (L := L) hx c
    have x0 := hx.1.1
    have e1 := fun Q => o_print (L := L) (Q := Q) hx c
    rw [RS_pw sR sW] at e1
    obtain ⟨ws, hws⟩ : ∃ ws, ws = pwZ (σ v1.toNat) := ⟨_, rfl⟩
    rw [← hws] at e1
    obtain ⟨G1, hG1⟩ : ∃ g, g = u2 (wrL (u2 G (X + 121) 1 0) (X + 121) 1 (X + 121 + 1) 3600 ws) X 5 0 := ⟨_, rfl⟩
    rw [← hG1] at e1
    have g1 : ∀ x, x ≠ X → x ≠ X + 121 → x ≠ X + 122 → G1 x = G x := fun x b c d => by rw [hG1, u2_a _ _ _ _ b, wrL_q c d, u2_a _ _ _ _ c]
    have R1 := RI_c hR (G' := G1) (fun x hxx => g1 x (by omega) (by omega) (by omega)) rfl
    obtain ⟨G2, ⟨u2', j2⟩, s2, O2, e2⟩ := z_print (L := L) R1.1 c
    rw [← hws] at O2 e2
    have hb : ∀ j, j < ws.length → 0 ≤ ws.getD j 0 ∧ ws.getD j 0 ≤ 1000 := fun j _ => by
      rw [hws, pwZ_pm sW]
      exact getD_b (by decide) (pmL_b _ _ _ _ _) j
    have C1 : CI E r G1 X n σ a kk nn τ cl ln lv ws 0 fl tb f1 f2 := by
      refine ⟨⟨p, q, HXS_d hx fun x hxx => g1 x (by omega) (by omega) (by omega)⟩, HXR_d x0 hr fun x hxx => g1 x (by omega) (by omega) (by omega), ⟨?_, O2.2.1, fun j hj => ?_⟩, ?_, ?_, fun j hj => ?_, ?_, ?_⟩
      · rw [hG1, u2_a _ _ _ _ (by omega), wrL_n, u2_s, Int.zero_add]
      · have l2 := O2.2.1
        rw [hG1, u2_a _ _ _ _ (by omega)]
        show (if X + 121 + 1 = X + 121 ∧ j = 1 then _ else if X + 121 + 1 = X + 121 + 1 ∧ u2 G (X + 121) 1 0 (X + 121) 1 ≤ j ∧ (j : Int) < u2 G (X + 121) 1 0 (X + 121) 1 + ws.length ∧ j < 3600 then ws.getD (j - (u2 G (X + 121) 1 0 (X + 121) 1).toNat) 0 else u2 G (X + 121) 1 0 (X + 121 + 1) j) = _
        rw [u2_s, if_neg (by omega), if_pos ⟨rfl, by omega, by omega, by omega⟩]
        rfl
      · rw [hG1, u2_s]
      · rw [g1 _ (by omega) (by omega) (by omega)]
        exact a2
      · rw [g1 _ (by omega) (by omega) (by omega)]
        exact a3 j hj
      · rw [g1 _ (by omega) (by omega) (by omega)]
        exact a4
      · rw [g1 _ (by omega) (by omega) (by omega)]
        exact a5
    obtain ⟨⟨d1, d2, d3⟩, hP, ⟨l1, l2⟩, -, ⟨-, b2, b3, b4, b5⟩, t1, t2, t3⟩ := R1
    have R2 : RI E r G2 L m n σ a N Sg cl ln lv ws 0 fl tb f1 f2 := by
      refine ⟨⟨d1, by rw [j2 6 (by decide) (by decide) (by decide) (by decide)]; exact d2, fun s hs => ⟨fun k hk => ?_, (d3 s hs).2⟩⟩, PM_c hP (u2' _ (by omega) (by omega) (by omega)) (u2' _ (by omega) (by omega) (by omega)) (j2 7 (by decide) (by decide) (by decide) (by decide)), ⟨by rw [j2 8 (by decide) (by decide) (by decide) (by decide)]; exact l1, fun t ht => ?_⟩, O2, ⟨s2, by rw [j2 18 (by decide) (by decide) (by decide) (by decide)]; exact b2, fun j hj => ?_, by rw [j2 19 (by decide) (by decide) (by decide) (by decide)]; exact b4, by rw [j2 20 (by decide) (by decide) (by decide) (by decide)]; exact b5⟩, by rw [j2 26 (by decide) (by decide) (by decide) (by decide)]; exact t1, t2, t3⟩
      · rw [u2' _ (by omega) (by omega) (by omega)]
        exact (d3 s hs).1 k hk
      · rw [u2' _ (by omega) (by omega) (by omega)]
        exact l2 t ht
      · rw [u2' _ (by omega) (by omega) (by omega)]
        exact b3 j hj
    have C2 := CI_c C1 (G' := G2) (fun x hxx => u2' x (by omega) (by omega) (by omega))
    exact ⟨G1, r, G2, L, _, ⟨n, σ, a, kk, nn, τ, cl, ln, lv, ws, 0, fl, tb, f1, f2, N, Sg, C2, R2, hN, hS, hA, hb⟩, fun x hxx => ⟨g1 x (by omega) (by omega) (by omega), (u2' x (by omega) (by omega) (by omega)).trans (g1 x (by omega) (by omega) (by omega))⟩, e1, e2⟩
  · exact call_no (y := 2) h (fun Q => o_print0 hx i1 c) fun G1 hR => ⟨_, lkM_i, iG_0, fun Q => z_print2 hR.1 i1 c⟩
theorem ca_feed (h : ST E r G L X m n σ a kk nn τ cl ln lv ys st fl tb f1 f2 N Sg) (i1 : I32 v1) (i2 : I32 v2) (i3 : I32 v3) (i4 : I32 v4) (i5 : I32 v5) : CALL E r G L X m MX9_feed MX10_feed [.ref X, .int (zi v1), .int (zi v2), .int (zi v3), .int (zi v4), .int (zi v5)] [.ref m, .int (zi v1), .int (zi v2), .int (zi v3), .int (zi v4), .int (zi v5)] := by
  obtain ⟨⟨p, q, hx⟩, hr, ⟨o1, o2, o3⟩, a1, a2, a3, a4, a5⟩ := id h.2.1
  have hfl := CI_fl h.2.1
  have e1 := fun Q => o_feed (L := L) (Q := Q) (v := v1) (b := v2) (c := v3) (d := v4) (e := v5) hx hr
  rw [a2] at e1
  by_cases z : fl + 20 ≤ 600
  · obtain ⟨hXm, hC, hR, hN, hS, hA, hy⟩ := id h
    simp only [z, if_true] at e1
    have x0 := hx.1.1
    obtain ⟨bs, hbs⟩ : ∃ bs, bs = btS v1 ++ btS v2 ++ btS v3 ++ btS v4 ++ btS v5 := ⟨_, rfl⟩
    have ems : btM v1 ++ btM v2 ++ btM v3 ++ btM v4 ++ btM v5 = bs.map sg8 := by
      rw [hbs]
      rfl
    have hl : bs.length = 20 := by
      rw [hbs]
      rfl
    have hb : ∀ y, y ∈ bs → 0 ≤ y ∧ y ≤ 255 := by
      rw [hbs]
      exact app_b (app_b (app_b (app_b (btS_b _) (btS_b _)) (btS_b _)) (btS_b _)) (btS_b _)
    rw [← hbs] at e1
    obtain ⟨G1, hG1⟩ : ∃ g, g = wrL G (X + 1) 1 (X + 1 + 1) 600 bs := ⟨_, rfl⟩
    rw [← hG1] at e1
    have g1 : ∀ x, x ≠ X + 1 → x ≠ X + 1 + 1 → G1 x = G x := fun x b c => by rw [hG1, wrL_q b c]
    have gt : ∀ j : Nat, G1 (X + 1 + 1) j = if fl ≤ j ∧ (j : Int) < fl + 20 ∧ j < 600 then bs.getD (j - fl.toNat) 0 else G (X + 1 + 1) j := fun j => by
      rw [hG1]
      show (if X + 1 + 1 = X + 1 ∧ j = 1 then _ else if X + 1 + 1 = X + 1 + 1 ∧ G (X + 1) 1 ≤ j ∧ (j : Int) < G (X + 1) 1 + bs.length ∧ j < 600 then bs.getD (j - (G (X + 1) 1).toNat) 0 else G (X + 1 + 1) j) = _
      rw [if_neg (by omega), a2, hl]
      simp only [true_and]
      rfl
    obtain ⟨tb', htb⟩ : ∃ t : Nat → Int, t = fun j : Nat => if (j : Int) < fl then tb j else bs.getD (j - fl.toNat) 0 := ⟨_, rfl⟩
    have gf : G1 (X + 1) 1 = fl + 20 := by rw [hG1, wrL_n, a2, hl]; rfl
    have C1 : CI E r G1 X n σ a kk nn τ cl ln lv ys st (fl + 20) tb' f1 f2 := by
      refine ⟨⟨p, q, HXS_d hx fun x hxx => g1 x (by omega) (by omega)⟩, ?_, ⟨?_, o2, fun j hj => ?_⟩, ?_, gf, fun j hj => ?_, ?_, ?_⟩
      · obtain ⟨h1, h2, h3, h4, h5⟩ := hr
        refine ⟨LH_c h1 fun x x1 x2 => g1 x (by omega) (by omega), kStr_c h2 fun x x1 x2 => g1 x (by omega) (by omega), fun i => ?_, by rw [gf]; omega, fun t ht => rgS_c (fun x x1 x2 => g1 x (by omega) (by omega)) (h5.1 t ht), fun t ht => rgL_c (g1 _ (by omega) (by omega)) (g1 _ (by omega) (by omega)) (h5.2 t ht)⟩
        rw [gt]
        split
        · exact getD_b (by decide) hb _
        · exact h3 i
      · rw [g1 _ (by omega) (by omega)]
        exact o1
      · rw [g1 _ (by omega) (by omega)]
        exact o3 j hj
      · rw [g1 _ (by omega) (by omega)]
        exact a1
      · rw [gt, htb]
        show _ = if (j : Int) < fl then tb j else bs.getD (j - fl.toNat) 0
        by_cases y : (j : Int) < fl
        · rw [if_neg (by omega), if_pos y]
          exact a3 j y
        · rw [if_pos (by omega), if_neg y]
      · rw [hG1, wrL_o (by omega) (by omega)]
        exact a4
      · rw [hG1, wrL_o (by omega) (by omega)]
        exact a5
    have R1 := RI_c hR (G' := G1) (fun x hxx => g1 x (by omega) (by omega)) rfl
    have e2 := fun Q => z_feed (L := L) (Q := Q) (G := G1) R1.1.1 (by rw [R1.2.2.2.2.1.2.1]; exact hfl) i1 i2 i3 i4 i5
    rw [R1.2.2.2.2.1.2.1, ems] at e2
    simp only [z, if_true] at e2
    obtain ⟨⟨d1, d2, d3⟩, hP, ⟨l1, l2⟩, ⟨q1, q2, q3⟩, ⟨b1, b2, b3, b4, b5⟩, t1, t2, t3⟩ := R1
    obtain ⟨G2, hG2⟩ : ∃ g, g = wrL (u2 G1 m 1 0) m 18 (m + 11) 600 (bs.map sg8) := ⟨_, rfl⟩
    rw [← hG2] at e2
    have k18 : u2 G1 m 1 0 m 18 = fl := (u2_i _ _ _ _ (by decide)).trans b2
    have u2' : ∀ x, x ≠ m → x ≠ m + 11 → G2 x = G1 x := fun x b c => by rw [hG2, wrL_q b c, u2_a _ _ _ _ b]
    have j2 : ∀ j, j ≠ 1 → j ≠ 18 → G2 m j = G1 m j := fun j b c => by rw [hG2, wrL_o (by omega) (by omega), u2_i _ _ _ _ b]
    have m11 : ∀ j : Nat, G2 (m + 11) j = if fl ≤ j ∧ (j : Int) < fl + 20 ∧ j < 600 then (bs.map sg8).getD (j - fl.toNat) 0 else G1 (m + 11) j := fun j => by
      rw [hG2]
      show (if m + 11 = m ∧ j = 18 then _ else if m + 11 = m + 11 ∧ u2 G1 m 1 0 m 18 ≤ j ∧ (j : Int) < u2 G1 m 1 0 m 18 + (bs.map sg8).length ∧ j < 600 then (bs.map sg8).getD (j - (u2 G1 m 1 0 m 18).toNat) 0 else u2 G1 m 1 0 (m + 11) j) = _
      rw [if_neg (by omega), k18, List.length_map, hl, u2_a _ _ _ _ (by omega)]
      simp only [true_and]
      rfl
    have R2 : RI E r G2 L m n σ a N Sg cl ln lv ys st (fl + 20) tb' f1 f2 := by
      refine ⟨⟨d1, by rw [j2 6 (by decide) (by decide)]; exact d2, fun s hs => ⟨fun k hk => ?_, (d3 s hs).2⟩⟩, PM_c hP (u2' _ (by omega) (by omega)) (u2' _ (by omega) (by omega)) (j2 7 (by decide) (by decide)), ⟨by rw [j2 8 (by decide) (by decide)]; exact l1, fun t ht => ?_⟩, ⟨by rw [j2 16 (by decide) (by decide)]; exact q1, q2, fun j hj => ?_⟩, ⟨by rw [j2 0 (by decide) (by decide)]; exact b1, ?_, fun j hj => ?_, by rw [j2 19 (by decide) (by decide)]; exact b4, by rw [j2 20 (by decide) (by decide)]; exact b5⟩, by rw [j2 26 (by decide) (by decide)]; exact t1, t2, t3⟩
      · rw [u2' _ (by omega) (by omega)]
        exact (d3 s hs).1 k hk
      · rw [u2' _ (by omega) (by omega)]
        exact l2 t ht
      · rw [u2' _ (by omega) (by omega)]
        exact q3 j hj
      · rw [hG2, wrL_n, k18, List.length_map, hl]
        rfl
      · rw [m11, htb]
        by_cases y : (j : Int) < fl
        · rw [if_neg (by omega)]
          show _ = sg8 (if (j : Int) < fl then tb j else _)
          rw [if_pos y]
          exact b3 j y
        · rw [if_pos (by omega), getD_s]
          show _ = sg8 (if (j : Int) < fl then tb j else _)
          rw [if_neg y]
    have C2 := CI_c C1 (G' := G2) (fun x hxx => u2' x (by omega) (by omega))
    exact ⟨G1, r, G2, L, _, ⟨n, σ, a, kk, nn, τ, cl, ln, lv, ys, st, fl + 20, tb', f1, f2, N, Sg, C2, R2, hN, hS, hA, hy⟩, fun x hxx => ⟨g1 x (by omega) (by omega), (u2' x (by omega) (by omega)).trans (g1 x (by omega) (by omega))⟩, e1, e2⟩
  · simp only [z, if_false] at e1
    refine call_lk (A1 := st) (A2 := -1) h ⟨G, ⟨fun _ _ _ => rfl, fun _ _ => rfl, hx.2.2⟩, a1, e1⟩ fun G1 hR => ?_
    have e2 := fun Q => z_feed (L := L) (Q := Q) (G := G1) hR.1.1 (by rw [hR.2.2.2.2.1.2.1]; exact hfl) i1 i2 i3 i4 i5
    rw [hR.2.2.2.2.1.2.1] at e2
    simp only [z, if_false] at e2
    exact ⟨u2 G1 m 1 0, ⟨fun x a b c d e => u2_a _ _ _ _ a, fun j a b c => u2_i _ _ _ _ b, fun k hk => by rw [u2_a _ _ _ _ (by omega)]⟩, (u2_i _ _ _ _ (by decide)).trans hR.2.2.2.2.1.1, e2⟩
theorem ca_load (h : ST E r G L X m n σ a kk nn τ cl ln lv ys st fl tb f1 f2 N Sg) (i1 : I32 v1) : CALL E r G L X m MX9_load MX10_load [.ref X, .int (zi v1)] [.ref m, .int (zi v1), jk] := by
  obtain ⟨⟨p, q, hx⟩, hr, ⟨o1, o2, o3⟩, a1, a2, a3, a4, a5⟩ := id h.2.1
  have hfl := CI_fl h.2.1
  by_cases hb : v1 < 0 ∨ fl < v1
  · exact call_no (y := 1) h (fun Q => o_load0 hx hr i1 (by rw [a2]; exact hb)) fun G1 hR => ⟨_, lkM_i, iG_0, fun Q => z_load0 hR.1.1 i1 (by rw [hR.2.2.2.2.1.2.1]; exact hfl) (by rw [hR.2.2.2.2.1.2.1]; exact hb)⟩
  · obtain ⟨hXm, hC, hR, hN, hS, hA, hy⟩ := id h
    have hT : ∀ G1 : Nat → Nat → Int, RI E r G1 L m n σ a N Sg cl ln lv ys st fl tb f1 f2 → tpR G1 m (tpB G (X + 1) v1) v1 := fun G1 R1 => by
      refine ⟨by omega, fun i b c => ?_, fun i b => if_neg (by omega)⟩
      have e : tpB G (X + 1) v1 i = tb i.toNat := by
        unfold tpB
        rw [if_pos (by omega), a3 _ (by omega)]
      have hby := hr.2.2.1 i.toNat
      rw [a3 _ (by omega)] at hby
      rw [e]
      exact ⟨hby, R1.2.2.2.2.1.2.2.1 _ (by omega)⟩
    rcases o_load (L := L) hx hr (k := v1) (by rw [a2]; omega) with ⟨cs, cl', σ', ln', lv', G1, c1, x1, x2, ⟨s1, s2, s3, s4, s5⟩, fr, e1⟩ | ⟨kf, T', G1, c1, x1, x2, ⟨s1, s2, s3, s4, s5⟩, fr, e1⟩
    · have R1 := RI_c hR (G' := G1) (fun x hxx => fr x (by omega)) rfl
      have C1 : CI E r G1 X cs σ' 0 kk nn τ cl' ln' lv' ys 0 0 tb 0 (-1) := by
        refine ⟨⟨p, q, x1⟩, x2, ⟨?_, o2, fun j hj => ?_⟩, s1, s2, fun j hj => absurd hj (by omega), s3, s4⟩
        · rw [fr _ (by omega)]
          exact o1
        · rw [fr _ (by omega)]
          exact o3 j hj
      have hT1 := hT G1 R1
      obtain ⟨R1a, R1b, R1c, ⟨q1, q2, q3⟩, ⟨b1, b2, b3, b4, b5⟩, t1, t2, t3⟩ := id R1
      rcases z_load (L := L) R1a R1b R1c t3 t1 t2 hT1 (by rw [b2]; omega) (by rw [b2]; omega) (G (X + 1 + 4)) (G (X + 1 + 5)) with ⟨cs2, cl2, σ2, ln2, lv2, G2, L2, d1, ⟨l1, l2, l3, l4, l5, l6⟩, ⟨w1, w2, w3, w4⟩, M2, P2, LM2, e2⟩ | ⟨kf, T', G2, L2, d1, d2⟩
      · have dd := c1.symm.trans d1
        cases dd
        have M2' := M2 fun t ht => (x1.2.1.2.2.2.2.2.1 t ht).2
        have LM2' := LM2 fun t ht => ⟨(x2.1.2.2 t ht).2.1, fun j hj => ((x2.1.2.2 t ht).2.2 j hj).2⟩
        have R2 : RI E r G2 L2 m cs σ' 0 (fun _ => cs) (fun _ => σ') cl' ln' lv' ys 0 0 tb 0 (-1) := by
          refine ⟨M2', PM_n P2 fun c hc => absurd hc (by omega), LM2', ⟨by rw [l2]; exact q1, q2, fun j hj => ?_⟩, ⟨w1, w2, fun j hj => absurd hj (by omega), w3, w4⟩, l3, l4, l5⟩
          rw [l1 _ (by omega) (by omega) (by omega) (by omega) (by omega)]
          exact q3 j hj
        have C2 := CI_c C1 (G' := G2) (fun x hxx => l1 x (by omega) (by omega) (by omega) (by omega) (by omega))
        exact ⟨G1, r, G2, L2, _, ⟨cs, σ', 0, kk, nn, τ, cl', ln', lv', ys, 0, 0, tb, 0, -1, fun _ => cs, fun _ => σ', C2, R2, rfl, rfl, fun c hc => absurd hc (by omega), hy⟩, fun x hxx => ⟨fr x (by omega), (l1 x (by omega) (by omega) (by omega) (by omega) (by omega)).trans (fr x (by omega))⟩, e1, e2⟩
      · have dd := c1.symm.trans d1
        cases dd
    · have R1 := RI_c hR (G' := G1) (fun x hxx => fr x (by omega)) rfl
      have C1 : CI E r G1 X n σ a kk nn τ cl ln lv ys 9 0 tb kf T'.2.1 := by
        refine ⟨⟨p, q, x1⟩, x2, ⟨?_, o2, fun j hj => ?_⟩, s1, s2, fun j hj => absurd hj (by omega), s3, s4⟩
        · rw [fr _ (by omega)]
          exact o1
        · rw [fr _ (by omega)]
          exact o3 j hj
      have hT1 := hT G1 R1
      obtain ⟨R1a, R1b, R1c, ⟨q1, q2, q3⟩, ⟨b1, b2, b3, b4, b5⟩, t1, t2, t3⟩ := id R1
      rcases z_load (L := L) R1a R1b R1c t3 t1 t2 hT1 (by rw [b2]; omega) (by rw [b2]; omega) (G (X + 1 + 4)) (G (X + 1 + 5)) with ⟨cs2, cl2, σ2, ln2, lv2, G2, L2, d1, d2⟩ | ⟨kf2, T2, G2, L2, d1, ⟨l1, l2, l3, l4, l5, l6⟩, ⟨w1, w2, w3, w4⟩, M2, P2, LM2, e2⟩
      · have dd := c1.symm.trans d1
        cases dd
      · have dd := c1.symm.trans d1
        cases dd
        have R2 : RI E r G2 L2 m n σ a N Sg cl ln lv ys 9 0 tb kf T'.2.1 := by
          refine ⟨M2, P2, LM2, ⟨by rw [l2]; exact q1, q2, fun j hj => ?_⟩, ⟨w1, w2, fun j hj => absurd hj (by omega), w3, w4⟩, l3, l4, l5⟩
          rw [l1 _ (by omega) (by omega) (by omega) (by omega) (by omega)]
          exact q3 j hj
        have C2 := CI_c C1 (G' := G2) (fun x hxx => l1 x (by omega) (by omega) (by omega) (by omega) (by omega))
        exact ⟨G1, r, G2, L2, _, ⟨n, σ, a, kk, nn, τ, cl, ln, lv, ys, 9, 0, tb, kf, T'.2.1, N, Sg, C2, R2, hN, hS, hA, hy⟩, fun x hxx => ⟨fr x (by omega), (l1 x (by omega) (by omega) (by omega) (by omega) (by omega)).trans (fr x (by omega))⟩, e1, e2⟩
theorem onS_c {bad : Bool} {s : Int} {f g : Int × Int} (h : 0 ≤ s ∧ s < n → f = g) : onS bad n s f = onS bad n s g := by
  unfold onS
  by_cases b : bad = true
  · rw [if_pos b, if_pos b]
  · rw [if_neg b, if_neg b]
    by_cases c : 0 ≤ s ∧ s < n
    · rw [if_pos c, if_pos c, h c]
    · rw [if_neg c, if_neg c]
theorem onS_d {bad : Bool} {s : Int} {f g : Int × Int} (h : ¬ bad = true → 0 ≤ s ∧ s < n → f = g) : onS bad n s f = onS bad n s g := by
  by_cases b : bad = true
  · unfold onS
    rw [if_pos b, if_pos b]
  · exact onS_c (h b)
theorem ws_c {s : Int} (hM : MD E r G m n σ) (c : 0 ≤ s ∧ s < n) : wtZ (σ s.toNat) = wsZ (σ s.toNat) := funext fun d => ws_m (hM.2.2 s.toNat (by omega)).2
theorem ca_sieve (h : ST E r G L X m n σ a kk nn τ cl ln lv ys st fl tb f1 f2 N Sg) (i1 : I32 v1) (i2 : I32 v2) : CALL E r G L X m MX9_sieve MX10_sieve [.ref X, .int (zi v1), .int (zi v2), jk] [.ref m, .int (zi v1), .int (zi v2)] := by
  obtain ⟨⟨p, q, hx⟩, hr, -⟩ := id h.2.1
  exact call_lk h (x_sieve (L := L) hx i1 i2) fun G1 hR => y_sieve (L := L) hR.1 i1 i2
theorem ca_told (h : ST E r G L X m n σ a kk nn τ cl ln lv ys st fl tb f1 f2 N Sg) (i1 : I32 v1) (i2 : I32 v2) (i3 : I32 v3) : CALL E r G L X m MX9_told MX10_told [.ref X, .int (zi v1), .int (zi v2), .int (zi v3), jk] [.ref m, .int (zi v1), .int (zi v2), .int (zi v3)] := by
  obtain ⟨⟨p, q, hx⟩, hr, -⟩ := id h.2.1
  exact call_lk h (x_told (L := L) hx i1 i2 i3) fun G1 hR => y_told (L := L) hR.1 i1 i2 i3
theorem ca_number (h : ST E r G L X m n σ a kk nn τ cl ln lv ys st fl tb f1 f2 N Sg) (i1 : I32 v1) (i2 : I32 v2) : CALL E r G L X m MX9_number MX10_number [.ref X, .int (zi v1), .int (zi v2), jk] [.ref m, .int (zi v1), .int (zi v2)] := by
  obtain ⟨⟨p, q, hx⟩, hr, -⟩ := id h.2.1
  exact call_lk h (x_number (L := L) hx i1 i2) fun G1 hR => y_number (L := L) hR.1 i1 i2
theorem ca_rank (h : ST E r G L X m n σ a kk nn τ cl ln lv ys st fl tb f1 f2 N Sg) (i1 : I32 v1) (i2 : I32 v2) : CALL E r G L X m MX9_rank MX10_rank [.ref X, .int (zi v1), .int (zi v2), jk] [.ref m, .int (zi v1), .int (zi v2)] := by
  obtain ⟨⟨p, q, hx⟩, hr, -⟩ := id h.2.1
  exact call_lk h (x_rank (L := L) hx i1 i2) fun G1 hR => y_rank (L := L) hR.1 i1 i2
theorem ca_fate (h : ST E r G L X m n σ a kk nn τ cl ln lv ys st fl tb f1 f2 N Sg) (i1 : I32 v1) (i2 : I32 v2) (i3 : I32 v3) : CALL E r G L X m MX9_fate MX10_fate [.ref X, .int (zi v1), .int (zi v2), .int (zi v3), jk] [.ref m, .int (zi v1), .int (zi v2), .int (zi v3), jk] := by
  obtain ⟨⟨p, q, hx⟩, hr, -⟩ := id h.2.1
  exact call_lk h (x_fate (L := L) hx i1 i2 i3) fun G1 hR => y_fate (L := L) hR.1 i1 i2 i3
theorem ca_back (h : ST E r G L X m n σ a kk nn τ cl ln lv ys st fl tb f1 f2 N Sg) (i1 : I32 v1) (i2 : I32 v2) (i3 : I32 v3) : CALL E r G L X m MX9_back MX10_back [.ref X, .int (zi v1), .int (zi v2), .int (zi v3), jk] [.ref m, .int (zi v1), .int (zi v2), .int (zi v3), jk] := by
  obtain ⟨⟨p, q, hx⟩, hr, -⟩ := id h.2.1
  exact call_lk h (x_back (L := L) hx i1 i2 i3) fun G1 hR => y_back (L := L) hR.1 i1 i2 i3
theorem ca_ahead (h : ST E r G L X m n σ a kk nn τ cl ln lv ys st fl tb f1 f2 N Sg) (i1 : I32 v1) (i2 : I32 v2) (i3 : I32 v3) : CALL E r G L X m MX9_ahead MX10_ahead [.ref X, .int (zi v1), .int (zi v2), .int (zi v3), jk] [.ref m, .int (zi v1), .int (zi v2), .int (zi v3), jk, jk] := by
  obtain ⟨⟨p, q, hx⟩, hr, -⟩ := id h.2.1
  exact call_lk h (x_ahead (L := L) hx i1 i2 i3) fun G1 hR => y_ahead (L := L) hR.1 i1 i2 i3
theorem ca_would (h : ST E r G L X m n σ a kk nn τ cl ln lv ys st fl tb f1 f2 N Sg) (i1 : I32 v1) (i2 : I32 v2) : CALL E r G L X m MX9_would MX10_would [.ref X, .int (zi v1), .int (zi v2), jk] [.ref m, .int (zi v1), .int (zi v2)] := by
  obtain ⟨⟨p, q, hx⟩, hr, -⟩ := id h.2.1
  exact call_lk h (x_would (L := L) hx i1 i2) fun G1 hR => y_would (L := L) hR.1 i1 i2
theorem ca_till (h : ST E r G L X m n σ a kk nn τ cl ln lv ys st fl tb f1 f2 N Sg) (i1 : I32 v1) (i2 : I32 v2) : CALL E r G L X m MX9_till MX10_till [.ref X, .int (zi v1), .int (zi v2), jk] [.ref m, .int (zi v1), .int (zi v2), jk] := by
  obtain ⟨⟨p, q, hx⟩, hr, -⟩ := id h.2.1
  exact call_lk h (x_till (L := L) hx i1 i2) fun G1 hR => y_till (L := L) hR.1 i1 i2
theorem ca_origin (h : ST E r G L X m n σ a kk nn τ cl ln lv ys st fl tb f1 f2 N Sg) (i1 : I32 v1) (i2 : I32 v2) : CALL E r G L X m MX9_origin MX10_origin [.ref X, .int (zi v1), .int (zi v2), jk] [.ref m, .int (zi v1), .int (zi v2), jk] := by
  obtain ⟨⟨p, q, hx⟩, hr, -⟩ := id h.2.1
  exact call_lk h (x_origin (L := L) hx i1 i2) fun G1 hR => y_origin (L := L) hR.1 i1 i2
theorem ca_gone (h : ST E r G L X m n σ a kk nn τ cl ln lv ys st fl tb f1 f2 N Sg) (i1 : I32 v1) (i2 : I32 v2) : CALL E r G L X m MX9_gone MX10_gone [.ref X, .int (zi v1), .int (zi v2), jk] [.ref m, .int (zi v1), .int (zi v2), jk, jk] := by
  obtain ⟨⟨p, q, hx⟩, hr, -⟩ := id h.2.1
  exact call_lk h (x_gone (L := L) hx i1 i2) fun G1 hR => y_gone (L := L) hR.1 i1 i2
theorem ca_upTo (h : ST E r G L X m n σ a kk nn τ cl ln lv ys st fl tb f1 f2 N Sg) (i1 : I32 v1) (i2 : I32 v2) : CALL E r G L X m MX9_upTo MX10_upTo [.ref X, .int (zi v1), .int (zi v2), jk] [.ref m, .int (zi v1), .int (zi v2)] := by
  obtain ⟨⟨p, q, hx⟩, hr, -⟩ := id h.2.1
  exact call_lk h (x_upTo (L := L) hx i1 i2) fun G1 hR => y_upTo (L := L) hR.1 i1 i2
theorem ca_gap (h : ST E r G L X m n σ a kk nn τ cl ln lv ys st fl tb f1 f2 N Sg) (i1 : I32 v1) (i2 : I32 v2) : CALL E r G L X m MX9_gap MX10_gap [.ref X, .int (zi v1), .int (zi v2), jk] [.ref m, .int (zi v1), .int (zi v2)] := by
  obtain ⟨⟨p, q, hx⟩, hr, -⟩ := id h.2.1
  exact call_lk h (x_gap (L := L) hx i1 i2) fun G1 hR => y_gap (L := L) hR.1 i1 i2
theorem ca_gaps (h : ST E r G L X m n σ a kk nn τ cl ln lv ys st fl tb f1 f2 N Sg) (i1 : I32 v1) (i2 : I32 v2) : CALL E r G L X m MX9_gaps MX10_gaps [.ref X, .int (zi v1), .int (zi v2), jk, jk, jk] [.ref m, .int (zi v1), .int (zi v2), jk, jk] := by
  obtain ⟨⟨p, q, hx⟩, hr, -⟩ := id h.2.1
  exact call_lk h (x_gaps (L := L) hx i1 i2) fun G1 hR => y_gaps (L := L) hR.1 i1 i2
theorem ca_gapsOf (h : ST E r G L X m n σ a kk nn τ cl ln lv ys st fl tb f1 f2 N Sg) (i1 : I32 v1) (i2 : I32 v2) : CALL E r G L X m MX9_gapsOf MX10_gapsOf [.ref X, .int (zi v1), .int (zi v2), jk] [.ref m, .int (zi v1), .int (zi v2)] := by
  obtain ⟨⟨p, q, hx⟩, hr, -⟩ := id h.2.1
  exact call_lk h (x_gapsOf (L := L) hx i1 i2) fun G1 hR => y_gapsOf (L := L) hR.1 i1 i2
theorem ca_record (h : ST E r G L X m n σ a kk nn τ cl ln lv ys st fl tb f1 f2 N Sg) (i1 : I32 v1) (i2 : I32 v2) : CALL E r G L X m MX9_record MX10_record [.ref X, .int (zi v1), .int (zi v2), jk] [.ref m, .int (zi v1), .int (zi v2), jk, jk, jk] := by
  obtain ⟨⟨p, q, hx⟩, hr, -⟩ := id h.2.1
  exact call_lk h (x_record (L := L) hx i1 i2) fun G1 hR => y_record (L := L) hR.1 i1 i2
theorem ca_pairs (h : ST E r G L X m n σ a kk nn τ cl ln lv ys st fl tb f1 f2 N Sg) (i1 : I32 v1) (i2 : I32 v2) (i3 : I32 v3) : CALL E r G L X m MX9_pairs MX10_pairs [.ref X, .int (zi v1), .int (zi v2), .int (zi v3), jk] [.ref m, .int (zi v1), .int (zi v2), .int (zi v3), jk, jk, jk, jk] := by
  obtain ⟨⟨p, q, hx⟩, hr, -⟩ := id h.2.1
  exact call_lk h (x_pairs (L := L) hx i1 i2 i3) fun G1 hR => y_pairs (L := L) hR.1 i1 i2 i3
theorem ca_triples (h : ST E r G L X m n σ a kk nn τ cl ln lv ys st fl tb f1 f2 N Sg) (i1 : I32 v1) (i2 : I32 v2) (i3 : I32 v3) : CALL E r G L X m MX9_triples MX10_triples [.ref X, .int (zi v1), .int (zi v2), .int (zi v3), jk] [.ref m, .int (zi v1), .int (zi v2), .int (zi v3), jk, jk] := by
  obtain ⟨⟨p, q, hx⟩, hr, -⟩ := id h.2.1
  exact call_lk h (x_triples (L := L) hx i1 i2 i3) fun G1 hR => y_triples (L := L) hR.1 i1 i2 i3
theorem ca_sums (h : ST E r G L X m n σ a kk nn τ cl ln lv ys st fl tb f1 f2 N Sg) (i1 : I32 v1) (i2 : I32 v2) : CALL E r G L X m MX9_sums MX10_sums [.ref X, .int (zi v1), .int (zi v2), jk] [.ref m, .int (zi v1), .int (zi v2)] := by
  obtain ⟨⟨p, q, hx⟩, hr, -⟩ := id h.2.1
  have e : onS false n v1 (0, wtZ (σ v1.toNat) v2) = onS false n v1 (0, wsZ (σ v1.toNat) v2) := onS_c fun c => by rw [ws_c h.2.2.1.1 c]
  exact call_lk h (x_sums (L := L) hx i1 i2) fun G1 hR => by
    have y := y_sums (L := L) hR.1 i1 i2
    rw [e] at y
    exact y
theorem ca_misses (h : ST E r G L X m n σ a kk nn τ cl ln lv ys st fl tb f1 f2 N Sg) (i1 : I32 v1) (i2 : I32 v2) : CALL E r G L X m MX9_misses MX10_misses [.ref X, .int (zi v1), .int (zi v2), jk] [.ref m, .int (zi v1), .int (zi v2), jk] := by
  obtain ⟨⟨p, q, hx⟩, hr, -⟩ := id h.2.1
  have e : onS (decide ¬(1 ≤ v2 ∧ v2 ≤ 99)) n v1 (ans (fnL (wtZ (σ v1.toNat)) (2 * nAS (σ v1.toNat) (szS (σ v1.toNat))) v2 300000 (2 * nAS (σ v1.toNat) 1))) = onS (decide ¬(1 ≤ v2 ∧ v2 ≤ 99)) n v1 (ans (fnZ (σ v1.toNat) v2)) := onS_d fun b c => by rw [fi_m (h.2.2.1.1.2.2 v1.toNat (by omega)).2 (by have := Decidable.not_not.mp (fun z => b (decide_eq_true z)); omega)]
  exact call_lk h (x_misses (L := L) hx i1 i2) fun G1 hR => by
    have y := y_misses (L := L) hR.1 i1 i2
    rw [e] at y
    exact y
theorem ca_run (h : ST E r G L X m n σ a kk nn τ cl ln lv ys st fl tb f1 f2 N Sg) (i1 : I32 v1) (i2 : I32 v2) : CALL E r G L X m MX9_run MX10_run [.ref X, .int (zi v1), .int (zi v2), jk, jk] [.ref m, .int (zi v1), .int (zi v2), jk, jk, jk, jk] := by
  obtain ⟨⟨p, q, hx⟩, hr, -⟩ := id h.2.1
  exact call_lk h (x_run (L := L) hx i1 i2) fun G1 hR => y_run (L := L) hR.1 i1 i2
theorem ca_progression (h : ST E r G L X m n σ a kk nn τ cl ln lv ys st fl tb f1 f2 N Sg) (i1 : I32 v1) (i2 : I32 v2) (i3 : I32 v3) : CALL E r G L X m MX9_progression MX10_progression [.ref X, .int (zi v1), .int (zi v2), .int (zi v3), jk, jk] [.ref m, .int (zi v1), .int (zi v2), .int (zi v3), jk, jk, jk, jk] := by
  obtain ⟨⟨p, q, hx⟩, hr, -⟩ := id h.2.1
  exact call_lk h (x_progression (L := L) hx i1 i2 i3) fun G1 hR => y_progression (L := L) hR.1 i1 i2 i3
theorem ca_rests (h : ST E r G L X m n σ a kk nn τ cl ln lv ys st fl tb f1 f2 N Sg) (i1 : I32 v1) (i2 : I32 v2) (i3 : I32 v3) : CALL E r G L X m MX9_rests MX10_rests [.ref X, .int (zi v1), .int (zi v2), .int (zi v3), jk] [.ref m, .int (zi v1), .int (zi v2), .int (zi v3), jk, jk] := by
  obtain ⟨⟨p, q, hx⟩, hr, -⟩ := id h.2.1
  exact call_lk h (x_rests (L := L) hx i1 i2 i3) fun G1 hR => y_rests (L := L) hR.1 i1 i2 i3
theorem ca_ring (h : ST E r G L X m n σ a kk nn τ cl ln lv ys st fl tb f1 f2 N Sg) (i1 : I32 v1) (i2 : I32 v2) (i3 : I32 v3) : CALL E r G L X m MX9_ring MX10_ring [.ref X, .int (zi v1), .int (zi v2), .int (zi v3), jk, jk] [.ref m, .int (zi v1), .int (zi v2), .int (zi v3), jk, jk, jk, jk] := by
  obtain ⟨⟨p, q, hx⟩, hr, -⟩ := id h.2.1
  exact call_lk h (x_ring (L := L) hx i1 i2 i3) fun G1 hR => y_ring (L := L) hR.1 i1 i2 i3
theorem ca_chain (h : ST E r G L X m n σ a kk nn τ cl ln lv ys st fl tb f1 f2 N Sg) (i1 : I32 v1) (i2 : I32 v2) (i3 : I32 v3) : CALL E r G L X m MX9_chain MX10_chain [.ref X, .int (zi v1), .int (zi v2), .int (zi v3), jk] [.ref m, .int (zi v1), .int (zi v2), .int (zi v3), jk, jk, jk, jk, jk] := by
  obtain ⟨⟨p, q, hx⟩, hr, -⟩ := id h.2.1
  exact call_lk h (x_chain (L := L) hx i1 i2 i3) fun G1 hR => y_chain (L := L) hR.1 i1 i2 i3
theorem ca_spread (h : ST E r G L X m n σ a kk nn τ cl ln lv ys st fl tb f1 f2 N Sg) (i1 : I32 v1) (i2 : I32 v2) (i3 : I32 v3) : CALL E r G L X m MX9_spread MX10_spread [.ref X, .int (zi v1), .int (zi v2), .int (zi v3), jk, jk] [.ref m, .int (zi v1), .int (zi v2), .int (zi v3), jk, jk, jk, jk] := by
  obtain ⟨⟨p, q, hx⟩, hr, -⟩ := id h.2.1
  exact call_lk h (x_spread (L := L) hx i1 i2 i3) fun G1 hR => y_spread (L := L) hR.1 i1 i2 i3
theorem ca_sketch (h : ST E r G L X m n σ a kk nn τ cl ln lv ys st fl tb f1 f2 N Sg) (i1 : I32 v1) (i2 : I32 v2) (i3 : I32 v3) : CALL E r G L X m MX9_sketch MX10_sketch [.ref X, .int (zi v1), .int (zi v2), .int (zi v3), jk, jk] [.ref m, .int (zi v1), .int (zi v2), .int (zi v3), jk, jk, jk] := by
  obtain ⟨⟨p, q, hx⟩, hr, -⟩ := id h.2.1
  exact call_lk h (x_sketch (L := L) hx i1 i2 i3) fun G1 hR => y_sketch (L := L) hR.1 i1 i2 i3
theorem ca_balance (h : ST E r G L X m n σ a kk nn τ cl ln lv ys st fl tb f1 f2 N Sg) (i1 : I32 v1) (i2 : I32 v2) : CALL E r G L X m MX9_balance MX10_balance [.ref X, .int (zi v1), .int (zi v2), jk, jk] [.ref m, .int (zi v1), .int (zi v2)] := by
  obtain ⟨⟨p, q, hx⟩, hr, -⟩ := id h.2.1
  exact call_lk h (x_balance (L := L) hx i1 i2) fun G1 hR => y_balance (L := L) hR.1 i1 i2
theorem ca_pattern (h : ST E r G L X m n σ a kk nn τ cl ln lv ys st fl tb f1 f2 N Sg) (i1 : I32 v1) (i2 : I32 v2) (i3 : I32 v3) (i4 : I32 v4) : CALL E r G L X m MX9_pattern MX10_pattern [.ref X, .int (zi v1), .int (zi v2), .int (zi v3), .int (zi v4), jk] [.ref m, .int (zi v1), .int (zi v2), .int (zi v3), .int (zi v4), jk, jk] := by
  obtain ⟨⟨p, q, hx⟩, hr, -⟩ := id h.2.1
  exact call_lk h (x_pattern (L := L) hx i1 i2 i3 i4) fun G1 hR => y_pattern (L := L) hR.1 i1 i2 i3 i4
theorem ca_mirror (h : ST E r G L X m n σ a kk nn τ cl ln lv ys st fl tb f1 f2 N Sg) (i1 : I32 v1) (i2 : I32 v2) : CALL E r G L X m MX9_mirror MX10_mirror [.ref X, .int (zi v1), .int (zi v2), jk] [.ref m, .int (zi v1), .int (zi v2), jk, jk] := by
  obtain ⟨⟨p, q, hx⟩, hr, -⟩ := id h.2.1
  exact call_lk h (x_mirror (L := L) hx i1 i2) fun G1 hR => y_mirror (L := L) hR.1 i1 i2
theorem ca_half (h : ST E r G L X m n σ a kk nn τ cl ln lv ys st fl tb f1 f2 N Sg) (i1 : I32 v1) : CALL E r G L X m MX9_half MX10_half [.ref X, .int (zi v1), jk] [.ref m, .int (zi v1)] := by
  obtain ⟨⟨p, q, hx⟩, hr, -⟩ := id h.2.1
  exact call_lk h (x_half (L := L) hx i1) fun G1 hR => y_half (L := L) hR.1 i1
theorem ca_usual (h : ST E r G L X m n σ a kk nn τ cl ln lv ys st fl tb f1 f2 N Sg) (i1 : I32 v1) : CALL E r G L X m MX9_usual MX10_usual [.ref X, .int (zi v1), jk] [.ref m, .int (zi v1), jk, jk, jk, jk, jk] := by
  obtain ⟨⟨p, q, hx⟩, hr, -⟩ := id h.2.1
  exact call_lk h (x_usual (L := L) hx i1) fun G1 hR => y_usual (L := L) hR.1 i1
theorem ca_both (h : ST E r G L X m n σ a kk nn τ cl ln lv ys st fl tb f1 f2 N Sg) (i1 : I32 v1) (i2 : I32 v2) (i3 : I32 v3) : CALL E r G L X m MX9_both MX10_both [.ref X, .int (zi v1), .int (zi v2), .int (zi v3), jk, jk, jk] [.ref m, .int (zi v1), .int (zi v2), .int (zi v3), jk, jk, jk] := by
  obtain ⟨⟨p, q, hx⟩, hr, -⟩ := id h.2.1
  exact call_lk h (x_both (L := L) hx i1 i2 i3) fun G1 hR => y_both (L := L) hR.1 i1 i2 i3
theorem ca_lead (h : ST E r G L X m n σ a kk nn τ cl ln lv ys st fl tb f1 f2 N Sg) (i1 : I32 v1) (i2 : I32 v2) (i3 : I32 v3) : CALL E r G L X m MX9_lead MX10_lead [.ref X, .int (zi v1), .int (zi v2), .int (zi v3), jk, jk] [.ref m, .int (zi v1), .int (zi v2), .int (zi v3), jk, jk, jk, jk, jk, jk, jk, jk, jk, jk, jk] := by
  obtain ⟨⟨p, q, hx⟩, hr, -⟩ := id h.2.1
  exact call_lk h (x_lead (L := L) hx i1 i2 i3) fun G1 hR => y_lead (L := L) hR.1 i1 i2 i3
theorem ca_alike (h : ST E r G L X m n σ a kk nn τ cl ln lv ys st fl tb f1 f2 N Sg) (i1 : I32 v1) (i2 : I32 v2) : CALL E r G L X m MX9_alike MX10_alike [.ref X, .int (zi v1), .int (zi v2), jk, jk] [.ref m, .int (zi v1), .int (zi v2), jk] := by
  obtain ⟨⟨p, q, hx⟩, hr, -⟩ := id h.2.1
  exact call_lk h (x_alike (L := L) hx i1 i2) fun G1 hR => y_alike (L := L) hR.1 i1 i2
theorem ca_through (h : ST E r G L X m n σ a kk nn τ cl ln lv ys st fl tb f1 f2 N Sg) (i1 : I32 v1) (i2 : I32 v2) (i3 : I32 v3) : CALL E r G L X m MX9_through MX10_through [.ref X, .int (zi v1), .int (zi v2), .int (zi v3), jk, jk] [.ref m, .int (zi v1), .int (zi v2), .int (zi v3), jk, jk] := by
  obtain ⟨⟨p, q, hx⟩, hr, -⟩ := id h.2.1
  exact call_lk h (x_through (L := L) hx i1 i2 i3) fun G1 hR => y_through (L := L) hR.1 i1 i2 i3
theorem ca_list (h : ST E r G L X m n σ a kk nn τ cl ln lv ys st fl tb f1 f2 N Sg) (i1 : I32 v1) (i2 : I32 v2) : CALL E r G L X m MX9_list MX10_list [.ref X, .int (zi v1), .int (zi v2), jk] [.ref m, .int (zi v1), .int (zi v2)] := by
  obtain ⟨⟨p, q, hx⟩, hr, -⟩ := id h.2.1
  exact call_lk h (x_list (L := L) hx hr i1 i2) fun G1 hR => y_list (L := L) hR.1 hR.2.2.1 i1 i2
theorem ca_fits (h : ST E r G L X m n σ a kk nn τ cl ln lv ys st fl tb f1 f2 N Sg) (i1 : I32 v1) (i2 : I32 v2) (i3 : I32 v3) : CALL E r G L X m MX9_fits MX10_fits [.ref X, .int (zi v1), .int (zi v2), .int (zi v3), jk, jk] [.ref m, .int (zi v1), .int (zi v2), .int (zi v3), jk, jk, jk, jk] := by
  obtain ⟨⟨p, q, hx⟩, hr, -⟩ := id h.2.1
  exact call_lk h (x_fits (L := L) hx hr i1 i2 i3) fun G1 hR => y_fits (L := L) hR.1 hR.2.2.1 i1 i2 i3
theorem ca_guess (h : ST E r G L X m n σ a kk nn τ cl ln lv ys st fl tb f1 f2 N Sg) (i1 : I32 v1) : CALL E r G L X m MX9_guess MX10_guess [.ref X, .int (zi v1), jk, jk, jk] [.ref m, .int (zi v1), jk] := by
  obtain ⟨⟨p, q, hx⟩, hr, -⟩ := id h.2.1
  exact call_lk h (x_guess (L := L) hx hr i1) fun G1 hR => y_guess (L := L) hR.1 hR.2.2.1 i1
theorem ca_meets (h : ST E r G L X m n σ a kk nn τ cl ln lv ys st fl tb f1 f2 N Sg) (i1 : I32 v1) (i2 : I32 v2) (i3 : I32 v3) (i4 : I32 v4) : CALL E r G L X m MX9_meets MX10_meets [.ref X, .int (zi v1), .int (zi v2), .int (zi v3), .int (zi v4), jk, jk] [.ref m, .int (zi v1), .int (zi v2), .int (zi v3), .int (zi v4), jk, jk, jk, jk] := by
  obtain ⟨⟨p, q, hx⟩, hr, -⟩ := id h.2.1
  exact call_lk h (x_meets (L := L) hx i1 i2 i3 i4) fun G1 hR => y_meets (L := L) hR.1 i1 i2 i3 i4
theorem ca_apart (h : ST E r G L X m n σ a kk nn τ cl ln lv ys st fl tb f1 f2 N Sg) (i1 : I32 v1) (i2 : I32 v2) (i3 : I32 v3) : CALL E r G L X m MX9_apart MX10_apart [.ref X, .int (zi v1), .int (zi v2), .int (zi v3), jk, jk] [.ref m, .int (zi v1), .int (zi v2), .int (zi v3), jk, jk, jk, jk, jk, jk] := by
  obtain ⟨⟨p, q, hx⟩, hr, -⟩ := id h.2.1
  exact call_lk h (x_apart (L := L) hx i1 i2 i3) fun G1 hR => y_apart (L := L) hR.1 i1 i2 i3
end CB
