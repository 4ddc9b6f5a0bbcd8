/-! The law from its entry: a new house, a text, its load. -/
section RZ
variable {G : Nat → Nat → Int} {S : Nat}
theorem rgS_z (h : ∀ x, S ≤ x → x ≤ S + 5 → G x = fun _ => 0) : rgS G S := by
  unfold rgS
  rw [h S (by omega) (by omega), h (S + 1) (by omega) (by omega), h (S + 2) (by omega) (by omega), h (S + 3) (by omega) (by omega), h (S + 4) (by omega) (by omega), h (S + 5) (by omega) (by omega)]
  simp
theorem rgL_z (h0 : G S = fun _ => 0) (h1 : G (S + 1) = fun _ => 0) : rgL G S := by
  unfold rgL
  rw [h0, h1]
  simp
end RZ
section BS
variable {E E' : AE} {G G' L L' : Nat → Nat → Int} {r r' : Nat → Nat → Option Nat} {h : AH} {Q : AH → Value → Prop} {X n a b w m k1 k2 cl : Nat} {p q : Nat → Nat} {σ τ σ' : Nat → Nat → Int} {kk nn : Nat → Int} {ln : Nat → Nat} {lv : Nat → Nat → Int} {tb : Nat → Int} {st st' s x y g c v fl f1 f2 : Int}
theorem H_many (h : HI E r G X n σ a kk nn τ cl ln lv st fl tb f1 f2) (hw : 0 ≤ y ∧ y ≤ 2) : ∃ G', FX X G G' ∧ HI E r G' X n σ a kk nn τ cl ln lv 0 fl tb f1 f2 ∧ ∀ Q, RK MX9_many 0 [.ref X, .int (zi y)] [] (0, 0) (E, zg G, zk L, r) Q = Q (E, zg G', zk L, r) (.int (zi (if y = 0 then n else if y = 1 then a else cl))) := by
  obtain ⟨⟨⟨p, q, h1⟩, h2⟩, h3, -⟩ := id h
  have hm : manO y n a cl = (0, if y = 0 then (n : Int) else if y = 1 then (a : Int) else (cl : Int)) := if_pos hw
  have hl := lkX_st (G := G) h1.2.2 0
  refine ⟨u2 G X 5 0, fun x hx => hl.1 x (by omega) (by omega), HI_lk h hl (u2_s _ _ _ _), fun Q => ?_⟩
  rw [o_many h1 h2 ⟨by omega, by omega⟩, hm]
theorem H_sieve2 (h : HI E r G X 0 σ a kk nn τ cl ln lv st fl tb f1 f2) : ∃ G', FX X G G' ∧ HI E r G' X 0 σ a kk nn τ cl ln lv 2 fl tb f1 f2 ∧ ∀ Q, RK MX9_sieve 0 [.ref X, .int (zi 0), .int (zi 0), jk] [] (0, 0) (E, zg G, zk L, r) Q = Q (E, zg G', zk L, r) (.int (zi (-1))) := by
  obtain ⟨⟨⟨p, q, h1⟩, h2⟩, h3, -⟩ := id h
  obtain ⟨G1, g1, g2, g3⟩ := x_sieve (L := L) (s := 0) (w := 0) h1 (by decide) (by decide)
  have eo : ∀ f, onS (decide (¬ ((0 : Int) ≤ 0 ∧ (0 : Int) ≤ 7))) 0 0 f = (2, -1) := fun f => by
    unfold onS
    rw [if_neg (by decide), if_neg (by decide)]
  rw [eo] at g2
  simp only [eo] at g3
  exact ⟨G1, fun x hx => g1.1 x (by omega) (by omega), HI_lk h g1 g2, g3⟩
theorem H_status (h : HI E r G X n σ a kk nn τ cl ln lv st fl tb f1 f2) : ∀ Q, RK MX9_status 0 [.ref X] [] (0, 0) (E, zg G, zk L, r) Q = Q (E, zg G, zk L, r) (.int (zi st)) := fun Q => by
  obtain ⟨⟨⟨p, q, h1⟩, h2⟩, h3, h4, -⟩ := id h
  rw [o_status h1, h4]
theorem scrT_l (E : AE) (G : Nat → Nat → Int) (b : Nat) : (scrT E G b).length ≤ 180 := by
  have l0 := sieveT_l 0 (cel E G b 1)
  have l1 := sieveT_l 1 (cel E G b 2)
  have l2 := sieveT_l 2 (cel E G b 3)
  have d1 := dig2_l (pt (cel E G b 4) 20)
  have d2 := dig2_l (pt (cel E G b 4) 20 + 1 + pt (cel E G b 4 / 32) 9)
  have l3 : (listT (cel E G b 4)).length ≤ 13 := by
    unfold listT tw1076
    simp only [List.length_append, List.length_cons, List.length_nil]
    omega
  unfold scrT
  split
  · simp only [List.length_append]
    omega
  · simp only [List.length_append, List.length_nil]
    omega
/-- from a new house on -/
theorem law_house (hI : HI E r G X 0 σ a kk nn τ cl ln lv st 0 tb f1 f2) (hcl : a = 0) (hS : SCR E G b) (hb : b < X) (hC : LWC E r G) (hCf : ∀ G', FX X G G' → LWC E r G') (g1 : k1 + 200 ≤ 600000) (g2 : k2 + 60000 ≤ 7302250) : RK ML_law 8 [.ref b, .ref X, jk, jk, jk, jk, jk, jk, jk] [] (k1, k2) (E, zg G, zk L, r) (fun _ v => v = .int 1) := by
  have hk := HI_h hI
  have hX : X + 130 ≤ E.1 := hI.2.1
  have g1a : k1 ≤ 600000 := by omega
  have g2a : k2 ≤ 7302250 := by omega
  obtain ⟨G1, f1', hI1, e1⟩ := H_many (L := L) (y := 0) hI (by decide)
  rw [if_pos rfl] at e1
  obtain ⟨G2, f2', hI2, e2⟩ := H_sieve2 (L := L) hI1
  have t2 := H_status (L := L) hI2
  have F2 := f1'.trans f2'
  have hC2 := hCf G2 F2
  have hS2 : SCR E G2 b := (SCR_x hS (XT.rf E) (F2 b (Or.inl hb))).1
  have ce2 : ∀ k, cel E G2 b k = cel E G b k := (SCR_x hS (XT.rf E) (F2 b (Or.inl hb))).2
  obtain ⟨E3, G3, L3, r3, s, w, ⟨x3, fr3, ⟨hSt, hTx⟩, ⟨s1, s2⟩, s3, s4⟩, e3⟩ := sieves_ok (L := L) hC2 hS2
  have hI3 : HI E3 r3 G3 X 0 σ a kk nn τ cl ln lv 2 0 tb f1 f2 := HI_x hI2 x3 fun x hx => ⟨(fr3 x (by omega)).1, (fr3 x (by omega)).2.2⟩
  have hul := scrT_l E G2 b
  obtain ⟨σ', ln', lv', hR, y0, y1, y2⟩ := rd_all (x0 := cel E G2 b 1) (x1 := cel E G2 b 2) (x2 := cel E G2 b 3) (y := cel E G2 b 4) (two := pt (cel E G2 b 0) 2 = 1) (u := scrT E G2 b) (by omega) rfl
  obtain ⟨cs, hcs⟩ : ∃ cs : Nat, cs = if pt (cel E G2 b 0) 2 = 1 then 3 else 2 := ⟨_, rfl⟩
  rw [← hcs] at hR
  have hcb : cs = 2 ∨ (cs = 3 ∧ pt (cel E G2 b 0) 2 = 1) := by
    by_cases z : pt (cel E G2 b 0) 2 = 1
    · rw [if_pos z] at hcs
      exact Or.inr ⟨hcs, z⟩
    · rw [if_neg z] at hcs
      exact Or.inl hcs
  obtain ⟨E4, G4, L4, r4, hI4, x4, fr4, e4⟩ := load_ok (L := L3) hI3 hSt hTx ⟨by omega, by omega⟩ s3 s4 hul hR
  obtain ⟨G5, f5, hI5, e5⟩ := H_many (L := L4) (y := 2) hI4 (by decide)
  have em : (if (2 : Int) = 0 then (cs : Int) else if (2 : Int) = 1 then ((0 : Nat) : Int) else ((1 : Nat) : Int)) = 1 := by
    rw [if_neg (by decide), if_neg (by decide)]
    rfl
  rw [em] at e5
  have hW5 : WK E4 r4 G5 X cs σ' 0 := ⟨_, _, _, _, _, _, _, _, _, _, hI5⟩
  have gb5 : G5 b = G b := (f5 b (Or.inl hb)).trans ((fr4 b (by omega) (Or.inl hb)).1.trans ((fr3 b (by omega)).1.trans (F2 b (Or.inl hb))))
  have hS5 := SCR_x hS (x3.trans x4) gb5
  have c2e : ∀ k, cel E4 G5 b k = cel E G2 b k := fun k => (hS5.2 k).trans (ce2 k).symm
  obtain ⟨E6, G6, L6, r6, σ6, st6, k16, k26, m4, m5, m6, m7, m8, hW6, ⟨gg1, gg2⟩, e6⟩ := law_all (n := cs) (by omega) hb (fun t => cel E4 G5 b (1 + t)) cs 0 E4 G5 L4 r4 σ' 0 (k1 + 60 + 10) (k2 + 33000 + 50) jk jk jk jk jk (by omega) hW5 hS5.1 (fun t ht => rfl) (fun t t1 t2 => by
    have hd : t = 0 ∨ t = 1 ∨ t = 2 := by omega
    rcases hd with z | z | z
    · subst z
      rw [y0, c2e]
      exact ⟨⟨nsT_LD.1, nsT_LD.2.2⟩, nsT_LD.2.1⟩
    · subst z
      rw [y1, c2e]
      exact ⟨⟨nsT_LD.1, nsT_LD.2.2⟩, nsT_LD.2.1⟩
    · subst z
      rw [y2 (by omega), c2e]
      exact ⟨⟨nsT_LD.1, nsT_LD.2.2⟩, nsT_LD.2.1⟩) (by omega) (by omega)
  obtain ⟨G7, e7⟩ := law_tail (L := L6) (b := b) (k1 := k16) (k2 := k26) (l3 := .int (zi (cs : Int))) (l4 := m4) (l5 := m5) (l6 := m6) (l7 := m7) (l8 := m8) hW6 (by omega) gg1 gg2
  have hk4 := HI_h hI4
  rw [fL_law_8, fL_law_9, fL_law_10 g1a g2a hk, e1]
  rw [show (((0 : Nat) : Int)) = 0 from rfl, fL_law_13 (by decide), if_pos rfl, fL_law_16, fL_law_17, fL_law_18, fL_law_19 g1a g2a hk, e2, fL_law_22, fL_law_23 (by decide) (by decide), if_pos rfl, fL_law_26, fL_law_27 g1a g2a hk, t2, fL_law_30, fL_law_31 (by decide) (by decide), if_pos rfl]
  rw [fL_law_36, fL_law_37, fL_law_38 (by omega) (by omega), e3, fL_law_41 (by omega) (by omega), e4, fL_law_44 (c2_ref _), fL_law_45, fL_law_46, fL_law_47 (by omega) (by decide), if_neg (by omega), fL_law_50, fL_law_51, fL_law_52 (by omega) (by omega) hk4, e5, fL_law_55, fL_law_56 (by decide) (by decide), if_pos rfl, fL_law_61, fL_law_62 (c2_int _)]
  rw [show (0 : Int) = ((0 : Nat) : Int) from rfl, e6, e7]
  exact congrArg Value.int (by decide)
theorem law_enter (hS : SCR E G b) (hC : LWC E r G) (hq : kRef E r E.1) (hst : kStr E G E.1) : RK ML_law 0 [.ref b, jk, jk, jk, jk, jk, jk, jk, jk] [] (0, 0) (E, zg G, zk L, r) (fun _ v => v = .int 1) := by
  obtain ⟨X, hX⟩ : ∃ X, X = E.1 := ⟨_, rfl⟩
  have hbX : b < X := by
    rw [hX]
    exact hS.1.2.1
  have kd_h : kd (E.1 + 1, u1 E.2.1 E.1 (15, 6), E.2.2) E.1 = 15 := congrArg Prod.fst (v1_s _ _ _)
  obtain ⟨E2, G2, L2, r2, a1, a2, a3, a4, a5, a6, a7, a8, a9, a10⟩ := i9_init (E := (E.1 + 1, u1 E.2.1 E.1 (15, 6), E.2.2)) (G := u1 G E.1 (fun _ => 0)) (L := u1 L E.1 (fun _ => 0)) (r := u1 r E.1 (fun _ => none)) (X := E.1) kd_h rfl (v1_s _ _ _) (fun i hi => by
    obtain ⟨q1, q2⟩ := hq i hi
    refine ⟨q1, ?_⟩
    show u1 r E.1 (fun _ => none) (E.2.2 i) 0 = _
    rw [v1_a _ _ _ (by omega)]
    exact q2)
  rw [← hX] at a1 a3 a4 a5 a6 a7 a8 a9 a10 kd_h
  have a2' : E2.2.2 = E.2.2 := a2
  have o3 : ∀ x, x < X → E2.2.1 x = E.2.1 x ∧ G2 x = G x ∧ r2 x = r x := fun x hx => by
    obtain ⟨q1, q2, q3, q4⟩ := a3 x hx
    exact ⟨q1.trans (v1_a _ _ _ (by omega)), q2.trans (v1_a _ _ _ (by omega)), q4.trans (v1_a _ _ _ (by omega))⟩
  have xt : XT E E2 := ⟨by omega, a2', fun x hx => (o3 x (by omega)).1⟩
  have hx : HXS E2 r2 G2 X (fun t => t) (fun t => t) 0 (fun _ _ => 0) 0 (fun _ => 0) (fun _ => 0) (fun _ _ => 0) := by
    refine ⟨a4, ⟨a5, ⟨fun t ht => a6.1 t ht, a6.2⟩, ⟨fun t ht => a7.1 t ht, a7.2⟩, ⟨?_, by omega⟩, fun t ht => rgS_z (S := X + 37 + 6 + 6 * t) fun x h1 h2 => a8 x (by omega) (by omega) (by omega), fun t ht => absurd ht (by omega), ⟨?_, by omega⟩, fun t ht => rgS_z (S := X + 37 + 36 + 6 * t) fun x h1 h2 => a8 x (by omega) (by omega) (by omega), fun t ht => absurd ht (by omega)⟩, rgS_z fun x h1 h2 => a8 x (by omega) (by omega) (by omega)⟩
    · rw [a8 _ (by omega) (by omega) (by omega)]
      rfl
    · rw [a8 _ (by omega) (by omega) (by omega)]
      rfl
  have hr : HXR E2 G2 X 0 (fun _ => 0) (fun _ _ => 0) := by
    refine ⟨⟨⟨?_, by omega⟩, fun t ht => rgL_z (a8 _ (by omega) (by omega) (by omega)) (a8 _ (by omega) (by omega) (by omega)), fun t ht => absurd ht (by omega)⟩, fun i hi' => ?_, fun i => ?_, ?_, fun t ht => rgS_z fun x h1 h2 => a8 x (by omega) (by omega) (by omega), fun t ht => rgL_z (a8 _ (by omega) (by omega) (by omega)) (a8 _ (by omega) (by omega) (by omega))⟩
    · rw [a8 _ (by omega) (by omega) (by omega)]
      rfl
    · obtain ⟨⟨⟨t1, t2⟩, t3, t4, t5, t6⟩, t7, t8⟩ := hst i hi'
      rw [← hX] at t7 t8
      rw [a2']
      have k1 := xt.kd (x := E.2.2 i) (by omega)
      have k2 := xt.kd (x := E.2.2 (3000 + i)) (by omega)
      refine ⟨⟨⟨k1.1.trans t1, by rw [(o3 _ t7).2.1]; exact t2⟩, k2.1.trans t3, k2.2.trans t4, t5, fun j hj => by rw [(o3 _ t8).2.1]; exact t6 j hj⟩, by omega, by omega⟩
    · rw [a8 _ (by omega) (by omega) (by omega)]
      simp
    · rw [a9]
      simp
  have hI : HI E2 r2 G2 X 0 (fun _ _ => 0) 0 (fun _ => 0) (fun _ => 0) (fun _ _ => 0) 0 (fun _ => 0) (fun _ _ => 0) 0 0 (fun _ => 0) (-1) (-1) := by
    refine ⟨⟨⟨_, _, hx⟩, hr⟩, by omega, ?_, ?_, fun j hj => absurd hj (by omega), ?_, ?_⟩
    · rw [a8 _ (by omega) (by omega) (by omega)]
    · rw [a9]
      rfl
    · rw [a9]
      rfl
    · rw [a9]
      rfl
  have hS2 := (SCR_x hS xt (o3 b hbX).2.1).1
  have hC2 : LWC E2 r2 G2 := LWC_x hC xt fun x hx => ⟨(o3 x (by omega)).2.1, (o3 x (by omega)).2.2⟩
  have fin := law_house (L := L2) (b := b) (k1 := 0 + 1 + 129) (k2 := 0 + 6 + 46825) hI rfl hS2 hbX hC2 (fun G' hf => LWC_x hC xt fun x hx => ⟨(hf x (Or.inl (by omega))).trans (o3 x (by omega)).2.1, (o3 x (by omega)).2.2⟩) (by decide) (by decide)
  rw [fL_law_0 (by decide) (by decide), fL_law_3 (c2_ref _), ← hX, fL_law_4 (by decide) (by decide) kd_h]
  rw [hX] at a10 fin ⊢
  rw [a10, fL_law_7 (c2_ref _)]
  exact fin
end BS
