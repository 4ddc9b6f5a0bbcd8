/-! The law's start: house and reference made, all stands. -/
theorem str_ok : ∀ i ∈ stT, stT.idxOf i < 12 ∧ slen.getD (stT.idxOf i) 0 = (wdL i).length ∧ (wdL i).length ≤ 8 ∧ ∀ j < (wdL i).length, ((stL.getD (stT.idxOf i) []).getD j 0).toInt = (wdL i).getD j 0 ∧ 0 ≤ (wdL i).getD j 0 ∧ (wdL i).getD j 0 ≤ 65535 := by decide
section LS
variable {E E' : AE} {G G' L L' : Nat → Nat → Int} {r r' : Nat → Nat → Option Nat} {Q : AH → Value → Prop} {X m S : Nat}
theorem rgS_z (h : ∀ x, S ≤ x → x ≤ S + 5 → G x = fun _ => 0) : rgS G S := by
  unfold rgS
  rw [h S (by omega) (by omega), h (S + 1) (by omega) (by omega), h (S + 2) (by omega) (by omega), h (S + 3) (by omega) (by omega), h (S + 4) (by omega) (by omega), h (S + 5) (by omega) (by omega)]
  simp
theorem rgL_z (h0 : G S = fun _ => 0) (h1 : G (S + 1) = fun _ => 0) : rgL G S := by
  unfold rgL
  rw [h0, h1]
  simp
theorem shX_m (h : shX E r X) (h1 : ∀ x, X ≤ x → x < X + 130 → E'.2.1 x = E.2.1 x ∧ r' x = r x) : shX E' r' X := by
  obtain ⟨k0, hr, hD, hP, hS, hT⟩ := h
  have K : ∀ {x k : Nat}, X ≤ x → x < X + 130 → kd E x = k → kd E' x = k := fun {x k} a b h => by
    show (E'.2.1 x).1 = k
    rw [(h1 x a b).1]
    exact h
  refine ⟨K (by omega) (by omega) k0, ?_, shD_m hD (fun x a b => h1 x (by omega) (by omega)), shP_m hP (fun x a b => h1 x (by omega) (by omega)), shS_m hS (fun x a b => (h1 x (by omega) (by omega)).1) (h1 _ (by omega) (by omega)).2, K (by omega) (by omega) hT.1, ?_⟩
  · rw [(h1 X (by omega) (by omega)).2]
    exact hr
  · show (E'.2.1 (X + 129)).2 = 1200
    rw [(h1 _ (by omega) (by omega)).1]
    exact hT.2
theorem law_first {sz b Ln : Nat} {xs : Nat → Int32} {aK : Nat → Nat} (hb : b < sz) (hL : Ln ≤ 3072) (hK : ∀ i, i < 12 → aK i < sz ∧ aK i ≠ b) (hi : ∀ i j : Nat, i < 12 → j < 12 → aK i = aK j → i = j) : RK ML_law 0 [.ref b, jk, jk, jk] [] (0, 0) (s0 sz b Ln xs aK) (fun _ v => v = .int 1) := by
  obtain ⟨G0, hG0⟩ : ∃ G0 : Nat → Nat → Int, G0 = fun a j => (s0_i b xs aK a j).toInt := ⟨_, rfl⟩
  obtain ⟨L0, hL0⟩ : ∃ L0 : Nat → Nat → Int, L0 = fun _ _ => 0 := ⟨_, rfl⟩
  obtain ⟨r0, hr0⟩ : ∃ r0 : Nat → Nat → Option Nat, r0 = fun _ _ => none := ⟨_, rfl⟩
  obtain ⟨e3, he3⟩ : ∃ e3 : Nat → Nat, e3 = fun q => aK (stT.idxOf q) := ⟨_, rfl⟩
  have es : s0 sz b Ln xs aK = ((sz, s0_k b Ln aK, e3), zg G0, zk L0, r0) := by
    have e1 : zg G0 = s0_i b xs aK := by
      funext a j
      rw [hG0]
      exact zi_of _
    have e2 : zk L0 = fun _ _ => 0 := by
      funext a j
      rw [hL0]
      rfl
    rw [e1, e2, hr0, he3]
    rfl
  obtain ⟨E2, G2, L2, r2, a1, a2, a3, a4, a5, a6, a7, a8, a9, a10⟩ := i9_init (E := (sz + 1, u1 (s0_k b Ln aK) sz (15, 6), e3)) (G := u1 G0 sz (fun _ => 0)) (L := u1 L0 sz (fun _ => 0)) (r := u1 r0 sz (fun _ => none)) (X := sz) kd_h rfl (v1_s _ _ _)
  obtain ⟨m, hm⟩ : ∃ m, m = sz + 130 := ⟨_, rfl⟩
  rw [← hm] at a1
  have e10 := i10_init (E := (m + 1, u1 E2.2.1 m (16, 34), E2.2.2)) (G := u1 G2 m (fun _ => 0)) (L := u1 L2 m (fun _ => 0)) (r := u1 r2 m (fun _ => none)) (m := m) kd_h rfl
  obtain ⟨E4, hE4⟩ : ∃ E4 : AE, E4 = (m + 14, mkE (u1 E2.2.1 m (16, 34)) m, E2.2.2) := ⟨_, rfl⟩
  obtain ⟨G4, hG4⟩ : ∃ g, g = mkG (u1 G2 m (fun _ => 0)) m := ⟨_, rfl⟩
  obtain ⟨L4, hL4⟩ : ∃ g, g = mkL (u1 L2 m (fun _ => 0)) m := ⟨_, rfl⟩
  obtain ⟨r4, hr4⟩ : ∃ g, g = mkR (u1 r2 m (fun _ => none)) m := ⟨_, rfl⟩
  have e10' : ∀ Q, RK MX10_init 0 [.ref m] [] (0, 0) ((m + 1, u1 E2.2.1 m (16, 34), E2.2.2), zg (u1 G2 m (fun _ => 0)), zk (u1 L2 m (fun _ => 0)), u1 r2 m (fun _ => none)) Q = Q (E4, zg G4, zk L4, r4) .null := fun Q => by
    rw [e10 Q, hE4, hG4, hL4, hr4]
  have c1 : ∀ x, x < m → E4.2.1 x = E2.2.1 x := fun x hx => by
    rw [hE4]
    show mkE _ m x = _
    rw [mkE_lt (by omega), v1_a _ _ _ (by omega)]
  have c2' : ∀ x, x < m → G4 x = G2 x := fun x hx => by rw [hG4, mkG_lt hx, v1_a _ _ _ (by omega)]
  have c4 : ∀ x, x < m → r4 x = r2 x := fun x hx => by rw [hr4, mkR_lt hx, v1_a _ _ _ (by omega)]
  have sz0 : ∀ x, x < sz → E4.2.1 x = s0_k b Ln aK x ∧ G4 x = G0 x := fun x hx => by
    obtain ⟨q1, q2, -⟩ := a3 x hx
    exact ⟨(c1 x (by omega)).trans (q1.trans (v1_a _ _ _ (by omega))), (c2' x (by omega)).trans (q2.trans (v1_a _ _ _ (by omega)))⟩
  have z4 : ∀ x, sz ≤ x → x < sz + 130 → x ≠ sz + 1 → G4 x = fun _ => 0 := fun x h1 h2 h3 => (c2' x (by omega)).trans (a8 x h1 h2 h3)
  have d4 : G4 (sz + 1) = fun j => if j = 4 then -1 else if j = 3 then -1 else 0 := (c2' _ (by omega)).trans a9
  have m4 : ∀ j, G4 m j = if j = 20 then -1 else if j = 19 then -1 else 0 := fun j => by
    rw [hG4]
    exact mkG_m (v1_s _ _ _) j
  have n4 : ∀ x, m < x → x ≤ m + 13 → G4 x = fun _ => 0 := fun x h1 h2 => by rw [hG4]; exact mkG_z h1 h2
  have e32 : E2.2.2 = e3 := a2
  have hX4 : shX E4 r4 sz := shX_m a4 fun x h1 h2 => ⟨c1 x (by omega), c4 x (by omega)⟩
  have hx : HXS E4 r4 G4 sz (fun t => t) (fun t => t) 0 (fun _ _ => 0) 0 (fun _ => 0) (fun _ => 0) (fun _ _ => 0) := by
    refine ⟨hX4, ⟨shH_m a5 fun x h1 h2 => ⟨c1 x (by omega), c4 x (by omega)⟩, ⟨fun t ht => ?_, a6.2⟩, ⟨fun t ht => ?_, a7.2⟩, ⟨?_, by omega⟩, fun t ht => rgS_z (S := sz + 37 + 6 + 6 * t) fun x h1 h2 => z4 x (by omega) (by omega) (by omega), fun t ht => absurd ht (by omega), ⟨?_, by omega⟩, fun t ht => rgS_z (S := sz + 37 + 36 + 6 * t) fun x h1 h2 => z4 x (by omega) (by omega) (by omega), fun t ht => absurd ht (by omega)⟩, rgS_z fun x h1 h2 => z4 x (by omega) (by omega) (by omega)⟩
    · rw [c4 _ (by omega)]
      exact a6.1 t ht
    · rw [c4 _ (by omega)]
      exact a7.1 t ht
    · rw [z4 _ (by omega) (by omega) (by omega)]
      rfl
    · rw [z4 _ (by omega) (by omega) (by omega)]
      rfl
  have hr : HXR E4 G4 sz 0 (fun _ => 0) (fun _ _ => 0) := by
    refine ⟨⟨⟨?_, by omega⟩, fun t ht => rgL_z (z4 _ (by omega) (by omega) (by omega)) (z4 _ (by omega) (by omega) (by omega)), fun t ht => absurd ht (by omega)⟩, fun i hi' => ?_, fun i => ?_, ?_, fun t ht => rgS_z fun x h1 h2 => z4 x (by omega) (by omega) (by omega), fun t ht => rgL_z (z4 _ (by omega) (by omega) (by omega)) (z4 _ (by omega) (by omega) (by omega))⟩
    · rw [z4 _ (by omega) (by omega) (by omega)]
      rfl
    · obtain ⟨t1, t2, t3, t4⟩ := str_ok i hi'
      obtain ⟨k1, k2⟩ := hK _ t1
      have ea : E4.2.2 i = aK (stT.idxOf i) := by
        rw [hE4]
        show E2.2.2 i = _
        rw [e32, he3]
      obtain ⟨q1, q2⟩ := sz0 _ k1
      have ek : s0_k b Ln aK (aK (stT.idxOf i)) = (20, slen.getD (stT.idxOf i) 0) := by
        unfold s0_k
        rw [if_neg k2, s0_find hi t1]
      rw [ea]
      refine ⟨⟨?_, ?_, t3, fun j hj => ?_⟩, by omega⟩
      · show (E4.2.1 _).1 = 20
        rw [q1, ek]
      · show (E4.2.1 _).2 = _
        rw [q1, ek]
        exact t2
      · have eg : G4 (aK (stT.idxOf i)) j = (wdL i).getD j 0 := by
          rw [q2, hG0]
          show (s0_i b xs aK (aK (stT.idxOf i)) j).toInt = _
          unfold s0_i
          rw [if_neg k2, s0_find hi t1]
          exact (t4 j hj).1
        rw [eg]
        exact ⟨rfl, (t4 j hj).2⟩
    · rw [z4 _ (by omega) (by omega) (by omega)]
      simp
    · rw [d4]
      simp
  have hm4 : shM E4 r4 m := by
    rw [hE4, hr4]
    exact mk_shM (kd_h (n := 0) (z := e3))
  have hC : CI E4 r4 G4 sz 0 (fun _ _ => 0) 0 (fun _ => 0) (fun _ => 0) (fun _ _ => 0) 0 (fun _ => 0) (fun _ _ => 0) [] 0 0 (fun _ => 0) (-1) (-1) := by
    refine ⟨⟨_, _, hx⟩, hr, ⟨?_, by decide, fun j hj => absurd hj (by simp)⟩, ?_, ?_, fun j hj => absurd hj (by omega), ?_, ?_⟩
    · rw [z4 _ (by omega) (by omega) (by omega)]
      rfl
    · rw [z4 _ (by omega) (by omega) (by omega)]
    · rw [d4]
      rfl
    · rw [d4]
      rfl
    · rw [d4]
      rfl
  have hR : RI E4 r4 G4 L4 m 0 (fun _ _ => 0) 0 (fun _ => 0) (fun _ _ _ => 0) 0 (fun _ => 0) (fun _ _ => 0) [] 0 0 (fun _ => 0) (-1) (-1) := by
    refine ⟨⟨hm4, ⟨?_, by omega⟩, fun s hs => absurd hs (by omega)⟩, ⟨⟨?_, by omega⟩, fun c hc => absurd hc (by omega)⟩, ⟨⟨?_, by omega⟩, fun t ht => absurd ht (by omega)⟩, ⟨?_, by decide, fun j hj => absurd hj (by simp)⟩, ⟨?_, ?_, fun j hj => absurd hj (by omega), ?_, ?_⟩, ?_, ?_, ?_⟩
    · rw [m4]
      rfl
    · rw [m4]
      rfl
    · rw [m4]
      rfl
    · rw [m4]
      rfl
    · rw [m4]
      rfl
    · rw [m4]
      rfl
    · rw [m4]
      rfl
    · rw [m4]
      rfl
    · rw [m4]
      decide
    · rw [hL4, mkL_lt (Nat.le_refl _), v1_s]
      decide
    · rw [hL4]
      exact mkL_kWd
  have hI : IV E4 r4 G4 L4 sz m := ⟨0, fun _ _ => 0, 0, fun _ => 0, fun _ => 0, fun _ _ => 0, 0, fun _ => 0, fun _ _ => 0, [], 0, 0, fun _ => 0, -1, -1, fun _ => 0, fun _ _ _ => 0, hC, hR, rfl, rfl, fun c hc => absurd hc (by omega), fun j hj => absurd hj (by simp)⟩
  have kb : E4.2.1 b = (7, Ln) := by
    rw [(sz0 b hb).1]
    unfold s0_k
    exact if_pos rfl
  have lb : le E4 b = Ln := by
    show (E4.2.1 b).2 = _
    rw [kb]
  have kX : kd E4 sz = 15 := hX4.1
  have hGb : ∀ j, I32 (G4 b j) := fun j => by
    rw [(sz0 b hb).2, hG0]
    exact zi_rng _
  have fin := law_loop (E := E4) (X := sz) (m := m) (b := b) (k1 := 0 + 1 + 129 + 1 + 13) (k2 := 0 + 6 + 46825 + 34 + 81277) (by omega) (by decide) (by decide) kX hm4.1 (Or.inr (show (E4.2.1 b).1 = 7 by rw [kb])) hb (by rw [lb]; omega) 4000 0 G4 L4 r4 (by decide) (by decide) (by rw [lb]; omega) hI hGb
  rw [es, fL_law_0 (by decide) (by decide), fL_law_3 (c2_ref _), fL_law_4 (by decide) (by decide) kd_h]
  rw [a10, fL_law_7 (c2_ref _), fL_law_8 (by decide) (by decide), fL_law_11 (c2_ref _), fL_law_12 (by decide) (by decide) kd_h]
  rw [a1, e10', fL_law_15 (c2_ref _), fL_law_16, fL_law_17 (c2_ref _)]
  exact fin
end LS
