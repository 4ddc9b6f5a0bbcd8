/-! The law's isRound: the round itself, what it tells. -/
theorem chS_at (σ : Nat → Nat → Int) (s : Int) (τ : Nat → Int) : chS σ s τ s.toNat = τ := if_pos rfl
theorem chS_id (σ : Nat → Nat → Int) (s : Int) : chS σ s (σ s.toNat) = σ := by
  funext t
  unfold chS
  by_cases q : t = s.toNat
  · rw [if_pos q, q]
  · rw [if_neg q]
section BS
variable {E E' : AE} {G G' L L' : Nat → Nat → Int} {r r' : Nat → Nat → Option Nat} {h : AH} {Q : AH → Value → Prop} {X n a b b1 b2 b3 cl m k1 k2 : Nat} {σ σ' τ : Nat → Nat → Int} {st st' s x y w k g p c v gp kind rr : Int} {f g' : Nat → Int} {K : Int → Bool} {l0 l1 l2 l3 l4 l5 l6 l7 l8 l9 l10 l11 : Value}
theorem ir_cmp {q : Nat} (kb2 : kd E b2 = 1 ∧ q ≤ le E b2 ∧ le E b2 ≤ 1000) (kb3 : kd E b3 = 1 ∧ q ≤ le E b3 ∧ le E b3 ≤ 1000) (he : ∀ j, j < q → G b3 j = G b2 j ∧ I32 (G b2 j)) : ∀ (d j : Nat), j + d = q → ∀ Q, RK ML_isRound 336 [l0, l1, l2, l3, l4, l5, l6, .ref b2, .int (zi (q : Int)), l9, l10, l11, .ref b3, .int (zi (j : Int))] [] (k1, k2) (E, zg G, zk L, r) Q = RK ML_isRound 364 [l0, l1, l2, l3, l4, l5, l6, .ref b2, .int (zi (q : Int)), l9, l10, l11, .ref b3, .int (zi (q : Int))] [] (k1, k2) (E, zg G, zk L, r) Q := by
  intro d
  induction d with
  | zero =>
    intro j hd Q
    have e : j = q := by omega
    subst e
    rw [fL_isRound_336, fL_isRound_338, fL_isRound_340 (by omega) (by omega), if_neg (by omega)]
  | succ d ih =>
    intro j hd Q
    obtain ⟨e1, e2⟩ := he j (by omega)
    have e3 := ih (j + 1) (by omega) Q
    rw [fL_isRound_336, fL_isRound_338, fL_isRound_340 (by omega) (by omega), if_pos (by omega), fL_isRound_343, fL_isRound_345, fL_isRound_347 kb3.1 (by omega) (by omega), fL_isRound_348, fL_isRound_350, fL_isRound_352 kb2.1 (by omega) (by omega), Int.toNat_natCast, e1, fL_isRound_353 e2 e2, if_pos rfl, fL_isRound_358 (c2_ref _), fL_isRound_361]
    exact e3
theorem isRound_b1 (hW : WK E r G X n σ st) (hs : 0 ≤ s ∧ s < n) (hg : ngS (σ s.toNat) = -1) (g1 : k1 ≤ 3) (g2 : k2 ≤ 1800) : ∃ G', FX X G G' ∧ WK E r G' X n σ 5 ∧ ∀ Q, RK ML_isRound 140 [.ref X, .int (zi s), l2, l3, l4, l5, l6, l7, l8, l9, .int (zi 1), jk, jk, jk] [] (k1, k2) (E, zg G, zk L, r) Q = Q (E, zg G', zk L, r) (.int (zi 1)) := by
  have hk := (WK_k hW).1
  obtain ⟨G1, f1, hW1, e1⟩ := W_sieve (L := L) (w := 6) hW hs (by decide)
  have p6 : prpZ (σ s.toNat) 6 = 1 := bI_p hg
  rw [p6] at e1
  obtain ⟨G2, f2, hW2, e2⟩ := W_round5 (L := L) hW1 hs hg
  have s2 := W_status (L := L) hW2
  obtain ⟨G3, f3, hW3, e3⟩ := W_all5 (L := L) hW2 hs hg
  have s3 := W_status (L := L) hW3
  refine ⟨G3, f1.trans (f2.trans f3), hW3, fun Q => ?_⟩
  rw [fL_isRound_140, fL_isRound_141, fL_isRound_142, fL_isRound_144 g1 g2 hk, e1, fL_isRound_147, fL_isRound_149 (by decide), if_neg (by decide), fL_isRound_152, fL_isRound_153, fL_isRound_157 (by decide) (by decide), if_pos rfl, fL_isRound_162, fL_isRound_163, fL_isRound_164 g1 g2 hk, e2, fL_isRound_167 (c2_int _), fL_isRound_169, fL_isRound_171 (by decide), if_neg (by decide)]
  rw [fL_isRound_174, fL_isRound_176, fL_isRound_177 (by decide) (by decide), if_pos rfl, fL_isRound_180, fL_isRound_181 g1 g2 hk, s2, fL_isRound_184, fL_isRound_185 (by decide) (by decide), if_pos rfl, fL_isRound_188, fL_isRound_189, fL_isRound_190 g1 g2 hk, e3, fL_isRound_193, fL_isRound_194 (by decide) (by decide), if_pos rfl, fL_isRound_197, fL_isRound_198 g1 g2 hk, s3, fL_isRound_201, fL_isRound_202 (by decide) (by decide), if_pos rfl, fL_isRound_205, fL_isRound_206, fL_isRound_210 (Or.inr rfl)]
theorem isRound_b2 (hW : WK E r G X n σ st) (hs : 0 ≤ s ∧ s < n) (hA : IRA E G X b1 b2 m (σ s.toNat) gp) (hg : ngS (σ s.toNat) ≠ -1) (g1 : k1 ≤ 2) (g2 : k2 ≤ 1200) : ∃ E' G' L' r' st', WK E' r' G' X n (chS σ s (sw1 (σ s.toNat))) st' ∧ XT E E' ∧ (∀ x, x < E.1 → (x < X ∨ X + 130 ≤ x) → G' x = G x ∧ r' x = r x) ∧ ∀ Q, RK ML_isRound 140 [.ref X, .int (zi s), .int (zi v), .ref b1, .int (zi (σ s.toNat 0)), .int (zi (σ s.toNat 4 + 1)), .int (zi gp), .ref b2, .int (zi (ctN (kpB (σ s.toNat) gp) m)), .int (zi (frF (kpB (σ s.toNat) gp) (fun j => nAS (σ s.toNat) ((j : Int) + 1)) m)), .int (zi 0), jk, jk, jk] [] (k1, k2) (E, zg G, zk L, r) Q = Q (E', zg G', zk L', r') (.int (zi 1)) := by
  obtain ⟨hk, hX, hn4, hWF⟩ := WK_k hW
  have wf := hWF s.toNat (by omega)
  have wt : WF (sw1 (σ s.toNat)) := swS_WF wf hg
  have sb := szS_b wf
  have tb := szS_b wt
  have h5 := WF_5 wf
  have h4 := wf.2.2.2.2.1.1
  have gn := ngS_ok wf hg
  obtain ⟨⟨h1, hm, hb1⟩, ⟨kb2, lb2, hb2, bb2⟩, hl, hgl⟩ := hA
  have egp : gp = ngS (σ s.toNat) := by
    have := ng_gl hg
    have g0 := gn.1.1
    omega
  subst egp
  obtain ⟨t0, t1, t2, t3, t4, t5⟩ := sw_lo wf
  obtain ⟨o0, o1, o2, o3⟩ := sw_or wf
  have hsz := kp_sz (m := m) wf hg hm
  have hfi := kp_first (m := m) (f := fun j => nAS (σ s.toNat) ((j : Int) + 1)) wf hg hm fun j hj => rfl
  have fb := frF_b (kpB (σ s.toNat) (ngS (σ s.toNat))) (fun j => nAS (σ s.toNat) ((j : Int) + 1)) m fun j hj => (h1.2.2 j hj).2
  rw [hfi] at o2
  obtain ⟨fi, hfi2⟩ : ∃ fi, fi = frF (kpB (σ s.toNat) (ngS (σ s.toNat))) (fun j => nAS (σ s.toNat) ((j : Int) + 1)) m := ⟨_, rfl⟩
  rw [← hfi2] at o2 fb
  rw [← hsz, ← hfi2]
  obtain ⟨G1, f1, hW1, e1⟩ := W_sieve (L := L) (w := 6) hW hs (by decide)
  have p6 : prpZ (σ s.toNat) 6 = 0 := bI_n hg
  rw [p6] at e1
  obtain ⟨G2, r2, ⟨f2, fr2⟩, hW2, e2⟩ := W_round (L := L) hW1 hs hg
  have eT := chS_at σ s (sw1 (σ s.toNat))
  obtain ⟨G3, f3, hW3, e3⟩ := W_sieve (L := L) (w := 5) hW2 hs (by decide)
  have p5 : prpZ (sw1 (σ s.toNat)) 5 = σ s.toNat 4 + 1 := t4
  rw [eT, p5] at e3
  obtain ⟨G4, f4, hW4, e4⟩ := W_told (L := L) (y := σ s.toNat 4 + 1) (w := 0) hW3 hs (by omega) (by decide)
  rw [eT, o0] at e4
  obtain ⟨G5, f5, hW5, e5⟩ := W_told (L := L) (y := σ s.toNat 4 + 1) (w := 1) hW4 hs (by omega) (by decide)
  rw [eT, o1] at e5
  obtain ⟨G6, f6, hW6, e6⟩ := W_told (L := L) (y := σ s.toNat 4 + 1) (w := 3) hW5 hs (by omega) (by decide)
  rw [eT, o3] at e6
  obtain ⟨G7, f7, hW7, e7⟩ := W_told (L := L) (y := σ s.toNat 4 + 1) (w := 2) hW6 hs (by omega) (by decide)
  rw [eT, o2] at e7 hW7
  obtain ⟨E8, G8, L8, r8, st8, hW8, ⟨xt8, n8⟩, fr8, ⟨⟨kb, bl⟩, ⟨lb, lb6⟩, hb⟩, e8⟩ := row_ok (L := L) hW7 hs
  rw [eT] at lb hb
  obtain ⟨b3, hb3⟩ : ∃ b3, b3 = E.1 := ⟨_, rfl⟩
  rw [← hb3] at kb bl lb lb6 hb e8 n8
  obtain ⟨q, hq⟩ : ∃ q, q = le E8 b3 := ⟨_, rfl⟩
  rw [← hq] at lb lb6 hb
  have F7 := f1.trans (f2.trans (f3.trans (f4.trans (f5.trans (f6.trans f7)))))
  have g8 : ∀ x, x < E.1 → X + 130 ≤ x → G8 x = G x := fun x hx hc => (fr8 x hx (Or.inr hc)).1.trans (F7 x (Or.inr hc))
  have k81 := xt8.kd (x := b1) hb1
  have k82 := xt8.kd (x := b2) bb2
  have hR1 : RWF E8 G8 X b1 m (fun j => nAS (σ s.toNat) ((j : Int) + 1)) := ⟨⟨k81.1.trans h1.1.1, k81.2.trans h1.1.2.1, h1.1.2.2⟩, h1.2.1, fun j hj => by
    rw [g8 b1 hb1 h1.1.2.2]
    exact h1.2.2 j hj⟩
  have n0 : ∀ j : Nat, j < q → 0 ≤ nAS (sw1 (σ s.toNat)) ((j : Int) + 1) ∧ nAS (sw1 (σ s.toNat)) ((j : Int) + 1) ≤ 1000000 := fun j hj => by
    have := nAS_0 wt (p := (j : Int) + 1) (by omega)
    omega
  have hR3 : RWF E8 G8 X b3 q (fun j => nAS (sw1 (σ s.toNat)) ((j : Int) + 1)) := ⟨⟨kb, hq.symm, by omega⟩, by omega, fun j hj => ⟨hb j hj, n0 j hj⟩⟩
  have hL := sw_LDS wf hg
  rw [show (szS (σ s.toNat)).toNat = m by omega, show (szS (sw1 (σ s.toNat))).toNat = q by omega, ← eT] at hL
  rw [← eT] at hR3
  have hk8 := (WK_k hW8).1
  obtain ⟨G9, f9, hW9, e9⟩ := leads_ok (L := L8) (rr := σ s.toNat 4 + 1) hW8 hs (by omega) hR1 hR3 hL
  have hcm : ∀ j, j < q → G8 b3 j = G8 b2 j ∧ I32 (G8 b2 j) := fun j hj => by
    have hn := n0 j hj
    have e : G8 b2 j = nAS (sw1 (σ s.toNat)) ((j : Int) + 1) := by
      obtain ⟨t, ta, tc, td⟩ := ctN_ex (kpB (σ s.toNat) (ngS (σ s.toNat))) m ((j : Int) + 1) (by omega) (by omega)
      have z := hl t ta tc
      have z2 := kp_nAS (m := m) wf hg hm ta tc
      rw [td, show ((j : Int) + 1 - 1).toNat = j by omega] at z
      rw [td, show (j : Int) + 1 - 1 + 1 = (j : Int) + 1 by omega] at z2
      rw [g8 b2 bb2 hb2, z, z2]
    rw [hb j hj, e]
    exact ⟨rfl, by omega⟩
  have ec := ir_cmp (E := E8) (G := G8) (L := L8) (r := r8) (b2 := b2) (b3 := b3) (q := q) (k1 := k1 + 1) (k2 := k2 + 600) (l0 := .ref X) (l1 := .int (zi s)) (l2 := .int (zi v)) (l3 := .ref b1) (l4 := .int (zi (σ s.toNat 0))) (l5 := .int (zi (σ s.toNat 4 + 1))) (l6 := .int (zi (ngS (σ s.toNat)))) (l9 := .int (zi fi)) (l10 := .int (zi 0)) (l11 := .int (zi (szS (σ s.toNat) - szS (sw1 (σ s.toNat))))) ⟨k82.1.trans kb2, by rw [k82.2, lb2]; have := ctN_b (kpB (σ s.toNat) (ngS (σ s.toNat))) m; omega, by rw [k82.2, lb2]; omega⟩ ⟨kb, by omega, by omega⟩ hcm q 0 (by omega)
  have k9 : (1 ≤ kd E b1 ∧ kd E b1 ≤ 9) ∧ kd E b1 ≠ 3 ∧ kd E b1 ≠ 4 := by have := h1.1.1; omega
  have k93 : (1 ≤ kd E8 b3 ∧ kd E8 b3 ≤ 9) ∧ kd E8 b3 ≠ 3 ∧ kd E8 b3 ≠ 4 := by omega
  have le1 : (le E b1 : Int) = m := by rw [h1.1.2.1]
  have eqq : szS (sw1 (σ s.toNat)) = (q : Int) := by omega
  have mid : ∀ Q, RK ML_isRound 273 [.ref X, .int (zi s), .int (zi v), .ref b1, .int (zi (σ s.toNat 0)), .int (zi (σ s.toNat 4 + 1)), .int (zi (ngS (σ s.toNat))), .ref b2, .int (zi (szS (sw1 (σ s.toNat)))), .int (zi fi), .int (zi 0), .int (zi (szS (σ s.toNat) - szS (sw1 (σ s.toNat)))), jk, jk] [] (k1, k2) (E, zg G6, zk L, r2) Q = RK ML_isRound 316 [.ref X, .int (zi s), .int (zi v), .ref b1, .int (zi (σ s.toNat 0)), .int (zi (σ s.toNat 4 + 1)), .int (zi (ngS (σ s.toNat))), .ref b2, .int (zi (szS (sw1 (σ s.toNat)))), .int (zi fi), .int (zi 0), .int (zi (szS (σ s.toNat) - szS (sw1 (σ s.toNat)))), jk, jk] [] (k1, k2) (E, zg G7, zk L, r2) Q := fun Q => by
    have g1' : k1 ≤ 3 := by omega
    have g2' : k2 ≤ 1800 := by omega
    by_cases z : fi < 0
    · have e1 : fi = -1 := by omega
      rw [e1] at e7 hW7
      rw [if_pos rfl] at hW7
      have s7 := W_status (L := L) hW7
      rw [fL_isRound_273, fL_isRound_275 (by omega), if_pos z, fL_isRound_278, fL_isRound_279, fL_isRound_280, fL_isRound_282, fL_isRound_283 g1' g2' hk, e7, fL_isRound_286, fL_isRound_287 (by decide) (by decide), if_pos rfl, fL_isRound_290, fL_isRound_291 g1' g2' hk, s7, fL_isRound_294, fL_isRound_295 (by decide) (by decide), if_pos rfl]
    · rw [fL_isRound_273, fL_isRound_275 (by omega), if_neg z, fL_isRound_301, fL_isRound_302, fL_isRound_303, fL_isRound_305, fL_isRound_306 g1' g2' hk, e7, fL_isRound_309, fL_isRound_311 (by omega) (by omega), if_pos rfl]
  refine ⟨E8, G9, L8, r8, 5, hW9, xt8, fun x hx hc => ?_, fun Q => ?_⟩
  · have q1 := fr8 x hx hc
    exact ⟨(f9 x hc).trans (q1.1.trans (F7 x hc)), q1.2.trans (fr2 x hc)⟩
  · have g1' : k1 ≤ 3 := by omega
    have g2' : k2 ≤ 1800 := by omega
    have r1 : I32 (szS (σ s.toNat) - szS (sw1 (σ s.toNat))) := by omega
    have r2' : I32 (ngS (σ s.toNat)) := by have := gn.1; omega
    rw [fL_isRound_140, fL_isRound_141, fL_isRound_142, fL_isRound_144 g1' g2' hk, e1, fL_isRound_147, fL_isRound_149 (by decide), if_pos rfl, fL_isRound_156, fL_isRound_157 (by decide) (by decide), if_pos rfl, fL_isRound_162, fL_isRound_163, fL_isRound_164 g1' g2' hk, e2, fL_isRound_167 (c2_int _), fL_isRound_169, fL_isRound_171 (by decide), if_pos rfl]
    rw [fL_isRound_211, fL_isRound_213, fL_isRound_214 k9, le1, fL_isRound_215, fL_isRound_217, fL_isRound_218 r1 (by omega), if_pos (by omega), fL_isRound_221, fL_isRound_222, fL_isRound_223, fL_isRound_224 g1' g2' hk, e3, fL_isRound_227, fL_isRound_229 (by omega) (by omega), if_pos rfl]
    rw [fL_isRound_232, fL_isRound_233, fL_isRound_234, fL_isRound_236, fL_isRound_237 g1' g2' hk, e4, fL_isRound_240, fL_isRound_242 r2' r2', if_pos rfl, fL_isRound_245, fL_isRound_246, fL_isRound_247, fL_isRound_249, fL_isRound_250 g1' g2' hk, e5, fL_isRound_253, fL_isRound_255 r1 r1, if_pos rfl]
    rw [fL_isRound_258, fL_isRound_259, fL_isRound_260, fL_isRound_262, fL_isRound_263 g1' g2' hk, e6, fL_isRound_266, fL_isRound_268 (by omega) (by omega), if_pos rfl, mid]
    rw [fL_isRound_316, fL_isRound_317, fL_isRound_318 (by omega) (by omega), e8, fL_isRound_321 (c2_int _), fL_isRound_323, fL_isRound_325 k93, ← hq, fL_isRound_326, fL_isRound_328 (by omega) (by omega), if_pos (by omega), fL_isRound_333, fL_isRound_334 (c2_ref _), eqq]
    have ec' := ec Q
    rw [eqq] at ec'
    refine ec'.trans ?_
    rw [fL_isRound_364, fL_isRound_365, fL_isRound_366, fL_isRound_368, fL_isRound_369, fL_isRound_371 (by omega) (by omega), e9, fL_isRound_374 (Or.inr rfl)]
theorem isRound_ok (hW : WK E r G X n σ st) (hs : 0 ≤ s ∧ s < n) (hc : CR (σ s.toNat) v) (hv : I32 v) : ∃ E' G' L' r' st' ρ, (ρ = σ s.toNat ∨ (ngS (σ s.toNat) ≠ -1 ∧ ρ = sw1 (σ s.toNat))) ∧ WK E' r' G' X n (chS σ s ρ) st' ∧ XT E E' ∧ (∀ x, x < E.1 → (x < X ∨ X + 130 ≤ x) → G' x = G x ∧ r' x = r x) ∧ ∀ Q, RK ML_isRound 0 [.ref X, .int (zi s), .int (zi v), jk, jk, jk, jk, jk, jk, jk, jk, jk, jk, jk] [] (0, 0) (E, zg G, zk L, r) Q = Q (E', zg G', zk L', r') (.int (zi 1)) := by
  obtain ⟨E1, G1, L1, r1, st1, b1, b2, m, gp, k1, k2, hW1, x1, fr1, hA, ⟨g1, g2⟩, e1⟩ := isRound_a (L := L) hW hs hc hv
  by_cases hg : ngS (σ s.toNat) = -1
  · obtain ⟨G2, f2, hW2, e2⟩ := isRound_b1 (L := L1) (k1 := k1) (k2 := k2) (l2 := .int (zi v)) (l3 := .ref b1) (l4 := .int (zi (σ s.toNat 0))) (l5 := .int (zi (σ s.toNat 4 + 1))) (l6 := .int (zi gp)) (l7 := .ref b2) (l8 := .int (zi (ctN (kpB (σ s.toNat) gp) m))) (l9 := .int (zi (frF (kpB (σ s.toNat) gp) (fun j => nAS (σ s.toNat) ((j : Int) + 1)) m))) hW1 hs hg (by omega) (by omega)
    refine ⟨E1, G2, L1, r1, 5, σ s.toNat, Or.inl rfl, by rw [chS_id]; exact hW2, x1, fun x hx hc => ⟨(f2 x hc).trans (fr1 x hx hc).1, (fr1 x hx hc).2⟩, fun Q => ?_⟩
    rw [e1, if_pos hg, e2]
  · obtain ⟨E2, G2, L2, r2, st2, hW2, x2, fr2, e2⟩ := isRound_b2 (L := L1) (v := v) hW1 hs hA hg g1 g2
    refine ⟨E2, G2, L2, r2, st2, sw1 (σ s.toNat), Or.inr ⟨hg, rfl⟩, hW2, x1.trans x2, fun x hx hc => ?_, fun Q => ?_⟩
    · have q1 := fr1 x hx hc
      have q2 := fr2 x (Nat.lt_of_lt_of_le hx x1.1) hc
      exact ⟨q2.1.trans q1.1, q2.2.trans q1.2⟩
    · rw [e1, if_neg hg, e2]
end BS
