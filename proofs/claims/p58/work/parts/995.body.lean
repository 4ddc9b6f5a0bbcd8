/-! The law at one sieve; at all; at its end. -/
section BS
variable {E E' : AE} {G G' L L' : Nat → Nat → Int} {r r' : Nat → Nat → Option Nat} {h : AH} {Q : AH → Value → Prop} {X n a b w m k1 k2 : Nat} {σ σ' : Nat → Nat → Int} {st st' s x y g p c v : Int} {l2 l6 l7 l8 : Value}
/-- a sieve as the law's cell told it, untouched -/
def LDS0 (σ : Nat → Int) (v : Int) : Prop := LKS σ v ∧ szS σ = 2 + pt (v / 128) 60
theorem body_a {k : Nat} (hW : WK E r G X n σ st) (hn : n ≤ 3) (hkn : k < n) (hS : SCR E G b) (hb : b < X) (hL : LDS0 (σ k) (cel E G b (1 + k))) (g1 : k1 + 13 ≤ 600000) (g2 : k2 + 7208 ≤ 7302250) (l4 l5 l6 l7 l8 : Value) : ∃ E' G' L' r' σ' st' k1' k2' w, WK E' r' G' X n σ' st' ∧ LKS (σ' k) (cel E G b (1 + k)) ∧ FRM E G r E' G' r' X σ σ' (k : Int) ∧ (k1' ≤ k1 + 13 ∧ k2' ≤ k2 + 7208) ∧ (X + 130 ≤ w ∧ kd E' w = 1 ∧ le E' w = 8 ∧ w < E'.1) ∧ (∀ j : Nat, 1 ≤ j → j < 8 → G' w j = nAS (smS 600 (σ' k)).1 j) ∧ ∀ Q, RK ML_law 63 [.ref b, .ref X, .int (zi (n : Int)), .int (zi (k : Int)), l4, l5, l6, l7, l8] [] (k1, k2) (E, zg G, zk L, r) Q = RK ML_law 248 [.ref b, .ref X, .int (zi (n : Int)), .int (zi (k : Int)), .int (zi (cel E G b (1 + k))), .ref w, .int (zi 8), l7, l8] [] (k1', k2') (E', zg G', zk L', r') Q := by
  obtain ⟨v, hv⟩ : ∃ v, v = cel E G b (1 + k) := ⟨_, rfl⟩
  have vb : I32 v := by
    rw [hv]
    exact cel_b hS _
  have ec := fun Q => c_cell (E := E) (G := G) (L := L) (r := r) (b := b) (Q := Q) (k := 1 + k) hS (by omega)
  rw [← hv] at hL ec ⊢
  obtain ⟨hk, hX, hn4, hWF⟩ := WK_k hW
  have hs : (0 : Int) ≤ (k : Int) ∧ (k : Int) < n := by omega
  have ek : ((k : Int)).toNat = k := Int.toNat_natCast k
  have g1a : k1 ≤ 600000 := by omega
  have g2a : k2 ≤ 7302250 := by omega
  obtain ⟨G1, f1, hW1, e1⟩ := W_sieve (L := L) (w := 0) hW hs (by decide)
  have p0 : prpZ (σ (k : Int).toNat) 0 = pt v 6 := by
    rw [ek]
    exact hL.1.1
  rw [p0] at e1
  obtain ⟨G2, f2, hW2, e2⟩ := W_sieve (L := L) (w := 4) hW1 hs (by decide)
  have p4 : prpZ (σ (k : Int).toNat) 4 = 2 + pt (v / 128) 60 := by
    rw [ek]
    exact hL.2
  rw [p4] at e2
  have eP := fun x n (hn : 0 < n ∧ n < 1000) h Q => c_part (x := x) (n := n) (h := h) (Q := Q) hn
  have pb6 := pt_b v 6 (by decide)
  have pb60 := pt_b (v / 128) 60 (by decide)
  obtain ⟨E3, hE3⟩ : ∃ E3 : AE, E3 = (E.1 + 1, u1 E.2.1 E.1 (1, (8 : Int).toNat), E.2.2) := ⟨_, rfl⟩
  have x3 : XT E E3 := by
    rw [hE3]
    exact ⟨Nat.le_succ _, rfl, fun x hx => v1_a _ _ _ (Nat.ne_of_lt hx)⟩
  have n3 : E3.1 = E.1 + 1 := by rw [hE3]
  have kE : kd E3 E.1 = 1 ∧ le E3 E.1 = 8 := by
    rw [hE3]
    exact ⟨congrArg Prod.fst (v1_s _ _ _), congrArg Prod.snd (v1_s _ _ _)⟩
  have hW3 : WK E3 (u1 r E.1 (fun _ => none)) (u1 G2 E.1 (fun _ => 0)) X n σ 0 := WK_x hW2 x3 fun x hx => ⟨v1_a _ _ _ (by omega), v1_a _ _ _ (by omega)⟩
  have F3 : FRM E G r E3 (u1 G2 E.1 (fun _ => 0)) (u1 r E.1 (fun _ => none)) X σ σ (k : Int) := ⟨x3, fun x hx hc => ⟨(v1_a _ _ _ (by omega)).trans ((f1.trans f2) x hc), v1_a _ _ _ (by omega)⟩, fun _ _ => rfl⟩
  have hS3 := FRM_s hS hb hX F3
  obtain ⟨E4, G4, L4, r4, σ4, st4, k14, k24, zz, hW4, hL4, F4, ⟨u1', u2'⟩, e4⟩ := law_z (l2 := .int (zi (n : Int))) (l7 := l7) (l8 := l8) (w := E.1) hs hb vb 4 5 E3 (u1 G2 E.1 (fun _ => 0)) (u1 L E.1 (fun _ => 0)) (u1 r E.1 (fun _ => none)) σ 0 (k1 + 1) (k2 + (8 : Int).toNat) (by decide) hW3 hS3 (by rw [ek]; exact hL.1) (by omega) (by show k2 + 8 + 1800 * 4 ≤ 7302250; omega)
  obtain ⟨hk4, hX4, -, hWF4⟩ := WK_k hW4
  have wf4 := hWF4 k hkn
  have kw4 := F4.1.kd (x := E.1) (by omega)
  obtain ⟨G5, f5, hW5, e5⟩ := areAll_ok (L := L4) hW4 hs (by rw [ek]; exact wf_ARS wf4)
  obtain ⟨G6, st6, hW6, f6, q6, e6⟩ := law_w (L := L4) (r := r4) (b := b) (l2 := .int (zi (n : Int))) (l7 := l7) (l8 := l8) (v := v) (w := E.1) (k1 := k14) (k2 := k24) (f := fun p => nAS (smS 600 (σ4 (k : Int).toNat)).1 p) hs hX ⟨kw4.1.trans kE.1, kw4.2.trans kE.2⟩ (fun p => rfl) (by omega) (by have : (8 : Int).toNat = 8 := rfl; omega) 7 1 G5 _ (by decide) (by decide) hW5 (fun j j1 j2 => by omega)
  rw [ek] at q6
  have hX4' := F4.1.1
  refine ⟨E4, G6, L4, r4, σ4, st6, k14, k24, E.1, hW6, by rw [← ek]; exact hL4, ⟨(F3.trans F4).1, fun x hx hc => ?_, (F3.trans F4).2.2⟩, ⟨by omega, by have : (8 : Int).toNat = 8 := rfl; omega⟩, ⟨hX, kw4.1.trans kE.1, kw4.2.trans kE.2, by omega⟩, q6, fun Q => ?_⟩
  · have q1 := (F3.trans F4).2.1 x hx hc
    exact ⟨(f6 x hc (Nat.ne_of_lt hx)).trans ((f5 x hc).trans q1.1), q1.2⟩
  · have g18 : (8 : Int).toNat = 8 := rfl
    rw [fL_law_63, fL_law_64, fL_law_65 (by omega) (by omega), if_pos (by omega), fL_law_68, fL_law_69, fL_law_70, fL_law_71, show (1 : Int) + (k : Int) = ((1 + k : Nat) : Int) by omega, fL_law_72 g1a g2a, ec, fL_law_75 (c2_int _), fL_law_77, fL_law_78, fL_law_79, fL_law_80 g1a g2a hk, e1, fL_law_83, fL_law_85, fL_law_87 g1a g2a, eP _ _ (by decide), fL_law_90 (by omega) (by omega), if_pos rfl]
    rw [fL_law_93, fL_law_94, fL_law_95, fL_law_96 g1a g2a hk, e2, fL_law_99, fL_law_100, fL_law_102, fL_law_104, sh7 vb, fL_law_105, fL_law_107 g1a g2a, eP _ _ (by decide), fL_law_110, fL_law_111 (by omega) (by omega), if_pos rfl]
    rw [fL_law_116, fL_law_118 (by decide) (by omega) (by omega), ← hE3, fL_law_120 (c2_int _), fL_law_122, fL_law_123 (c2_ref _)]
    refine (e4 Q).trans ?_
    rw [fL_law_210, fL_law_211, fL_law_212 (by omega) (by omega), e5, fL_law_215 (by decide), if_neg (by decide), fL_law_220, fL_law_221 (c2_ref _)]
    exact e6 Q
theorem body_b {k : Nat} (hW : WK E r G X n σ st) (hkn : k < n) (hw : X + 130 ≤ w) (kw : kd E w = 1 ∧ le E w = 8) (hj : ∀ j : Nat, 1 ≤ j → j < 8 → G w j = nAS (smS 600 (σ k)).1 j) (g1 : k1 ≤ 600000) (g2 : k2 ≤ 7302250) : ∃ G' r' σ' st' l6' x', WK E r' G' X n σ' st' ∧ FRM E G r E G' r' X σ σ' (k : Int) ∧ ∀ Q, RK ML_law 248 [.ref b, .ref X, l2, .int (zi (k : Int)), .int (zi v), .ref w, .int (zi 8), l7, l8] [] (k1, k2) (E, zg G, zk L, r) Q = RK ML_law 354 [.ref b, .ref X, l2, .int (zi (k : Int)), .int (zi v), .ref w, l6', .int (zi x'), .int (zi 8)] [] (k1, k2) (E, zg G', zk L, r') Q := by
  obtain ⟨hk, hX, hn4, hWF⟩ := WK_k hW
  have wf := hWF k hkn
  have hs : (0 : Int) ≤ (k : Int) ∧ (k : Int) < n := by omega
  have ek : ((k : Int)).toNat = k := Int.toNat_natCast k
  obtain ⟨s1, s2, s3, s4, s5⟩ := smS_600 wf
  obtain ⟨G1, f1, hW1, e1⟩ := W_sieve (L := L) (w := 6) hW hs (by decide)
  by_cases q : ngS (σ k) = -1
  · have p6 : prpZ (σ (k : Int).toNat) 6 = 1 := by
      rw [ek]
      exact bI_p q
    rw [p6] at e1
    obtain ⟨G2, f2, hW2, e2⟩ := W_all5 (L := L) hW1 hs (by rw [ek]; exact q)
    have t2 := W_status (L := L) hW2
    have F2 := f1.trans f2
    obtain ⟨G3, st3, hW3, f3, e3⟩ := law_c (L := L) (r := r) (b := b) (l2 := l2) (l6 := .int (zi 1)) (x := -1) (v := v) (w := w) (k1 := k1) (k2 := k2) (f := fun p => nAS (σ (k : Int).toNat) p) hs hw kw (fun p => rfl) g1 g2 7 1 G2 _ (by decide) (by decide) hW2 (fun j j1 j2 => by rw [F2 w (Or.inr hw), hj j j1 j2, s5 q, ek])
    refine ⟨G3, r, σ, st3, .int (zi 1), -1, hW3, FRM_f (F2.trans f3), fun Q => ?_⟩
    rw [fL_law_248, fL_law_249, fL_law_250, fL_law_252 g1 g2 hk, e1, fL_law_255 (c2_ref _), fL_law_257, fL_law_258, fL_law_259 g1 g2 hk, e2, fL_law_262 (c2_int _), fL_law_264, fL_law_266, fL_law_267 (by decide) (by decide), if_pos rfl, fL_law_270, fL_law_272, fL_law_273 (by decide) (by decide), if_pos rfl, fL_law_276, fL_law_277 g1 g2 hk, t2, fL_law_280, fL_law_281 (by decide) (by decide), if_pos rfl, fL_law_306, fL_law_307 (c2_int _)]
    exact e3 Q
  · have p6 : prpZ (σ (k : Int).toNat) 6 = 0 := by
      rw [ek]
      exact bI_n q
    rw [p6] at e1
    obtain ⟨G2, r2, ⟨f2, fr2⟩, hW2, e2⟩ := W_all (L := L) hW1 hs (by rw [ek]; exact q)
    have eT := chS_at σ (k : Int) (smS 600 (σ (k : Int).toNat)).1
    have m1 := s4 q
    rw [← ek] at m1 s3 s2
    obtain ⟨G3, f3, hW3, e3⟩ := W_sieve (L := L) (w := 6) hW2 hs (by decide)
    rw [eT] at e3
    have p63 : prpZ (smS 600 (σ (k : Int).toNat)).1 6 = 1 := bI_p s2
    rw [p63] at e3
    have F3 := f1.trans (f2.trans f3)
    obtain ⟨G4, st4, hW4, f4, e4⟩ := law_c (L := L) (r := r2) (b := b) (l2 := l2) (l6 := .int (zi 0)) (x := (smS 600 (σ (k : Int).toNat)).2) (v := v) (w := w) (k1 := k1) (k2 := k2) (f := fun p => nAS (chS σ (k : Int) (smS 600 (σ (k : Int).toNat)).1 (k : Int).toNat) p) hs hw kw (fun p => rfl) g1 g2 7 1 G3 _ (by decide) (by decide) hW3 (fun j j1 j2 => by rw [F3 w (Or.inr hw), hj j j1 j2, eT, ek])
    refine ⟨G4, r2, _, st4, .int (zi 0), (smS 600 (σ (k : Int).toNat)).2, hW4, FRM_c (F3.trans f4) fr2, fun Q => ?_⟩
    rw [fL_law_248, fL_law_249, fL_law_250, fL_law_252 g1 g2 hk, e1, fL_law_255 (c2_ref _), fL_law_257, fL_law_258, fL_law_259 g1 g2 hk, e2, fL_law_262 (c2_int _), fL_law_264, fL_law_266, fL_law_267 (by decide) (by decide), if_neg (by decide), fL_law_287, fL_law_289, fL_law_290 (by omega) (by decide), if_neg (by omega), fL_law_293, fL_law_294, fL_law_295, fL_law_297 g1 g2 hk, e3, fL_law_300, fL_law_301 (by decide) (by decide), if_pos rfl, fL_law_306, fL_law_307 (c2_int _)]
    exact e4 Q
theorem law_body {k : Nat} (hW : WK E r G X n σ st) (hn : n ≤ 3) (hkn : k < n) (hS : SCR E G b) (hb : b < X) (hL : LDS0 (σ k) (cel E G b (1 + k))) (g1 : k1 + 13 ≤ 600000) (g2 : k2 + 7208 ≤ 7302250) (l4 l5 l6 l7 l8 : Value) : ∃ E' G' L' r' σ' st' k1' k2' l4' l5' l6' l7' l8', WK E' r' G' X n σ' st' ∧ FRM E G r E' G' r' X σ σ' (k : Int) ∧ (k1' ≤ k1 + 13 ∧ k2' ≤ k2 + 7208) ∧ ∀ Q, RK ML_law 63 [.ref b, .ref X, .int (zi (n : Int)), .int (zi (k : Int)), l4, l5, l6, l7, l8] [] (k1, k2) (E, zg G, zk L, r) Q = RK ML_law 63 [.ref b, .ref X, .int (zi (n : Int)), .int (zi ((k + 1 : Nat) : Int)), l4', l5', l6', l7', l8'] [] (k1', k2') (E', zg G', zk L', r') Q := by
  have hs : (0 : Int) ≤ (k : Int) ∧ (k : Int) < n := by omega
  have ek : ((k : Int)).toNat = k := Int.toNat_natCast k
  obtain ⟨E1, G1, L1, r1, σ1, st1, k11, k21, w, hW1, hL1, F1, ⟨u1', u2'⟩, ⟨w1, w2, w3, w4⟩, hj, e1⟩ := body_a (L := L) hW hn hkn hS hb hL g1 g2 l4 l5 l6 l7 l8
  obtain ⟨G2, r2, σ2, st2, l6', x', hW2, F2, e2⟩ := body_b (L := L1) (b := b) (l2 := .int (zi (n : Int))) (l7 := l7) (l8 := l8) (v := cel E G b (1 + k)) (k1 := k11) (k2 := k21) hW1 hkn w1 ⟨w2, w3⟩ hj (by omega) (by omega)
  obtain ⟨hk2, hX2, -, hWF2⟩ := WK_k hW2
  have wf2 := hWF2 k hkn
  obtain ⟨G3, f3, hW3, e3⟩ := areAll_ok (L := L1) hW2 hs (by rw [ek]; exact wf_ARS wf2)
  refine ⟨E1, G3, L1, r2, σ2, 5, k11, k21, .int (zi (cel E G b (1 + k))), .ref w, l6', .int (zi x'), .int (zi 8), hW3, F1.trans (F2.trans (FRM_f f3)), ⟨u1', u2'⟩, fun Q => ?_⟩
  rw [e1, e2, fL_law_354, fL_law_355, fL_law_356 (by omega) (by omega), e3, fL_law_359 (by decide), if_neg (by decide), fL_law_364 (c2_int _), fL_law_367]
  rfl
theorem law_all (hn : n ≤ 3) (hb : b < X) (x : Nat → Int) : ∀ (d k : Nat) (E : AE) (G L : Nat → Nat → Int) (r : Nat → Nat → Option Nat) (σ : Nat → Nat → Int) (st : Int) (k1 k2 : Nat) (l4 l5 l6 l7 l8 : Value), k + d = n → WK E r G X n σ st → SCR E G b → (∀ t, t < n → cel E G b (1 + t) = x t) → (∀ t, k ≤ t → t < n → LDS0 (σ t) (x t)) → k1 + 13 * d ≤ 600000 → k2 + 7208 * d ≤ 7302250 →
    ∃ E' G' L' r' σ' st' k1' k2' l4' l5' l6' l7' l8', WK E' r' G' X n σ' st' ∧ (k1' ≤ 600000 ∧ k2' ≤ 7302250) ∧ ∀ Q, RK ML_law 63 [.ref b, .ref X, .int (zi (n : Int)), .int (zi (k : Int)), l4, l5, l6, l7, l8] [] (k1, k2) (E, zg G, zk L, r) Q = RK ML_law 370 [.ref b, .ref X, .int (zi (n : Int)), .int (zi (n : Int)), l4', l5', l6', l7', l8'] [] (k1', k2') (E', zg G', zk L', r') Q := by
  intro d
  induction d with
  | zero =>
    intro k E G L r σ st k1 k2 l4 l5 l6 l7 l8 hd hW hS hx hL g1 g2
    have e : k = n := by omega
    subst e
    refine ⟨E, G, L, r, σ, st, k1, k2, l4, l5, l6, l7, l8, hW, ⟨by omega, by omega⟩, fun Q => ?_⟩
    rw [fL_law_63, fL_law_64, fL_law_65 (by omega) (by omega), if_neg (by omega)]
  | succ d ih =>
    intro k E G L r σ st k1 k2 l4 l5 l6 l7 l8 hd hW hS hx hL g1 g2
    obtain ⟨-, hX, -, -⟩ := WK_k hW
    obtain ⟨E1, G1, L1, r1, σ1, st1, k11, k21, m4, m5, m6, m7, m8, hW1, F1, ⟨u1', u2'⟩, e1⟩ := law_body (L := L) hW hn (by omega : k < n) hS hb (by rw [hx k (by omega)]; exact hL k (by omega) (by omega)) (q_st g1).1 (q_st g2).1 l4 l5 l6 l7 l8
    have hS1 := SCR_x hS F1.1 (F1.2.1 b (by omega) (Or.inl hb)).1
    obtain ⟨E2, G2, L2, r2, σ2, st2, k12, k22, n4, n5, n6, n7, n8, hW2, gg, e2⟩ := ih (k + 1) E1 G1 L1 r1 σ1 st1 k11 k21 m4 m5 m6 m7 m8 (by omega) hW1 hS1.1 (fun t ht => by rw [hS1.2, hx t ht]) (fun t t1 t2 => by rw [F1.2.2 t (by rw [Int.toNat_natCast]; omega)]; exact hL t (by omega) t2) (Nat.le_trans (Nat.add_le_add_right u1' _) (q_st g1).2) (Nat.le_trans (Nat.add_le_add_right u2' _) (q_st g2).2)
    exact ⟨E2, G2, L2, r2, σ2, st2, k12, k22, n4, n5, n6, n7, n8, hW2, gg, fun Q => (e1 Q).trans (e2 Q)⟩
theorem law_tail (hW : WK E r G X n σ st) (hn : 1 ≤ n ∧ n ≤ 3) (g1 : k1 ≤ 600000) (g2 : k2 ≤ 7302250) {l3 l4 l5 l6 l7 l8 : Value} : ∃ G', ∀ Q, RK ML_law 370 [.ref b, .ref X, .int (zi (n : Int)), l3, l4, l5, l6, l7, l8] [] (k1, k2) (E, zg G, zk L, r) Q = Q (E, zg G', zk L, r) (.int (zi 1)) := by
  obtain ⟨hk, hX, hn4, hWF⟩ := WK_k hW
  have wf := hWF 0 (by omega)
  obtain ⟨G1, f1, hW1, e1⟩ := W_number1 (L := L) (s := 0) (y := 0) hW (by decide) (by decide) (by decide)
  have t1 := W_status (L := L) hW1
  obtain ⟨G2, f2, hW2, e2⟩ := W_number2 (L := L) (s := (n : Int)) (y := 1) hW1 (by omega) (by omega) (by decide)
  have t2 := W_status (L := L) hW2
  obtain ⟨G3, f3, hW3, e3⟩ := W_told1 (L := L) (s := 0) (y := 0) (w := 0) hW2 (by decide) (by decide) (by decide) (by decide)
  have t3 := W_status (L := L) hW3
  obtain ⟨G4, f4, hW4, e4⟩ := W_sieve1 (L := L) (s := 0) (w := 8) hW3 (by decide) (by decide) (by decide)
  have t4 := W_status (L := L) hW4
  obtain ⟨G5, f5, hW5, e5⟩ := W_rank (L := L) (s := 0) (x := -1) hW4 (by omega) (by decide)
  have ep : poZ (σ (0 : Int).toNat) (-1) = -1 := po_neg wf
  rw [ep] at e5 hW5
  rw [if_pos rfl] at hW5
  have t5 := W_status (L := L) hW5
  have e6 := W_fault0 (L := L) hW5
  have e7 := W_fault2 (L := L) hW5
  refine ⟨G5, fun Q => ?_⟩
  rw [fL_law_370, fL_law_371, fL_law_372, fL_law_373 g1 g2 hk, e1, fL_law_376, fL_law_377 (by decide) (by decide), if_pos rfl, fL_law_380, fL_law_381 g1 g2 hk, t1, fL_law_384, fL_law_385 (by decide) (by decide), if_pos rfl]
  rw [fL_law_388, fL_law_389, fL_law_390, fL_law_391 g1 g2 hk, e2, fL_law_394, fL_law_395 (by decide) (by decide), if_pos rfl, fL_law_398, fL_law_399 g1 g2 hk, t2, fL_law_402, fL_law_403 (by decide) (by decide), if_pos rfl]
  rw [fL_law_406, fL_law_407, fL_law_408, fL_law_409, fL_law_410 g1 g2 hk, e3, fL_law_413, fL_law_414 (by decide) (by decide), if_pos rfl, fL_law_417, fL_law_418 g1 g2 hk, t3, fL_law_421, fL_law_422 (by decide) (by decide), if_pos rfl]
  rw [fL_law_425, fL_law_426, fL_law_427, fL_law_429 g1 g2 hk, e4, fL_law_432, fL_law_433 (by decide) (by decide), if_pos rfl, fL_law_436, fL_law_437 g1 g2 hk, t4, fL_law_440, fL_law_441 (by decide) (by decide), if_pos rfl]
  rw [fL_law_444, fL_law_445, fL_law_446, fL_law_447 g1 g2 hk, e5, fL_law_450, fL_law_451 (by decide) (by decide), if_pos rfl, fL_law_454, fL_law_455 g1 g2 hk, t5, fL_law_458, fL_law_459 (by decide) (by decide), if_pos rfl]
  rw [fL_law_462, fL_law_463, fL_law_464 g1 g2 hk, e6, fL_law_467 (by decide), if_pos rfl, fL_law_470, fL_law_471, fL_law_472 g1 g2 hk, e7, fL_law_475, fL_law_476 (by decide) (by decide), if_pos rfl, fL_law_479, fL_law_480, fL_law_484 (Or.inr rfl)]
end BS
