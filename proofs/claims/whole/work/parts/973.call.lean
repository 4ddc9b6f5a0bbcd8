/-! One call on both sides. -/
def CALL (E : AE) (r : Nat → Nat → Option Nat) (G L : Nat → Nat → Int) (X m : Nat) (M M' : MI) (a9 a10 : List Value) : Prop := ∃ (G1 : Nat → Nat → Int) (r1 : Nat → Nat → Option Nat) (G2 L2 : Nat → Nat → Int) (v : Int), IV E r1 G2 L2 X m ∧ (∀ x, x < X → G1 x = G x ∧ G2 x = G x) ∧ (∀ Q, RK M 0 a9 [] (0, 0) (E, zg G, zk L, r) Q = Q (E, zg G1, zk L, r1) (.int (zi v))) ∧ ∀ Q, RK M' 0 a10 [] (0, 0) (E, zg G1, zk L, r1) Q = Q (E, zg G2, zk L2, r1) (.int (zi v))
section CA
variable {E : AE} {G G' G1 G2 L L' L1 : Nat → Nat → Int} {r r' r1 : Nat → Nat → Option Nat} {Q : AH → Value → Prop} {X m n a cl : Nat} {p q : Nat → Nat} {σ τ σ' : Nat → Nat → Int} {kk nn : Nat → Int} {ln : Nat → Nat} {lv : Nat → Nat → Int} {N : Nat → Nat} {Sg : Nat → Nat → Nat → Int} {ys : List Int} {st st' fl f1 f2 : Int} {tb : Nat → Int} {M M' : MI} {a9 a10 : List Value}
/-- what a call finds -/
def ST (E : AE) (r : Nat → Nat → Option Nat) (G L : Nat → Nat → Int) (X m n : Nat) (σ : Nat → Nat → Int) (a : Nat) (kk nn : Nat → Int) (τ : Nat → Nat → Int) (cl : Nat) (ln : Nat → Nat) (lv : Nat → Nat → Int) (ys : List Int) (st fl : Int) (tb : Nat → Int) (f1 f2 : Int) (N : Nat → Nat) (Sg : Nat → Nat → Nat → Int) : Prop := X + 130 ≤ m ∧ CI E r G X n σ a kk nn τ cl ln lv ys st fl tb f1 f2 ∧ RI E r G L m n σ a N Sg cl ln lv ys st fl tb f1 f2 ∧ N a = n ∧ Sg a = σ ∧ ACR a kk nn τ N Sg ∧ (∀ j, j < ys.length → 0 ≤ ys.getD j 0 ∧ ys.getD j 0 ≤ 1000)
theorem call_lk {A1 A2 : Int} (h : ST E r G L X m n σ a kk nn τ cl ln lv ys st fl tb f1 f2 N Sg) (h1 : ∃ G1, lkX G G1 X ∧ G1 X 5 = A1 ∧ ∀ Q, RK M 0 a9 [] (0, 0) (E, zg G, zk L, r) Q = Q (E, zg G1, zk L, r) (.int (zi A2))) (h2 : ∀ G1, RI E r G1 L m n σ a N Sg cl ln lv ys st fl tb f1 f2 → ∃ G2, lkM G1 G2 m ∧ G2 m 0 = A1 ∧ ∀ Q, RK M' 0 a10 [] (0, 0) (E, zg G1, zk L, r) Q = Q (E, zg G2, zk L, r) (.int (zi A2))) : CALL E r G L X m M M' a9 a10 := by
  obtain ⟨hXm, hC, hR, hN, hS, hA, hy⟩ := h
  obtain ⟨G1, l1, s1, e1⟩ := h1
  obtain ⟨C1, fr1⟩ := CI_lk hC l1 s1
  have R1 := RI_c hR (G' := G1) (fun x hx => fr1 x (by omega)) rfl
  obtain ⟨G2, l2, s2, e2⟩ := h2 G1 R1
  obtain ⟨R2, fr2⟩ := RI_lk R1 l2 s2
  have C2 := CI_c C1 (G' := G2) (fun x hx => fr2 x (by omega))
  exact ⟨G1, r, G2, L, A2, ⟨n, σ, a, kk, nn, τ, cl, ln, lv, ys, A1, fl, tb, f1, f2, N, Sg, C2, R2, hN, hS, hA, hy⟩, fun x hx => ⟨fr1 x (by omega), (fr2 x (by omega)).trans (fr1 x (by omega))⟩, e1, e2⟩
/-- a call that both refuse -/
theorem call_no {y : Int} (h : ST E r G L X m n σ a kk nn τ cl ln lv ys st fl tb f1 f2 N Sg) (h1 : ∀ Q, RK M 0 a9 [] (0, 0) (E, zg G, zk L, r) Q = Q (E, zg (u2 G X 5 y), zk L, r) (.int (zi (-1)))) (h2 : ∀ G1, RI E r G1 L m n σ a N Sg cl ln lv ys st fl tb f1 f2 → ∃ G2, lkM G1 G2 m ∧ G2 m 0 = y ∧ ∀ Q, RK M' 0 a10 [] (0, 0) (E, zg G1, zk L, r) Q = Q (E, zg G2, zk L, r) (.int (zi (-1)))) : CALL E r G L X m M M' a9 a10 := by
  obtain ⟨⟨p, q, hx⟩, -⟩ := id h.2.1
  exact call_lk h ⟨u2 G X 5 y, lkX_st hx.2.2 y, u2_s _ _ _ _, h1⟩ h2
theorem call_act {k0 s0 v : Int} {t0 : Nat → Int} {n' : Nat} (h : ST E r G L X m n σ a kk nn τ cl ln lv ys st fl tb f1 f2 N Sg) (ac : AC1 k0 s0 t0 n σ n' σ') (h1 : ∃ (G1 : Nat → Nat → Int) (r1 : Nat → Nat → Option Nat) (p' q' : Nat → Nat), HXS E r1 G1 X p' q' n' σ' (kpA a) (kpN a kk k0) (kpN a nn s0) (kpN a τ t0) ∧ HXR E G1 X cl ln lv ∧ frR r r1 (X + 37) ∧ G1 X 5 = 0 ∧ (∀ x, x < X ∨ (X < x ∧ x < X + 37) ∨ X + 120 < x → G1 x = G x) ∧ ∀ Q, RK M 0 a9 [] (0, 0) (E, zg G, zk L, r) Q = Q (E, zg G1, zk L, r1) (.int (zi v))) (h2 : ∀ G1 r1, RI E r1 G1 L m n σ a N Sg cl ln lv ys st fl tb f1 f2 → ∃ G2, MD E r1 G2 m n' σ' ∧ PM G2 m (kpA a) (kpN a N n) (kpN a Sg σ) ∧ G2 m 0 = 0 ∧ frM G1 G2 m ∧ ∀ Q, RK M' 0 a10 [] (0, 0) (E, zg G1, zk L, r1) Q = Q (E, zg G2, zk L, r1) (.int (zi v))) : CALL E r G L X m M M' a9 a10 := by
  obtain ⟨hXm, hC, hR, hN, hS, hA, hy⟩ := h
  obtain ⟨G1, r1, p', q', x1, x2, x3, x4, x5, e1⟩ := h1
  have ha : a ≤ 8 := hR.2.1.1.2
  obtain ⟨C1, fr1⟩ := CI_fr hC x1 x2 x3 x4 x5
  have R1 := RI_c hR (G' := G1) (r1 := r1) (fun x hx => (fr1 x (by omega)).1) (fr1 m (by omega)).2
  obtain ⟨G2, M2, P2, s2, f2', e2⟩ := h2 G1 r1 R1
  obtain ⟨R2, fr2⟩ := RI_fr R1 M2 (PM_push (n' := n') (σ' := σ') P2) s2 f2'
  have C2 := CI_c C1 (G' := G2) (fun x hx => fr2 x (by omega))
  exact ⟨G1, r1, G2, L, v, ⟨n', σ', kpA a, kpN a kk k0, kpN a nn s0, kpN a τ t0, cl, ln, lv, ys, 0, fl, tb, f1, f2, puN a N n n', puN a Sg σ σ', C2, R2, puN_t, puN_t, ACR_push ha hN hS hA ac, hy⟩, fun x hx => ⟨(fr1 x (by omega)).1, (fr2 x (by omega)).trans (fr1 x (by omega)).1⟩, e1, e2⟩
section W
variable {s x y ki fr by_ ma w v1 v2 v3 v4 v5 : Int}
theorem ca_status (h : ST E r G L X m n σ a kk nn τ cl ln lv ys st fl tb f1 f2 N Sg) : CALL E r G L X m MX9_status MX10_status [.ref X] [.ref m] := by
  obtain ⟨⟨p, q, hx⟩, hr, hO, a1, a2, a3, a4, a5⟩ := id h.2.1
  refine call_lk (A1 := st) (A2 := st) h ⟨G, ⟨fun _ _ _ => rfl, fun _ _ => rfl, hx.2.2⟩, a1, fun Q => by rw [o_status hx, a1]⟩ fun G1 hR => ?_
  obtain ⟨G2, l2, s2, e2⟩ := z_status (G := G1) (L := L) hR.1.1
  rw [hR.2.2.2.2.1.1] at s2 e2
  exact ⟨G2, l2, s2, e2⟩
theorem ca_fault (h : ST E r G L X m n σ a kk nn τ cl ln lv ys st fl tb f1 f2 N Sg) (i1 : I32 w) : CALL E r G L X m MX9_fault MX10_fault [.ref X, .int (zi w)] [.ref m, .int (zi w)] := by
  obtain ⟨⟨p, q, hx⟩, hr, hO, a1, a2, a3, a4, a5⟩ := id h.2.1
  refine call_lk (A1 := st) (A2 := if w = 0 then f1 else if w = 1 then f2 else -1) h ⟨G, ⟨fun _ _ _ => rfl, fun _ _ => rfl, hx.2.2⟩, a1, fun Q => by rw [o_fault hx i1, a4, a5]⟩ fun G1 hR => ?_
  obtain ⟨G2, l2, s2, e2⟩ := z_fault (G := G1) (L := L) hR.1.1 i1
  rw [hR.2.2.2.2.1.1] at s2
  rw [hR.2.2.2.2.1.2.2.2.1, hR.2.2.2.2.1.2.2.2.2] at e2
  exact ⟨G2, l2, s2, e2⟩
theorem ca_many (h : ST E r G L X m n σ a kk nn τ cl ln lv ys st fl tb f1 f2 N Sg) (i1 : I32 w) : CALL E r G L X m MX9_many MX10_many [.ref X, .int (zi w)] [.ref m, .int (zi w)] := by
  obtain ⟨⟨p, q, hx⟩, hr, -⟩ := id h.2.1
  exact call_lk h ⟨_, lkX_st hx.2.2 _, u2_s _ _ _ _, fun Q => o_many hx hr i1⟩ fun G1 hR => z_many (L := L) hR.1 hR.2.1 hR.2.2.1 i1
theorem ca_out (h : ST E r G L X m n σ a kk nn τ cl ln lv ys st fl tb f1 f2 N Sg) (i1 : I32 x) : CALL E r G L X m MX9_out MX10_out [.ref X, .int (zi x)] [.ref m, .int (zi x)] := by
  have hy := h.2.2.2.2.2.2
  obtain ⟨⟨p, q, hx⟩, hr, hO, -⟩ := id h.2.1
  exact call_lk h (x_out (L := L) hx hO i1 (fun j hj => (hy j hj).1) (fun j hj => (hy j hj).2)) fun G1 hR => y_out (L := L) hR.1.1 hR.2.2.2.1 i1 (fun j hj => (hy j hj).1)
theorem ca_round (h : ST E r G L X m n σ a kk nn τ cl ln lv ys st fl tb f1 f2 N Sg) (i1 : I32 s) : CALL E r G L X m MX9_round MX10_round [.ref X, .int (zi s), jk, jk] [.ref m, .int (zi s)] := by
  obtain ⟨⟨p, q, hx⟩, hr, -⟩ := id h.2.1
  by_cases c : 0 ≤ s ∧ s < n
  · by_cases hg : ngS (σ s.toNat) = -1
    · exact call_no (y := 5) h (fun Q => o_round5 hx c hg) fun G1 hR => z_round5 (L := L) hR.1 hR.2.1 c hg
    · obtain ⟨G1, r1, q1, w1⟩ := w_round (L := L) hx hr c hg
      exact call_act h (AC1_set (i := 0) c) ⟨G1, r1, p, q1, w1⟩ fun G1 r1 hR => z_round (L := L) hR.1 hR.2.1 c hg
  · exact call_no (y := 2) h (fun Q => o_round0 hx i1 c) fun G1 hR => ⟨_, lkM_i, iG_0, fun Q => z_round2 hR.1 i1 c⟩
theorem ca_all (h : ST E r G L X m n σ a kk nn τ cl ln lv ys st fl tb f1 f2 N Sg) (i1 : I32 s) : CALL E r G L X m MX9_all MX10_all [.ref X, .int (zi s), jk] [.ref m, .int (zi s)] := by
  obtain ⟨⟨p, q, hx⟩, hr, -⟩ := id h.2.1
  by_cases c : 0 ≤ s ∧ s < n
  · by_cases hg : ngS (σ s.toNat) = -1
    · exact call_no (y := 5) h (fun Q => o_all5 hx c hg) fun G1 hR => z_all5 (L := L) hR.1 hR.2.1 c hg
    · obtain ⟨G1, r1, q1, w1⟩ := w_all (L := L) hx hr c hg
      exact call_act h (AC1_set (i := 0) c) ⟨G1, r1, p, q1, w1⟩ fun G1 r1 hR => z_all (L := L) hR.1 hR.2.1 c hg
  · exact call_no (y := 2) h (fun Q => o_all0 hx i1 c) fun G1 hR => ⟨_, lkM_i, iG_0, fun Q => z_all2 hR.1 i1 c⟩
theorem ca_strike (h : ST E r G L X m n σ a kk nn τ cl ln lv ys st fl tb f1 f2 N Sg) (i1 : I32 s) (i2 : I32 x) : CALL E r G L X m MX9_strike MX10_strike [.ref X, .int (zi s), .int (zi x), jk, jk] [.ref m, .int (zi s), .int (zi x), jk] := by
  obtain ⟨⟨p, q, hx⟩, hr, -⟩ := id h.2.1
  by_cases c : 0 ≤ s ∧ s < n
  · by_cases hn : hasS (σ s.toNat) x = false ∨ szS (σ s.toNat) < 2
    · exact call_no (y := 5) h (fun Q => w_strike5 hx i2 c hn) fun G1 hR => z_strike5 (L := L) hR.1 i2 c hn
    · have h1 : hasS (σ s.toNat) x = true := by
        cases z : hasS (σ s.toNat) x with
        | true => rfl
        | false => exact absurd (Or.inl z) hn
      have h2 : 2 ≤ szS (σ s.toNat) := by
        rcases Int.lt_or_le (szS (σ s.toNat)) 2 with z | z
        · exact absurd (Or.inr z) hn
        · exact z
      obtain ⟨i0, b1, b2, b3, b4⟩ := hasS_ix (h.2.2.1.1.2.2 s.toNat (by omega)).2 h1
      obtain ⟨G1, r1, q1, w1⟩ := w_strike (L := L) hx hr i2 c b3 b2 h2
      exact call_act h (AC1_set (i := 0) c) ⟨G1, r1, p, q1, w1⟩ fun G1 r1 hR => z_strike (L := L) hR.1 hR.2.1 i2 c b3 b2 h2
  · exact call_no (y := 2) h (fun Q => w_strike2 hx i1 c) fun G1 hR => ⟨_, lkM_i, iG_0, fun Q => z_strike2 hR.1 i1 c⟩
theorem ca_longer (h : ST E r G L X m n σ a kk nn τ cl ln lv ys st fl tb f1 f2 N Sg) (i1 : I32 s) (i2 : I32 y) : CALL E r G L X m MX9_longer MX10_longer [.ref X, .int (zi s), .int (zi y), jk] [.ref m, .int (zi s), .int (zi y), jk] := by
  obtain ⟨⟨p, q, hx⟩, hr, -⟩ := id h.2.1
  by_cases c0 : 2 ≤ y ∧ y ≤ 600
  · by_cases c : 0 ≤ s ∧ s < n
    · by_cases h3 : σ s.toNat 3 = y
      · exact call_no (y := 4) h (fun Q => o_longer4 hx c0 c h3) fun G1 hR => ⟨_, lkM_i, iG_0, fun Q => z_longer4 hR.1 c0 c h3⟩
      · obtain ⟨G1, r1, q1, w1⟩ := w_longer (L := L) hx hr c0 c h3
        exact call_act h (AC1_set (i := 0) c) ⟨G1, r1, p, q1, w1⟩ fun G1 r1 hR => z_longer (L := L) hR.1 hR.2.1 c0 c h3
    · exact call_no (y := 2) h (fun Q => o_longer2 hx i1 c0 c) fun G1 hR => ⟨_, lkM_i, iG_0, fun Q => z_longer2 hR.1 i1 c0 c⟩
  · exact call_no (y := 1) h (fun Q => o_longer1 hx i2 c0) fun G1 hR => ⟨_, lkM_i, iG_0, fun Q => z_longer1 hR.1 i2 c0⟩
theorem ca_make (h : ST E r G L X m n σ a kk nn τ cl ln lv ys st fl tb f1 f2 N Sg) (i1 : I32 ki) (i2 : I32 fr) (i3 : I32 by_) (i4 : I32 ma) : CALL E r G L X m MX9_make MX10_make [.ref X, .int (zi ki), .int (zi fr), .int (zi by_), .int (zi ma), jk] [.ref m, .int (zi ki), .int (zi fr), .int (zi by_), .int (zi ma), jk, jk, jk] := by
  obtain ⟨⟨p, q, hx⟩, hr, -⟩ := id h.2.1
  by_cases c1 : mkBad ki fr by_ ma
  · exact call_no (y := 1) h (fun Q => w_make1 hx i1 i2 i3 i4 c1) fun G1 hR => ⟨_, lkM_i, iG_0, fun Q => z_make1 hR.1 i1 i2 i3 i4 c1⟩
  · obtain ⟨d1, d2, d3, d4⟩ := Decidable.not_not.mp c1
    by_cases c2 : n = 4
    · subst c2
      exact call_no (y := 3) h (fun Q => w_make3 hx d1 d2 d3 d4) fun G1 hR => ⟨_, lkM_i, iG_0, fun Q => z_make3 hR.1 d1 d2 d3 d4⟩
    · have hn : n < 4 := by
        have := h.2.2.1.1.2.1.2
        omega
      obtain ⟨G1, r1, q1, w1⟩ := w_make (L := L) hx hr d1 d2 d3 d4 hn
      exact call_act h AC1_make ⟨G1, r1, p, q1, w1⟩ fun G1 r1 hR => z_make (L := L) hR.1 hR.2.1 hn d1 d2 d3 d4
theorem ca_drop (h : ST E r G L X m n σ a kk nn τ cl ln lv ys st fl tb f1 f2 N Sg) (i1 : I32 s) : CALL E r G L X m MX9_drop MX10_drop [.ref X, .int (zi s)] [.ref m, .int (zi s), jk] := by
  obtain ⟨⟨p, q, hx⟩, hr, -⟩ := id h.2.1
  by_cases c : 0 ≤ s ∧ s < n
  · obtain ⟨G1, r1, p1, q1, w1⟩ := w_drop (L := L) hx hr c
    exact call_act h (AC1_drop c) ⟨G1, r1, p1, q1, w1⟩ fun G1 r1 hR => z_drop (L := L) hR.1 hR.2.1 c
  · exact call_no (y := 2) h (fun Q => o_drop0 hx i1 c) fun G1 hR => ⟨_, lkM_i, iG_0, fun Q => z_drop2 hR.1 i1 c⟩
theorem un_bk {c : Nat} (h : ST E r G L X m n σ (c + 1) kk nn τ cl ln lv ys st fl tb f1 f2 N Sg) (h1 : ∃ (G1 : Nat → Nat → Int) (r1 : Nat → Nat → Option Nat) (p' : Nat → Nat) (q' : Nat → Nat), HXS E r1 G1 X p' q' (N c) (Sg c) c kk nn τ ∧ HXR E G1 X cl ln lv ∧ frR r r1 (X + 37) ∧ G1 X 5 = 0 ∧ (∀ x, x < X ∨ (X < x ∧ x < X + 37) ∨ X + 120 < x → G1 x = G x) ∧ ∀ Q, RK MX9_undo 0 [.ref X] [] (0, 0) (E, zg G, zk L, r) Q = Q (E, zg G1, zk L, r1) (.int (zi (c : Int)))) : CALL E r G L X m MX9_undo MX10_undo [.ref X] [.ref m, jk] := by
  obtain ⟨hXm, hC, hR, hN, hS, hA, hy⟩ := h
  obtain ⟨G1, r1, p', q', x1, x2, x3, x4, x5, e1⟩ := h1
  obtain ⟨C1, fr1⟩ := CI_fr hC x1 x2 x3 x4 x5
  have R1 := RI_c hR (G' := G1) (r1 := r1) (fun x hx => (fr1 x (by omega)).1) (fr1 m (by omega)).2
  obtain ⟨G2, M2, P2, s2, f2', e2⟩ := z_undo (L := L) R1.1 R1.2.1
  obtain ⟨R2, fr2⟩ := RI_fr R1 M2 P2 s2 f2'
  have C2 := CI_c C1 (G' := G2) (fun x hx => fr2 x (by omega))
  exact ⟨G1, r1, G2, L, c, ⟨N c, Sg c, c, kk, nn, τ, cl, ln, lv, ys, 0, fl, tb, f1, f2, N, Sg, C2, R2, rfl, rfl, fun u hu => hA u (by omega), hy⟩, fun x hx => ⟨(fr1 x (by omega)).1, (fr2 x (by omega)).trans (fr1 x (by omega)).1⟩, e1, e2⟩
theorem ca_undo (h : ST E r G L X m n σ a kk nn τ cl ln lv ys st fl tb f1 f2 N Sg) : CALL E r G L X m MX9_undo MX10_undo [.ref X] [.ref m, jk] := by
  obtain ⟨⟨p, q, hx⟩, hr, -⟩ := id h.2.1
  cases a with
  | zero => exact call_no (y := 5) h (fun Q => o_undo0 hx) fun G1 hR => ⟨_, lkM_i, iG_0, fun Q => z_undo5 hR.1 hR.2.1⟩
  | succ c =>
    have hA := h.2.2.2.2.2.1 c (by omega)
    have h4 := (h.2.2.1.2.1.2 c (by omega)).2.1
    have hn4 := h.2.2.1.1.2.1.2
    rw [h.2.2.2.1, h.2.2.2.2.1] at hA
    rcases hA with ⟨k1, n1, u1⟩ | ⟨k1, i, e1, i1, n1, t1, u1⟩ | ⟨k1, i, e1, i1, n1, u1⟩
    · obtain ⟨G1, r1, p1, w1, w2⟩ := w_undo1 (L := L) hx hr k1 (by omega)
      rw [show n - 1 = N c by omega] at w1
      exact un_bk h ⟨G1, r1, p1, q, HXS_sg w1 (fun t ht => (u1 t ht).symm), w2⟩
    · obtain ⟨G1, r1, p1, w1, w2⟩ := w_undoC (L := L) hx hr k1 e1 (by omega)
      rw [n1] at w1
      refine un_bk h ⟨G1, r1, p1, q, HXS_sg w1 (fun t ht => ?_), w2⟩
      by_cases z : t = i
      · rw [if_pos z, z, t1]
      · rw [if_neg z, u1 t ht z]
    · obtain ⟨G1, r1, p1, w1, w2⟩ := w_undo2 (L := L) hx hr k1 e1 (by omega) (by omega)
      rw [← n1] at w1
      exact un_bk h ⟨G1, r1, p1, q, HXS_sg w1 (fun t ht => u1 t ht), w2⟩
end W
end CA
