/-! The class's acts once more, with what they do to the references; strike, guess, out. -/
section BS
variable {E : AE} {G G' L : Nat → Nat → Int} {r r' : Nat → Nat → Option Nat} {h : AH} {Q : AH → Value → Prop} {X H S n a cl c : Nat} {v y s x d e b w k ki fr by_ ma : Int} {p q : Nat → Nat} {σ τ : Nat → Nat → Int} {kk nn : Nat → Int} {ln : Nat → Nat} {lv : Nat → Nat → Int}
theorem w_round (hx : HXS E r G X p q n σ a kk nn τ) (hr : HXR E G X cl ln lv) (c : 0 ≤ s ∧ s < n) (hg : ngS (σ s.toNat) ≠ -1) :
    ∃ (G' : Nat → Nat → Int) (r' : Nat → Nat → Option Nat) (q' : Nat → Nat), HXS E r' G' X p q' n (fun t => if t = s.toNat then swS (σ s.toNat) (ngS (σ s.toNat)) else σ t) (kpA a) (kpN a kk 0) (kpN a nn s) (kpN a τ (σ s.toNat)) ∧ HXR E G' X cl ln lv ∧ frR r r' (X + 37) ∧ G' X 5 = 0 ∧ (∀ x, x < X ∨ (X < x ∧ x < X + 37) ∨ X + 120 < x → G' x = G x) ∧ ∀ Q, RK MX9_round 0 [.ref X, .int (zi s), jk, jk] [] (0, 0) (E, zg G, zk L, r) Q = Q (E, zg G', zk L, r') (.int (zi (szS (σ s.toNat) - szS (swS (σ s.toNat) (ngS (σ s.toNat)))))) := by
  obtain ⟨x0, ⟨x1, x2, x3, x4, x5⟩, -⟩ := hx.1
  have h0 := hx.2.1.1.1
  obtain ⟨hS, hR, hW, e1⟩ := HXS_sv (L := L) hx c
  have s0 := hS.1
  have e2 := fun Q => c7_nextGapS (L := L) (Q := Q) hS hR hW
  have nb := ngS_ok hW hg
  have hnn := hx.2.1.2.2.2.1.2
  obtain ⟨G1, r1, q', f1, f2, f3, f4, f6⟩ := c6_keepAct (L := L) (kd' := 0) (s := s) hx.2.1 (Or.inl c)
  have hps := (hx.2.1.2.1.1 s.toNat (by omega)).2
  have hS1 : shS E r1 (svA X p s) := f1.1.2.2.2.2.1 (p s.toNat) hps
  have hR1 : RS G1 (svA X p s) (σ s.toNat) := (f1.2.2.2.2.2.1 s.toNat (by omega)).1
  obtain ⟨G2, g1, g2, g3, g4⟩ := c7_sweepS (L := L) hS1 hR1 hW hg
  obtain ⟨u1, u2', u3⟩ := chg_HXS hx hr c f1 f2 f3 g1 g2 g3
  have nI : I32 (ngS (σ s.toNat)) := by
    have := nb.1
    omega
  refine ⟨u2 G2 X 5 0, r1, q', u1, u2', f3, u2_s _ _ _ _, u3, fun Q => ?_⟩
  simp (disch := first | assumption | exact c2_int _ | exact c2_ref _ | exact c2_jk | exact c2_null | omega | (apply rN1; assumption) | (apply rN2; assumption) | (apply rN3; assumption) | (apply rN4; assumption) | exact bI_r _ | exact bI_01 _) only [↓fX9_round_0, ↓fX9_round_1, ↓fX9_round_4, ↓fX9_round_5, ↓fX9_round_8, ↓fX9_round_8n, ↓fX9_round_9, ↓fX9_round_9n, ↓fX9_round_10, ↓fX9_round_10r, ↓fX9_round_13, ↓fX9_round_14, ↓fX9_round_15, ↓fX9_round_18, ↓fX9_round_19, ↓fX9_round_19n, ↓fX9_round_20, ↓fX9_round_23, ↓fX9_round_24, ↓fX9_round_25, ↓fX9_round_26, ↓fX9_round_29, ↓fX9_round_30, ↓fX9_round_31, ↓fX9_round_34, ↓fX9_round_35, ↓fX9_round_36, ↓fX9_round_39, ↓fX9_round_40, ↓fX9_round_41, ↓fX9_round_44, ↓fX9_round_45, ↓fX9_round_45n, ↓fX9_round_46, ↓fX9_round_47, ↓fX9_round_50, ↓fX9_round_53, ↓e1, ↓e2, ↓f6, ↓g4, ↓c9_succeed, hg, and_self, true_and, and_true, false_and, and_false, not_true_eq_false, not_false_eq_true, or_self, true_or, or_true, false_or, or_false, ite_not, Decidable.not_not, decide_eq_true_eq, Bool.not_true, Bool.not_false, Bool.false_eq_true, Bool.not_eq_true, n10, n20, n21, n30, n31, n32, n40, n41, n42, n43, ↓reduceIte]
theorem w_all (hx : HXS E r G X p q n σ a kk nn τ) (hr : HXR E G X cl ln lv) (c : 0 ≤ s ∧ s < n) (hg : ngS (σ s.toNat) ≠ -1) :
    ∃ (G' : Nat → Nat → Int) (r' : Nat → Nat → Option Nat) (q' : Nat → Nat), HXS E r' G' X p q' n (fun t => if t = s.toNat then (smS 600 (σ s.toNat)).1 else σ t) (kpA a) (kpN a kk 0) (kpN a nn s) (kpN a τ (σ s.toNat)) ∧ HXR E G' X cl ln lv ∧ frR r r' (X + 37) ∧ G' X 5 = 0 ∧ (∀ x, x < X ∨ (X < x ∧ x < X + 37) ∨ X + 120 < x → G' x = G x) ∧ ∀ Q, RK MX9_all 0 [.ref X, .int (zi s), jk] [] (0, 0) (E, zg G, zk L, r) Q = Q (E, zg G', zk L, r') (.int (zi (smS 600 (σ s.toNat)).2)) := by
  obtain ⟨x0, ⟨x1, x2, x3, x4, x5⟩, -⟩ := hx.1
  have h0 := hx.2.1.1.1
  obtain ⟨hS, hR, hW, e1⟩ := HXS_sv (L := L) hx c
  have s0 := hS.1
  have e2 := fun Q => c7_nextGapS (L := L) (Q := Q) hS hR hW
  have nb := ngS_ok hW hg
  have hnn := hx.2.1.2.2.2.1.2
  obtain ⟨G1, r1, q', f1, f2, f3, f4, f6⟩ := c6_keepAct (L := L) (kd' := 0) (s := s) hx.2.1 (Or.inl c)
  have hps := (hx.2.1.2.1.1 s.toNat (by omega)).2
  have hS1 : shS E r1 (svA X p s) := f1.1.2.2.2.2.1 (p s.toNat) hps
  have hR1 : RS G1 (svA X p s) (σ s.toNat) := (f1.2.2.2.2.2.1 s.toNat (by omega)).1
  obtain ⟨G2, g1, g2, g3, g4⟩ := c7_sweepAtMost (L := L) (m := 600) hS1 hR1 hW (by omega)
  have g4' : ∀ Q, RK MX7_sweepAtMost 0 [.ref (svA X p s), .int (zi 600), jk, jk] [] (0, 0) (E, zg G1, zk L, r1) Q = Q (E, zg G2, zk L, r1) (.int (zi (smS 600 (σ s.toNat)).2)) := g4
  obtain ⟨u1, u2', u3⟩ := chg_HXS hx hr c f1 f2 f3 g1 g2 g3
  have nI : I32 (ngS (σ s.toNat)) := by
    have := nb.1
    omega
  refine ⟨u2 G2 X 5 0, r1, q', u1, u2', f3, u2_s _ _ _ _, u3, fun Q => ?_⟩
  simp (disch := first | assumption | exact c2_int _ | exact c2_ref _ | exact c2_jk | exact c2_null | omega | (apply rN1; assumption) | (apply rN2; assumption) | (apply rN3; assumption) | (apply rN4; assumption) | exact bI_r _ | exact bI_01 _) only [↓fX9_all_0, ↓fX9_all_1, ↓fX9_all_4, ↓fX9_all_5, ↓fX9_all_8, ↓fX9_all_8n, ↓fX9_all_9, ↓fX9_all_9n, ↓fX9_all_10, ↓fX9_all_10r, ↓fX9_all_13, ↓fX9_all_14, ↓fX9_all_15, ↓fX9_all_18, ↓fX9_all_19, ↓fX9_all_19n, ↓fX9_all_20, ↓fX9_all_23, ↓fX9_all_24, ↓fX9_all_27, ↓fX9_all_28, ↓fX9_all_29, ↓fX9_all_32, ↓fX9_all_33, ↓fX9_all_34, ↓fX9_all_37, ↓fX9_all_38, ↓fX9_all_39, ↓fX9_all_42, ↓fX9_all_43, ↓fX9_all_43n, ↓fX9_all_44, ↓fX9_all_47, ↓fX9_all_50, ↓fX9_all_53, ↓e1, ↓e2, ↓f6, ↓g4', ↓c9_succeed, hg, and_self, true_and, and_true, false_and, and_false, not_true_eq_false, not_false_eq_true, or_self, true_or, or_true, false_or, or_false, ite_not, Decidable.not_not, decide_eq_true_eq, Bool.not_true, Bool.not_false, Bool.false_eq_true, Bool.not_eq_true, n10, n20, n21, n30, n31, n32, n40, n41, n42, n43, ↓reduceIte]
theorem w_strike2 (hx : HXS E r G X p q n σ a kk nn τ) (hs : I32 s) (c : ¬ (0 ≤ s ∧ s < n)) : RK MX9_strike 0 [.ref X, .int (zi s), .int (zi x), jk, jk] [] (0, 0) (E, zg G, zk L, r) Q = Q (E, zg (u2 G X 5 2), zk L, r) (.int (zi (-1))) := by
  obtain ⟨x0, ⟨x1, x2, x3, x4, x5⟩, -⟩ := hx.1
  have h0 := hx.2.1.1.1
  have e1 := HXS_none (L := L) hx hs c
  simp (disch := first | assumption | exact c2_int _ | exact c2_ref _ | exact c2_jk | exact c2_null | omega | (apply rN1; assumption) | (apply rN2; assumption) | (apply rN3; assumption) | (apply rN4; assumption) | exact bI_r _ | exact bI_01 _) only [↓fX9_strike_0, ↓fX9_strike_1, ↓fX9_strike_4, ↓fX9_strike_5, ↓fX9_strike_8, ↓fX9_strike_8n, ↓fX9_strike_9, ↓fX9_strike_9n, ↓fX9_strike_10, ↓fX9_strike_10r, ↓fX9_strike_13, ↓fX9_strike_14, ↓fX9_strike_15, ↓fX9_strike_18, ↓fX9_strike_19, ↓fX9_strike_19n, ↓fX9_strike_20, ↓fX9_strike_21, ↓fX9_strike_24, ↓fX9_strike_26, ↓fX9_strike_28, ↓fX9_strike_29, ↓fX9_strike_32, ↓fX9_strike_32n, ↓fX9_strike_33, ↓fX9_strike_36, ↓fX9_strike_37, ↓fX9_strike_40, ↓fX9_strike_41, ↓fX9_strike_42, ↓fX9_strike_45, ↓fX9_strike_46, ↓fX9_strike_47, ↓fX9_strike_50, ↓fX9_strike_51, ↓fX9_strike_52, ↓fX9_strike_55, ↓fX9_strike_55n, ↓fX9_strike_56, ↓fX9_strike_57, ↓fX9_strike_60, ↓fX9_strike_61, ↓fX9_strike_63, ↓fX9_strike_66, ↓e1, ↓c9_fail, and_self, true_and, and_true, false_and, and_false, not_true_eq_false, not_false_eq_true, or_self, true_or, or_true, false_or, or_false, ite_not, Decidable.not_not, decide_eq_true_eq, Bool.not_true, Bool.not_false, Bool.false_eq_true, Bool.not_eq_true, n10, n20, n21, n30, n31, n32, n40, n41, n42, n43, ↓reduceIte]
theorem w_strike5 (hx : HXS E r G X p q n σ a kk nn τ) (hI : I32 x) (c : 0 ≤ s ∧ s < n) (hn : hasS (σ s.toNat) x = false ∨ szS (σ s.toNat) < 2) : RK MX9_strike 0 [.ref X, .int (zi s), .int (zi x), jk, jk] [] (0, 0) (E, zg G, zk L, r) Q = Q (E, zg (u2 G X 5 5), zk L, r) (.int (zi (-1))) := by
  obtain ⟨x0, ⟨x1, x2, x3, x4, x5⟩, -⟩ := hx.1
  have h0 := hx.2.1.1.1
  obtain ⟨hS, hR, hW, e1⟩ := HXS_sv (L := L) hx c
  have s0 := hS.1
  have e2 : ∀ Q, RK MX7_placeOf 0 [.ref (svA X p s), .int (zi x)] [] (0, 0) (E, zg G, zk L, r) Q = Q (E, zg G, zk L, r) (.int (zi (poZ (σ s.toNat) x))) := fun Q => by
    rw [c7_placeOf hS hR.1 hI, ← RS_po hR hW]
    rfl
  have pb := poZ_b (x := x) hW
  have zb := szS_b hW
  have e13 : G (svA X p s) 13 = szS (σ s.toNat) := RS_sz hR hW
  by_cases h1 : poZ (σ s.toNat) x = -1
  · simp (disch := first | assumption | exact c2_int _ | exact c2_ref _ | exact c2_jk | exact c2_null | omega | (apply rN1; assumption) | (apply rN2; assumption) | (apply rN3; assumption) | (apply rN4; assumption) | exact bI_r _ | exact bI_01 _) only [↓fX9_strike_0, ↓fX9_strike_1, ↓fX9_strike_4, ↓fX9_strike_5, ↓fX9_strike_8, ↓fX9_strike_8n, ↓fX9_strike_9, ↓fX9_strike_9n, ↓fX9_strike_10, ↓fX9_strike_10r, ↓fX9_strike_13, ↓fX9_strike_14, ↓fX9_strike_15, ↓fX9_strike_18, ↓fX9_strike_19, ↓fX9_strike_19n, ↓fX9_strike_20, ↓fX9_strike_21, ↓fX9_strike_24, ↓fX9_strike_26, ↓fX9_strike_28, ↓fX9_strike_29, ↓fX9_strike_32, ↓fX9_strike_32n, ↓fX9_strike_33, ↓fX9_strike_36, ↓fX9_strike_37, ↓fX9_strike_40, ↓fX9_strike_41, ↓fX9_strike_42, ↓fX9_strike_45, ↓fX9_strike_46, ↓fX9_strike_47, ↓fX9_strike_50, ↓fX9_strike_51, ↓fX9_strike_52, ↓fX9_strike_55, ↓fX9_strike_55n, ↓fX9_strike_56, ↓fX9_strike_57, ↓fX9_strike_60, ↓fX9_strike_61, ↓fX9_strike_63, ↓fX9_strike_66, ↓e1, ↓e2, ↓c9_fail, h1, and_self, true_and, and_true, false_and, and_false, not_true_eq_false, not_false_eq_true, or_self, true_or, or_true, false_or, or_false, ite_not, Decidable.not_not, decide_eq_true_eq, Bool.not_true, Bool.not_false, Bool.false_eq_true, Bool.not_eq_true, n10, n20, n21, n30, n31, n32, n40, n41, n42, n43, ↓reduceIte]
  · have h2 : szS (σ s.toNat) < 2 := by
      rcases hn with z | z
      · exact absurd (show poZ (σ s.toNat) x = -1 by unfold poZ; rw [z]; rfl) h1
      · exact z
    simp (disch := first | assumption | exact c2_int _ | exact c2_ref _ | exact c2_jk | exact c2_null | omega | (apply rN1; assumption) | (apply rN2; assumption) | (apply rN3; assumption) | (apply rN4; assumption) | exact bI_r _ | exact bI_01 _) only [↓fX9_strike_0, ↓fX9_strike_1, ↓fX9_strike_4, ↓fX9_strike_5, ↓fX9_strike_8, ↓fX9_strike_8n, ↓fX9_strike_9, ↓fX9_strike_9n, ↓fX9_strike_10, ↓fX9_strike_10r, ↓fX9_strike_13, ↓fX9_strike_14, ↓fX9_strike_15, ↓fX9_strike_18, ↓fX9_strike_19, ↓fX9_strike_19n, ↓fX9_strike_20, ↓fX9_strike_21, ↓fX9_strike_24, ↓fX9_strike_26, ↓fX9_strike_28, ↓fX9_strike_29, ↓fX9_strike_32, ↓fX9_strike_32n, ↓fX9_strike_33, ↓fX9_strike_36, ↓fX9_strike_37, ↓fX9_strike_40, ↓fX9_strike_41, ↓fX9_strike_42, ↓fX9_strike_45, ↓fX9_strike_46, ↓fX9_strike_47, ↓fX9_strike_50, ↓fX9_strike_51, ↓fX9_strike_52, ↓fX9_strike_55, ↓fX9_strike_55n, ↓fX9_strike_56, ↓fX9_strike_57, ↓fX9_strike_60, ↓fX9_strike_61, ↓fX9_strike_63, ↓fX9_strike_66, ↓e1, ↓e2, ↓c9_fail, h1, e13, h2, and_self, true_and, and_true, false_and, and_false, not_true_eq_false, not_false_eq_true, or_self, true_or, or_true, false_or, or_false, ite_not, Decidable.not_not, decide_eq_true_eq, Bool.not_true, Bool.not_false, Bool.false_eq_true, Bool.not_eq_true, n10, n20, n21, n30, n31, n32, n40, n41, n42, n43, ↓reduceIte]
theorem w_strike (hx : HXS E r G X p q n σ a kk nn τ) (hr : HXR E G X cl ln lv) (hI : I32 x) (c : 0 ≤ s ∧ s < n) {i0 : Nat} (hi : iXS (σ s.toNat) x = i0) (hh : hbS (σ s.toNat) i0 = true) (h2 : 2 ≤ szS (σ s.toNat)) :
    ∃ (G' : Nat → Nat → Int) (r' : Nat → Nat → Option Nat) (q' : Nat → Nat), HXS E r' G' X p q' n (fun t => if t = s.toNat then hdS (σ s.toNat) i0 else σ t) (kpA a) (kpN a kk 0) (kpN a nn s) (kpN a τ (σ s.toNat)) ∧ HXR E G' X cl ln lv ∧ frR r r' (X + 37) ∧ G' X 5 = 0 ∧ (∀ x, x < X ∨ (X < x ∧ x < X + 37) ∨ X + 120 < x → G' x = G x) ∧ ∀ Q, RK MX9_strike 0 [.ref X, .int (zi s), .int (zi x), jk, jk] [] (0, 0) (E, zg G, zk L, r) Q = Q (E, zg G', zk L, r') (.int (zi (poZ (σ s.toNat) x))) := by
  obtain ⟨x0, ⟨x1, x2, x3, x4, x5⟩, -⟩ := hx.1
  have h0 := hx.2.1.1.1
  obtain ⟨hS, hR, hW, e1⟩ := HXS_sv (L := L) hx c
  have s0 := hS.1
  have hnn := hx.2.1.2.2.2.1.2
  have e2 : ∀ Q, RK MX7_placeOf 0 [.ref (svA X p s), .int (zi x)] [] (0, 0) (E, zg G, zk L, r) Q = Q (E, zg G, zk L, r) (.int (zi (poZ (σ s.toNat) x))) := fun Q => by
    rw [c7_placeOf hS hR.1 hI, ← RS_po hR hW]
    rfl
  have pb := poZ_b (x := x) hW
  have e13 : G (svA X p s) 13 = szS (σ s.toNat) := RS_sz hR hW
  have h1 : hasS (σ s.toNat) x = true := by
    rw [hasS_hb (by omega), hi]
    exact hh
  obtain ⟨q0, q1, q2, q3, -⟩ := hasS_p hW h1
  have eq : poZ (σ s.toNat) x = q0 := by rw [← q3]; exact poZ_at hW ⟨q1, q2⟩
  have hne : ¬ poZ (σ s.toNat) x = -1 := by omega
  have zb := szS_b hW
  have h3 : ¬ szS (σ s.toNat) < 2 := by omega
  obtain ⟨G1, r1, q', f1, f2, f3, f4, f6⟩ := c6_keepAct (L := L) (kd' := 0) (s := s) hx.2.1 (Or.inl c)
  have hps := (hx.2.1.2.1.1 s.toNat (by omega)).2
  have hS1 : shS E r1 (svA X p s) := f1.1.2.2.2.2.1 (p s.toNat) hps
  have hR1 : RS G1 (svA X p s) (σ s.toNat) := (f1.2.2.2.2.2.1 s.toNat (by omega)).1
  obtain ⟨G2, g1, g2, g3, g4⟩ := c7_takeOutS (L := L) hS1 hR1 hW hI hi hh h2
  obtain ⟨u1, u2', u3⟩ := chg_HXS hx hr c f1 f2 f3 g1 g2 g3
  refine ⟨u2 G2 X 5 0, r1, q', u1, u2', f3, u2_s _ _ _ _, u3, fun Q => ?_⟩
  simp (disch := first | assumption | exact c2_int _ | exact c2_ref _ | exact c2_jk | exact c2_null | omega | (apply rN1; assumption) | (apply rN2; assumption) | (apply rN3; assumption) | (apply rN4; assumption) | exact bI_r _ | exact bI_01 _) only [↓fX9_strike_0, ↓fX9_strike_1, ↓fX9_strike_4, ↓fX9_strike_5, ↓fX9_strike_8, ↓fX9_strike_8n, ↓fX9_strike_9, ↓fX9_strike_9n, ↓fX9_strike_10, ↓fX9_strike_10r, ↓fX9_strike_13, ↓fX9_strike_14, ↓fX9_strike_15, ↓fX9_strike_18, ↓fX9_strike_19, ↓fX9_strike_19n, ↓fX9_strike_20, ↓fX9_strike_21, ↓fX9_strike_24, ↓fX9_strike_26, ↓fX9_strike_28, ↓fX9_strike_29, ↓fX9_strike_32, ↓fX9_strike_32n, ↓fX9_strike_33, ↓fX9_strike_36, ↓fX9_strike_37, ↓fX9_strike_40, ↓fX9_strike_41, ↓fX9_strike_42, ↓fX9_strike_45, ↓fX9_strike_46, ↓fX9_strike_47, ↓fX9_strike_50, ↓fX9_strike_51, ↓fX9_strike_52, ↓fX9_strike_55, ↓fX9_strike_55n, ↓fX9_strike_56, ↓fX9_strike_57, ↓fX9_strike_60, ↓fX9_strike_61, ↓fX9_strike_63, ↓fX9_strike_66, ↓e1, ↓e2, ↓f6, ↓g4, ↓c9_succeed, hne, e13, h3, and_self, true_and, and_true, false_and, and_false, not_true_eq_false, not_false_eq_true, or_self, true_or, or_true, false_or, or_false, ite_not, Decidable.not_not, decide_eq_true_eq, Bool.not_true, Bool.not_false, Bool.false_eq_true, Bool.not_eq_true, n10, n20, n21, n30, n31, n32, n40, n41, n42, n43, ↓reduceIte]
theorem lkX_6 (f : fr6 G G' (X + 123)) (hg : rgS G' (X + 123)) : lkX G G' X := ⟨fun x hx h2 => f x (by omega), fun j hj => by rw [f X (by omega)], hg⟩
/-- the text that stands in the class -/
def OUC (G : Nat → Nat → Int) (X : Nat) (ys : List Int) : Prop := G (X + 121) 1 = ys.length ∧ (ys.length : Int) ≤ 3600 ∧ ∀ j, j < ys.length → G (X + 121 + 1) j = ys.getD j 0
end BS
