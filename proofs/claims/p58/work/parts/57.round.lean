/-! round, all. -/
section BS
variable {E : AE} {G G' L : Nat → Nat → Int} {r r' : Nat → Nat → Option Nat} {h : AH} {Q : AH → Value → Prop} {X H S n a cl c : Nat} {v y s x d e b w k ki fr by_ ma : Int} {p q : Nat → Nat} {σ τ : Nat → Nat → Int} {kk nn : Nat → Int} {ln : Nat → Nat} {lv : Nat → Nat → Int}
theorem chg_HXS {G1 G2 : Nat → Nat → Int} {r1 : Nat → Nat → Option Nat} {q' : Nat → Nat} {σ1 : Nat → Int} {a' : Nat} {kk' nn' : Nat → Int} {τ' : Nat → Nat → Int} (hx : HXS E r G X p q n σ a kk nn τ) (hr : HXR E G X cl ln lv) (c : 0 ≤ s ∧ s < n) (f1 : SHF E r1 G1 (X + 37) p q' n σ a' kk' nn' τ') (f2 : frH G G1 (X + 37)) (f3 : frR r r1 (X + 37)) (g1 : fr6 G1 G2 (svA X p s)) (g2 : RS G2 (svA X p s) σ1) (g3 : WF σ1) :
    HXS E r1 (u2 G2 X 5 0) X p q' n (fun t => if t = s.toNat then σ1 else σ t) a' kk' nn' τ' ∧ HXR E (u2 G2 X 5 0) X cl ln lv ∧ (∀ x, x < X ∨ (X < x ∧ x < X + 37) ∨ X + 120 < x → u2 G2 X 5 0 x = G x) := by
  have hn := hx.2.1.2.2.2.1.2
  have hp := (hx.2.1.2.1.1 s.toNat (by omega)).2
  have x0 := hx.1.1
  have g1' : ∀ x, ¬ (X + 43 + 6 * p s.toNat ≤ x ∧ x ≤ X + 43 + 6 * p s.toNat + 5) → G2 x = G1 x := fun x hxx => g1 x (by unfold svA; omega)
  have f5 : SHF E r1 G2 (X + 37) p q' n (fun t => if t = s.toNat then σ1 else σ t) a' kk' nn' τ' := SHF_set (s := s.toNat) f1 (by omega) (fun x hxx => g1' x (by omega)) g2 g3
  have fr2 : frH G G2 (X + 37) := f2.trans ⟨fun x hxx => g1' x (by omega), by rw [g1' (X + 37) (by omega)]⟩
  exact ⟨st_HXS (HXS_f hx f5 fr2 f3), st_HXR x0 (HXR_f hr fr2), fun x hxx => by rw [u2_a _ _ _ _ (by omega), fr2.1 x (by omega)]⟩
theorem o_round0 (hx : HXS E r G X p q n σ a kk nn τ) (hs : I32 s) (c : ¬ (0 ≤ s ∧ s < n)) : RK MX9_round 0 [.ref X, .int (zi s), jk, jk] [] (0, 0) (E, zg G, zk L, r) Q = Q (E, zg (u2 G X 5 2), zk L, r) (.int (zi (-1))) := by
  obtain ⟨x0, ⟨x1, x2, x3, x4, x5⟩, -⟩ := hx.1
  have h0 := hx.2.1.1.1
  have e1 := HXS_none (L := L) hx hs c
  simp (disch := first | assumption | exact c2_int _ | exact c2_ref _ | exact c2_jk | exact c2_null | omega | (apply rN1; assumption) | (apply rN2; assumption) | (apply rN3; assumption) | (apply rN4; assumption) | exact bI_r _ | exact bI_01 _) only [↓fX9_round_0, ↓fX9_round_1, ↓fX9_round_4, ↓fX9_round_5, ↓fX9_round_8, ↓fX9_round_8n, ↓fX9_round_9, ↓fX9_round_9n, ↓fX9_round_10, ↓fX9_round_10r, ↓fX9_round_13, ↓fX9_round_14, ↓fX9_round_15, ↓fX9_round_18, ↓fX9_round_19, ↓fX9_round_19n, ↓fX9_round_20, ↓fX9_round_23, ↓fX9_round_24, ↓fX9_round_25, ↓fX9_round_26, ↓fX9_round_29, ↓fX9_round_30, ↓fX9_round_31, ↓fX9_round_34, ↓fX9_round_35, ↓fX9_round_36, ↓fX9_round_39, ↓fX9_round_40, ↓fX9_round_41, ↓fX9_round_44, ↓fX9_round_45, ↓fX9_round_45n, ↓fX9_round_46, ↓fX9_round_47, ↓fX9_round_50, ↓fX9_round_53, ↓e1, ↓c9_fail, and_self, true_and, and_true, false_and, and_false, not_true_eq_false, not_false_eq_true, or_self, true_or, or_true, false_or, or_false, ite_not, Decidable.not_not, decide_eq_true_eq, Bool.not_true, Bool.not_false, Bool.false_eq_true, Bool.not_eq_true, n10, n20, n21, n30, n31, n32, n40, n41, n42, n43, ↓reduceIte]
theorem o_round5 (hx : HXS E r G X p q n σ a kk nn τ) (c : 0 ≤ s ∧ s < n) (hg : ngS (σ s.toNat) = -1) : RK MX9_round 0 [.ref X, .int (zi s), jk, jk] [] (0, 0) (E, zg G, zk L, r) Q = Q (E, zg (u2 G X 5 5), zk L, r) (.int (zi (-1))) := by
  obtain ⟨x0, ⟨x1, x2, x3, x4, x5⟩, -⟩ := hx.1
  have h0 := hx.2.1.1.1
  obtain ⟨hS, hR, hW, e1⟩ := HXS_sv (L := L) hx c
  have s0 := hS.1
  have e2 := fun Q => c7_nextGapS (L := L) (Q := Q) hS hR hW
  rw [hg] at e2
  simp (disch := first | assumption | exact c2_int _ | exact c2_ref _ | exact c2_jk | exact c2_null | omega | (apply rN1; assumption) | (apply rN2; assumption) | (apply rN3; assumption) | (apply rN4; assumption) | exact bI_r _ | exact bI_01 _) only [↓fX9_round_0, ↓fX9_round_1, ↓fX9_round_4, ↓fX9_round_5, ↓fX9_round_8, ↓fX9_round_8n, ↓fX9_round_9, ↓fX9_round_9n, ↓fX9_round_10, ↓fX9_round_10r, ↓fX9_round_13, ↓fX9_round_14, ↓fX9_round_15, ↓fX9_round_18, ↓fX9_round_19, ↓fX9_round_19n, ↓fX9_round_20, ↓fX9_round_23, ↓fX9_round_24, ↓fX9_round_25, ↓fX9_round_26, ↓fX9_round_29, ↓fX9_round_30, ↓fX9_round_31, ↓fX9_round_34, ↓fX9_round_35, ↓fX9_round_36, ↓fX9_round_39, ↓fX9_round_40, ↓fX9_round_41, ↓fX9_round_44, ↓fX9_round_45, ↓fX9_round_45n, ↓fX9_round_46, ↓fX9_round_47, ↓fX9_round_50, ↓fX9_round_53, ↓e1, ↓e2, ↓c9_fail, and_self, true_and, and_true, false_and, and_false, not_true_eq_false, not_false_eq_true, or_self, true_or, or_true, false_or, or_false, ite_not, Decidable.not_not, decide_eq_true_eq, Bool.not_true, Bool.not_false, Bool.false_eq_true, Bool.not_eq_true, n10, n20, n21, n30, n31, n32, n40, n41, n42, n43, ↓reduceIte]
theorem o_round (hx : HXS E r G X p q n σ a kk nn τ) (hr : HXR E G X cl ln lv) (c : 0 ≤ s ∧ s < n) (hg : ngS (σ s.toNat) ≠ -1) :
    ∃ (G' : Nat → Nat → Int) (r' : Nat → Nat → Option Nat) (q' : Nat → Nat), HXS E r' G' X p q' n (fun t => if t = s.toNat then swS (σ s.toNat) (ngS (σ s.toNat)) else σ t) (kpA a) (kpN a kk 0) (kpN a nn s) (kpN a τ (σ s.toNat)) ∧ HXR E G' X cl ln lv ∧ G' X 5 = 0 ∧ (∀ x, x < X ∨ (X < x ∧ x < X + 37) ∨ X + 120 < x → G' x = G x) ∧ ∀ Q, RK MX9_round 0 [.ref X, .int (zi s), jk, jk] [] (0, 0) (E, zg G, zk L, r) Q = Q (E, zg G', zk L, r') (.int (zi (szS (σ s.toNat) - szS (swS (σ s.toNat) (ngS (σ s.toNat)))))) := by
  obtain ⟨x0, ⟨x1, x2, x3, x4, x5⟩, -⟩ := hx.1
  have h0 := hx.2.1.1.1
  obtain ⟨hS, hR, hW, e1⟩ := HXS_sv (L := L) hx c
  have s0 := hS.1
  have e2 := fun Q => c7_nextGapS (L := L) (Q := Q) hS hR hW
  have nb := ngS_ok hW hg
  have hnn := hx.2.1.2.2.2.1.2
  obtain ⟨G1, r1, q', f1, f2, f3, f4, f6⟩ := c6_keepAct (L := L) (kd' := 0) (s := s) hx.2.1 (Or.inl c)
  have hps := (hx.2.1.2.1.1 s.toNat (by omega)).2
  have hS1 : shS E r1 (svA X p s) := f1.1.2.2.2.2.1 (p s.toNat) hps
  have hR1 : RS G1 (svA X p s) (σ s.toNat) := (f1.2.2.2.2.2.1 s.toNat (by omega)).1
  obtain ⟨G2, g1, g2, g3, g4⟩ := c7_sweepS (L := L) hS1 hR1 hW hg
  obtain ⟨u1, u2', u3⟩ := chg_HXS hx hr c f1 f2 f3 g1 g2 g3
  have nI : I32 (ngS (σ s.toNat)) := by
    have := nb.1
    omega
  refine ⟨u2 G2 X 5 0, r1, q', u1, u2', u2_s _ _ _ _, u3, fun Q => ?_⟩
  simp (disch := first | assumption | exact c2_int _ | exact c2_ref _ | exact c2_jk | exact c2_null | omega | (apply rN1; assumption) | (apply rN2; assumption) | (apply rN3; assumption) | (apply rN4; assumption) | exact bI_r _ | exact bI_01 _) only [↓fX9_round_0, ↓fX9_round_1, ↓fX9_round_4, ↓fX9_round_5, ↓fX9_round_8, ↓fX9_round_8n, ↓fX9_round_9, ↓fX9_round_9n, ↓fX9_round_10, ↓fX9_round_10r, ↓fX9_round_13, ↓fX9_round_14, ↓fX9_round_15, ↓fX9_round_18, ↓fX9_round_19, ↓fX9_round_19n, ↓fX9_round_20, ↓fX9_round_23, ↓fX9_round_24, ↓fX9_round_25, ↓fX9_round_26, ↓fX9_round_29, ↓fX9_round_30, ↓fX9_round_31, ↓fX9_round_34, ↓fX9_round_35, ↓fX9_round_36, ↓fX9_round_39, ↓fX9_round_40, ↓fX9_round_41, ↓fX9_round_44, ↓fX9_round_45, ↓fX9_round_45n, ↓fX9_round_46, ↓fX9_round_47, ↓fX9_round_50, ↓fX9_round_53, ↓e1, ↓e2, ↓f6, ↓g4, ↓c9_succeed, hg, and_self, true_and, and_true, false_and, and_false, not_true_eq_false, not_false_eq_true, or_self, true_or, or_true, false_or, or_false, ite_not, Decidable.not_not, decide_eq_true_eq, Bool.not_true, Bool.not_false, Bool.false_eq_true, Bool.not_eq_true, n10, n20, n21, n30, n31, n32, n40, n41, n42, n43, ↓reduceIte]
end BS
