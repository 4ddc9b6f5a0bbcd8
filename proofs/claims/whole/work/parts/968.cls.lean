/-! The class's acts once more, with what they do to the references; strike, guess, out. -/
section BS
variable {E : AE} {G G' L : Nat → Nat → Int} {r r' : Nat → Nat → Option Nat} {h : AH} {Q : AH → Value → Prop} {X H S n a cl c : Nat} {v y s x d e b w k ki fr by_ ma : Int} {p q : Nat → Nat} {σ τ : Nat → Nat → Int} {kk nn : Nat → Int} {ln : Nat → Nat} {lv : Nat → Nat → Int}
theorem w_drop (hx : HXS E r G X p q n σ a kk nn τ) (hr : HXR E G X cl ln lv) (c : 0 ≤ s ∧ s < n) :
    ∃ (G' : Nat → Nat → Int) (r' : Nat → Nat → Option Nat) (p' q' : Nat → Nat), HXS E r' G' X p' q' (n - 1) (rmS σ s.toNat) (kpA a) (kpN a kk 2) (kpN a nn s) (kpN a τ (σ s.toNat)) ∧ HXR E G' X cl ln lv ∧ frR r r' (X + 37) ∧ G' X 5 = 0 ∧ (∀ x, x < X ∨ (X < x ∧ x < X + 37) ∨ X + 120 < x → G' x = G x) ∧ ∀ Q, RK MX9_drop 0 [.ref X, .int (zi s)] [] (0, 0) (E, zg G, zk L, r) Q = Q (E, zg G', zk L, r') (.int (zi ((n : Int) - 1))) := by
  obtain ⟨x0, ⟨x1, x2, x3, x4, x5⟩, -⟩ := hx.1
  have h0 := hx.2.1.1.1
  obtain ⟨-, -, -, e1⟩ := HXS_sv (L := L) hx c
  obtain ⟨G1, r1, q', f1, f2, f3, f4⟩ := c6_remove (L := L) (sN := s.toNat) hx.2.1 (by omega)
  rw [Int.toNat_of_nonneg c.1] at f1 f4
  have hx1 := HXS_f hx f1 f2 f3
  have e3 : G1 (X + 37) 1 = (n : Int) - 1 := by
    rw [f1.2.2.2.1.1]
    omega
  have xx2 := hx1.1.2.1.2.1
  refine ⟨u2 G1 X 5 0, r1, _, q', st_HXS hx1, st_HXR x0 (HXR_f hr f2), f3, u2_s _ _ _ _, fun x hxx => ?_, fun Q => ?_⟩
  · rw [u2_a _ _ _ _ (by omega), f2.1 x (by omega)]
  · simp (disch := first | assumption | exact c2_int _ | exact c2_ref _ | exact c2_jk | exact c2_null | omega | (apply rN1; assumption) | (apply rN2; assumption) | (apply rN3; assumption) | (apply rN4; assumption) | exact bI_r _ | exact bI_01 _) only [↓fX9_drop_0, ↓fX9_drop_1, ↓fX9_drop_4, ↓fX9_drop_5, ↓fX9_drop_8, ↓fX9_drop_8r, ↓fX9_drop_11, ↓fX9_drop_12, ↓fX9_drop_13, ↓fX9_drop_16, ↓fX9_drop_17, ↓fX9_drop_18, ↓fX9_drop_21, ↓fX9_drop_22, ↓fX9_drop_25, ↓fX9_drop_26, ↓fX9_drop_27, ↓fX9_drop_30, ↓fX9_drop_33, ↓fX9_drop_36, ↓e1, ↓f4, ↓c9_succeed, e3, and_self, true_and, and_true, false_and, and_false, not_true_eq_false, not_false_eq_true, or_self, true_or, or_true, false_or, or_false, ite_not, Decidable.not_not, decide_eq_true_eq, Bool.not_true, Bool.not_false, Bool.false_eq_true, Bool.not_eq_true, n10, n20, n21, n30, n31, n32, n40, n41, n42, n43, ↓reduceIte]
theorem w_make (hx : HXS E r G X p q n σ a kk nn τ) (hr : HXR E G X cl ln lv) (h0 : 0 ≤ ki ∧ ki ≤ 3) (h1 : 0 ≤ fr ∧ fr ≤ 999) (h2 : 1 ≤ by_ ∧ by_ ≤ 99) (h3 : 2 ≤ ma ∧ ma ≤ 600) (hn : n < 4) :
    ∃ (G' : Nat → Nat → Int) (r' : Nat → Nat → Option Nat) (q' : Nat → Nat), HXS E r' G' X p q' (n + 1) (fun t => if t = n then nwS ki fr by_ ma 0 (fun _ => 0) else σ t) (kpA a) (kpN a kk 1) (kpN a nn n) (kpN a τ (σ n)) ∧ HXR E G' X cl ln lv ∧ frR r r' (X + 37) ∧ G' X 5 = 0 ∧ (∀ x, x < X ∨ (X < x ∧ x < X + 37) ∨ X + 120 < x → G' x = G x) ∧ ∀ Q, RK MX9_make 0 [.ref X, .int (zi ki), .int (zi fr), .int (zi by_), .int (zi ma), jk] [] (0, 0) (E, zg G, zk L, r) Q = Q (E, zg G', zk L, r') (.int (zi (n : Int))) := by
  obtain ⟨x0, ⟨x1, x2, x3, x4, x5⟩, -⟩ := hx.1
  have hh0 := hx.2.1.1.1
  obtain ⟨G1, r1, q', f1, f2, f3, f4⟩ := c6_add (L := L) hx.2.1 hn
  have hp := (f1.2.1.1 n hn).2
  have hS := f1.1.2.2.2.2.1 (p n) hp
  have g1 : ∀ x, x ≠ X + 37 → u2 G1 (X + 37) 1 ((n : Int) + 1) x = G1 x := fun x hxx => u2_a _ _ _ _ hxx
  obtain ⟨G2, s1, k1, k2, k6, k3, k4, k5, e1⟩ := c7_set (L := L) (ki := ki) (fr := fr) (by_ := by_) (ma := ma) hS (rgS_c (fun x xa xb => g1 x (by omega)) (f1.2.2.2.2.1 n hn)) (by omega) h1 h2 h3
  have g2 : ∀ x, x ≠ X + 37 → ¬ (X + 37 + 6 + 6 * p n ≤ x ∧ x ≤ X + 37 + 6 + 6 * p n + 5) → G2 x = G1 x := fun x xa xb => (s1 x (by omega)).trans (g1 x xa)
  have eH : ∀ j, G2 (X + 37) j = if j = 1 then (n : Int) + 1 else G1 (X + 37) j := fun j => by
    rw [s1 (X + 37) (by omega)]
    show (if X + 37 = X + 37 ∧ j = 1 then _ else _) = _
    simp only [true_and]
  have hR : RS G2 (X + 37 + 6 + 6 * p n) (nwS ki fr by_ ma 0 (fun _ => 0)) := nwS_RS (K := G2) (lim := 0) k1 k2 k3 k4 k5 (fun _ _ _ => rfl) (fun _ _ => rfl) k1.2.2.2.2 (by omega) (k4.2.2.2.2.2.2.2.2.2.1) h3 (fun z => by omega) (fun z => by omega) (fun z => by omega)
  have hW : WF (nwS ki fr by_ ma 0 (fun _ => 0)) := nwS_WF (by omega) h1 h2 h3 (fun z => by omega) (fun z => by omega)
  have f5 := SHF_grow f1 hn g2 (by rw [eH, if_neg (by decide)]) (by rw [eH, if_pos rfl]) hR hW
  have fr2 : frH G G2 (X + 37) := f2.trans ⟨fun x hxx => g2 x (by omega) (by omega), by rw [eH, if_neg (by decide)]⟩
  have hx1 := HXS_f hx f5 fr2 f3
  have xx2 := hx1.1.2.1.2.1
  have s0 := hS.1
  have e3 : G2 (X + 37) 1 - 1 = (n : Int) := by
    rw [eH, if_pos rfl]
    omega
  refine ⟨u2 G2 X 5 0, r1, q', st_HXS hx1, st_HXR x0 (HXR_f hr fr2), f3, u2_s _ _ _ _, fun x hxx => ?_, fun Q => ?_⟩
  · rw [u2_a _ _ _ _ (by omega), fr2.1 x (by omega)]
  · have z0 : (0 ≤ ki ∧ ki ≤ 3) = True := eq_true h0
    have z1 : (0 ≤ fr ∧ fr ≤ 999) = True := eq_true h1
    have z2 : (1 ≤ by_ ∧ by_ ≤ 99) = True := eq_true h2
    have z3 : (2 ≤ ma ∧ ma ≤ 600) = True := eq_true h3
    simp (disch := first | assumption | exact c2_int _ | exact c2_ref _ | exact c2_jk | exact c2_null | omega | (apply rN1; assumption) | (apply rN2; assumption) | (apply rN3; assumption) | (apply rN4; assumption) | exact bI_r _ | exact bI_01 _) only [↓fX9_make_0, ↓fX9_make_1, ↓fX9_make_2, ↓fX9_make_3, ↓fX9_make_6, ↓fX9_make_9, ↓fX9_make_10, ↓fX9_make_11, ↓fX9_make_14, ↓fX9_make_17, ↓fX9_make_20, ↓fX9_make_21, ↓fX9_make_22, ↓fX9_make_25, ↓fX9_make_26, ↓fX9_make_27, ↓fX9_make_28, ↓fX9_make_30, ↓fX9_make_33, ↓fX9_make_36, ↓fX9_make_38, ↓fX9_make_39, ↓fX9_make_42, ↓fX9_make_45, ↓fX9_make_48, ↓fX9_make_49, ↓fX9_make_50, ↓fX9_make_53, ↓fX9_make_54, ↓fX9_make_55, ↓fX9_make_58, ↓fX9_make_61, ↓fX9_make_61n, ↓fX9_make_63, ↓fX9_make_63n, ↓fX9_make_65, ↓fX9_make_65r, ↓fX9_make_68, ↓fX9_make_69, ↓fX9_make_70, ↓fX9_make_73, ↓fX9_make_74, ↓fX9_make_74n, ↓fX9_make_76, ↓fX9_make_77, ↓fX9_make_78, ↓fX9_make_79, ↓fX9_make_81, ↓fX9_make_84, ↓fX9_make_85, ↓fX9_make_86, ↓fX9_make_89, ↓fX9_make_92, ↓fX9_make_93, ↓fX9_make_94, ↓fX9_make_97, ↓c9_within, bI_0, z0, z1, z2, z3, ↓f4, ↓e1, ↓c9_succeed, e3, and_self, true_and, and_true, false_and, and_false, not_true_eq_false, not_false_eq_true, or_self, true_or, or_true, false_or, or_false, ite_not, Decidable.not_not, decide_eq_true_eq, Bool.not_true, Bool.not_false, Bool.false_eq_true, Bool.not_eq_true, n10, n20, n21, n30, n31, n32, n40, n41, n42, n43, ↓reduceIte]
theorem undo_w {G1 : Nat → Nat → Int} {r1 : Nat → Nat → Option Nat} {p1 : Nat → Nat} {n1 : Nat} {σ1 : Nat → Nat → Int} (hx : HXS E r G X p q n σ (c + 1) kk nn τ) (hr : HXR E G X cl ln lv) (f1 : SHF E r1 G1 (X + 37) p1 q n1 σ1 c kk nn τ) (f2 : frH G G1 (X + 37)) (f3 : frR r r1 (X + 37)) (f4 : ∀ Q, RK MX6_goBack 0 [.ref (X + 37), jk, jk, jk, jk] [] (0, 0) (E, zg G, zk L, r) Q = Q (E, zg G1, zk L, r1) .null) :
    ∃ (G' : Nat → Nat → Int) (r' : Nat → Nat → Option Nat) (p' : Nat → Nat), HXS E r' G' X p' q n1 σ1 c kk nn τ ∧ HXR E G' X cl ln lv ∧ frR r r' (X + 37) ∧ G' X 5 = 0 ∧ (∀ x, x < X ∨ (X < x ∧ x < X + 37) ∨ X + 120 < x → G' x = G x) ∧ ∀ Q, RK MX9_undo 0 [.ref X] [] (0, 0) (E, zg G, zk L, r) Q = Q (E, zg G', zk L, r') (.int (zi (c : Int))) := by
  obtain ⟨x0, ⟨x1, x2, x3, x4, x5⟩, -⟩ := hx.1
  have h0 := hx.2.1.1.1
  have a0 := hx.2.1.2.2.2.2.2.2.1
  have a1 : ¬ G (X + 37) 7 = 0 := by omega
  have ar : I32 (G (X + 37) 7) := by omega
  have hx1 := HXS_f hx f1 f2 f3
  have xx2 := hx1.1.2.1.2.1
  have e3 : G1 (X + 37) 7 = c := f1.2.2.2.2.2.2.1.1
  refine ⟨u2 G1 X 5 0, r1, p1, st_HXS hx1, st_HXR x0 (HXR_f hr f2), f3, u2_s _ _ _ _, fun x hxx => ?_, fun Q => ?_⟩
  · rw [u2_a _ _ _ _ (by omega), f2.1 x (by omega)]
  · simp (disch := first | assumption | exact c2_int _ | exact c2_ref _ | exact c2_jk | exact c2_null | omega | (apply rN1; assumption) | (apply rN2; assumption) | (apply rN3; assumption) | (apply rN4; assumption) | exact bI_r _ | exact bI_01 _) only [↓fX9_undo_0, ↓fX9_undo_1, ↓fX9_undo_4, ↓fX9_undo_7, ↓fX9_undo_10, ↓fX9_undo_11, ↓fX9_undo_12, ↓fX9_undo_15, ↓fX9_undo_16, ↓fX9_undo_17, ↓fX9_undo_20, ↓fX9_undo_23, ↓fX9_undo_24, ↓fX9_undo_25, ↓fX9_undo_28, ↓fX9_undo_31, ↓fX9_undo_34, ↓f4, ↓c9_succeed, a1, e3, and_self, true_and, and_true, false_and, and_false, not_true_eq_false, not_false_eq_true, or_self, true_or, or_true, false_or, or_false, ite_not, Decidable.not_not, decide_eq_true_eq, Bool.not_true, Bool.not_false, Bool.false_eq_true, Bool.not_eq_true, n10, n20, n21, n30, n31, n32, n40, n41, n42, n43, ↓reduceIte]
theorem w_undo1 (hx : HXS E r G X p q n σ (c + 1) kk nn τ) (hr : HXR E G X cl ln lv) (hk : kk c = 1) (hn : 1 ≤ n) :
    ∃ (G' : Nat → Nat → Int) (r' : Nat → Nat → Option Nat) (p' : Nat → Nat), HXS E r' G' X p' q (n - 1) σ c kk nn τ ∧ HXR E G' X cl ln lv ∧ frR r r' (X + 37) ∧ G' X 5 = 0 ∧ (∀ x, x < X ∨ (X < x ∧ x < X + 37) ∨ X + 120 < x → G' x = G x) ∧ ∀ Q, RK MX9_undo 0 [.ref X] [] (0, 0) (E, zg G, zk L, r) Q = Q (E, zg G', zk L, r') (.int (zi (c : Int))) := by
  obtain ⟨G1, f1, f2, f4⟩ := c6_goBack1 (L := L) hx.2.1 hk hn
  exact undo_w hx hr f1 f2 (frR.rf r (X + 37)) f4
theorem w_undoC {sN : Nat} (hx : HXS E r G X p q n σ (c + 1) kk nn τ) (hr : HXR E G X cl ln lv) (hk : kk c = 0) (hs : nn c = sN) (hn : sN < n) :
    ∃ (G' : Nat → Nat → Int) (r' : Nat → Nat → Option Nat) (p' : Nat → Nat), HXS E r' G' X p' q n (fun t => if t = sN then τ c else σ t) c kk nn τ ∧ HXR E G' X cl ln lv ∧ frR r r' (X + 37) ∧ G' X 5 = 0 ∧ (∀ x, x < X ∨ (X < x ∧ x < X + 37) ∨ X + 120 < x → G' x = G x) ∧ ∀ Q, RK MX9_undo 0 [.ref X] [] (0, 0) (E, zg G, zk L, r) Q = Q (E, zg G', zk L, r') (.int (zi (c : Int))) := by
  obtain ⟨G1, f1, f2, f4⟩ := c6_goBack0 (L := L) hx.2.1 hk hs hn
  exact undo_w hx hr f1 f2 (frR.rf r (X + 37)) f4
theorem w_undo2 {sN : Nat} (hx : HXS E r G X p q n σ (c + 1) kk nn τ) (hr : HXR E G X cl ln lv) (hk : kk c = 2) (hs : nn c = sN) (hsn : sN ≤ n) (hn : n < 4) :
    ∃ (G' : Nat → Nat → Int) (r' : Nat → Nat → Option Nat) (p' : Nat → Nat), HXS E r' G' X p' q (n + 1) (inS σ sN (τ c)) c kk nn τ ∧ HXR E G' X cl ln lv ∧ frR r r' (X + 37) ∧ G' X 5 = 0 ∧ (∀ x, x < X ∨ (X < x ∧ x < X + 37) ∨ X + 120 < x → G' x = G x) ∧ ∀ Q, RK MX9_undo 0 [.ref X] [] (0, 0) (E, zg G, zk L, r) Q = Q (E, zg G', zk L, r') (.int (zi (c : Int))) := by
  obtain ⟨G1, r1, p1, f1, f2, f3, f4⟩ := c6_goBack2 (L := L) hx.2.1 hk hs hsn hn
  exact undo_w hx hr f1 f2 f3 f4
theorem w_round (hx : HXS E r G X p q n σ a kk nn τ) (hr : HXR E G X cl ln lv) (c : 0 ≤ s ∧ s < n) (hg : ngS (σ s.toNat) ≠ -1) :
    ∃ (G' : Nat → Nat → Int) (r' : Nat → Nat → Option Nat) (q' : Nat → Nat), HXS E r' G' X p q' n (fun t => if t = s.toNat then swS (σ s.toNat) (ngS (σ s.toNat)) else σ t) (kpA a) (kpN a kk 0) (kpN a nn s) (kpN a τ (σ s.toNat)) ∧ HXR E G' X cl ln lv ∧ frR r r' (X + 37) ∧ G' X 5 = 0 ∧ (∀ x, x < X ∨ (X < x ∧ x < X + 37) ∨ X + 120 < x → G' x = G x) ∧ ∀ Q, RK MX9_round 0 [.ref X, .int (zi s), jk, jk] [] (0, 0) (E, zg G, zk L, r) Q = Q (E, zg G', zk L, r') (.int (zi (szS (σ s.toNat) - szS (swS (σ s.toNat) (ngS (σ s.toNat)))))) := by
  obtain ⟨x0, ⟨x1, x2, x3, x4, x5⟩, -⟩ := hx.1
  have h0 := hx.2.1.1.1
  obtain ⟨hS, hR, hW, e1⟩ := HXS_sv (L := L) hx c
  have s0 := hS.1
  have e2 := fun Q => c7_nextGapS (L := L) (Q := Q) hS hR hW
  have nb := ngS_ok hW hg
  have hnn := hx.2.1.2.2.2.1.2
  obtain ⟨G1, r1, q', f1, f2, f3, f4, f6⟩ := c6_keepAct (L := L) (kd' := 0) (s := s) hx.2.1 (Or.inl c)
  have hps := (hx.2.1.2.1.1 s.toNat (by omega)).2
  have hS1 : shS E r1 (svA X p s) := f1.1.2.2.2.2.1 (p s.toNat) hps
  have hR1 : RS G1 (svA X p s) (σ s.toNat) := (f1.2.2.2.2.2.1 s.toNat (by omega)).1
  obtain ⟨G2, g1, g2, g3, g4⟩ := c7_sweepS (L := L) hS1 hR1 hW hg
  obtain ⟨u1, u2', u3⟩ := chg_HXS hx hr c f1 f2 f3 g1 g2 g3
  have nI : I32 (ngS (σ s.toNat)) := by
    have := nb.1
    omega
  refine ⟨u2 G2 X 5 0, r1, q', u1, u2', f3, u2_s _ _ _ _, u3, fun Q => ?_⟩
  simp (disch := first | assumption | exact c2_int _ | exact c2_ref _ | exact c2_jk | exact c2_null | omega | (apply rN1; assumption) | (apply rN2; assumption) | (apply rN3; assumption) | (apply rN4; assumption) | exact bI_r _ | exact bI_01 _) only [↓fX9_round_0, ↓fX9_round_1, ↓fX9_round_4, ↓fX9_round_5, ↓fX9_round_8, ↓fX9_round_8n, ↓fX9_round_9, ↓fX9_round_9n, ↓fX9_round_10, ↓fX9_round_10r, ↓fX9_round_13, ↓fX9_round_14, ↓fX9_round_15, ↓fX9_round_18, ↓fX9_round_19, ↓fX9_round_19n, ↓fX9_round_20, ↓fX9_round_23, ↓fX9_round_24, ↓fX9_round_25, ↓fX9_round_26, ↓fX9_round_29, ↓fX9_round_30, ↓fX9_round_31, ↓fX9_round_34, ↓fX9_round_35, ↓fX9_round_36, ↓fX9_round_39, ↓fX9_round_40, ↓fX9_round_41, ↓fX9_round_44, ↓fX9_round_45, ↓fX9_round_45n, ↓fX9_round_46, ↓fX9_round_47, ↓fX9_round_50, ↓fX9_round_53, ↓e1, ↓e2, ↓f6, ↓g4, ↓c9_succeed, hg, and_self, true_and, and_true, false_and, and_false, not_true_eq_false, not_false_eq_true, or_self, true_or, or_true, false_or, or_false, ite_not, Decidable.not_not, decide_eq_true_eq, Bool.not_true, Bool.not_false, Bool.false_eq_true, Bool.not_eq_true, n10, n20, n21, n30, n31, n32, n40, n41, n42, n43, ↓reduceIte]
theorem w_all (hx : HXS E r G X p q n σ a kk nn τ) (hr : HXR E G X cl ln lv) (c : 0 ≤ s ∧ s < n) (hg : ngS (σ s.toNat) ≠ -1) :
    ∃ (G' : Nat → Nat → Int) (r' : Nat → Nat → Option Nat) (q' : Nat → Nat), HXS E r' G' X p q' n (fun t => if t = s.toNat then (smS 600 (σ s.toNat)).1 else σ t) (kpA a) (kpN a kk 0) (kpN a nn s) (kpN a τ (σ s.toNat)) ∧ HXR E G' X cl ln lv ∧ frR r r' (X + 37) ∧ G' X 5 = 0 ∧ (∀ x, x < X ∨ (X < x ∧ x < X + 37) ∨ X + 120 < x → G' x = G x) ∧ ∀ Q, RK MX9_all 0 [.ref X, .int (zi s), jk] [] (0, 0) (E, zg G, zk L, r) Q = Q (E, zg G', zk L, r') (.int (zi (smS 600 (σ s.toNat)).2)) := by
  obtain ⟨x0, ⟨x1, x2, x3, x4, x5⟩, -⟩ := hx.1
  have h0 := hx.2.1.1.1
  obtain ⟨hS, hR, hW, e1⟩ := HXS_sv (L := L) hx c
  have s0 := hS.1
  have e2 := fun Q => c7_nextGapS (L := L) (Q := Q) hS hR hW
  have nb := ngS_ok hW hg
  have hnn := hx.2.1.2.2.2.1.2
  obtain ⟨G1, r1, q', f1, f2, f3, f4, f6⟩ := c6_keepAct (L := L) (kd' := 0) (s := s) hx.2.1 (Or.inl c)
  have hps := (hx.2.1.2.1.1 s.toNat (by omega)).2
  have hS1 : shS E r1 (svA X p s) := f1.1.2.2.2.2.1 (p s.toNat) hps
  have hR1 : RS G1 (svA X p s) (σ s.toNat) := (f1.2.2.2.2.2.1 s.toNat (by omega)).1
  obtain ⟨G2, g1, g2, g3, g4⟩ := c7_sweepAtMost (L := L) (m := 600) hS1 hR1 hW (by omega)
  have g4' : ∀ Q, RK MX7_sweepAtMost 0 [.ref (svA X p s), .int (zi 600), jk, jk] [] (0, 0) (E, zg G1, zk L, r1) Q = Q (E, zg G2, zk L, r1) (.int (zi (smS 600 (σ s.toNat)).2)) := g4
  obtain ⟨u1, u2', u3⟩ := chg_HXS hx hr c f1 f2 f3 g1 g2 g3
  have nI : I32 (ngS (σ s.toNat)) := by
    have := nb.1
    omega
  refine ⟨u2 G2 X 5 0, r1, q', u1, u2', f3, u2_s _ _ _ _, u3, fun Q => ?_⟩
  simp (disch := first | assumption | exact c2_int _ | exact c2_ref _ | exact c2_jk | exact c2_null | omega | (apply rN1; assumption) | (apply rN2; assumption) | (apply rN3; assumption) | (apply rN4; assumption) | exact bI_r _ | exact bI_01 _) only [↓fX9_all_0, ↓fX9_all_1, ↓fX9_all_4, ↓fX9_all_5, ↓fX9_all_8, ↓fX9_all_8n, ↓fX9_all_9, ↓fX9_all_9n, ↓fX9_all_10, ↓fX9_all_10r, ↓fX9_all_13, ↓fX9_all_14, ↓fX9_all_15, ↓fX9_all_18, ↓fX9_all_19, ↓fX9_all_19n, ↓fX9_all_20, ↓fX9_all_23, ↓fX9_all_24, ↓fX9_all_27, ↓fX9_all_28, ↓fX9_all_29, ↓fX9_all_32, ↓fX9_all_33, ↓fX9_all_34, ↓fX9_all_37, ↓fX9_all_38, ↓fX9_all_39, ↓fX9_all_42, ↓fX9_all_43, ↓fX9_all_43n, ↓fX9_all_44, ↓fX9_all_47, ↓fX9_all_50, ↓fX9_all_53, ↓e1, ↓e2, ↓f6, ↓g4', ↓c9_succeed, hg, and_self, true_and, and_true, false_and, and_false, not_true_eq_false, not_false_eq_true, or_self, true_or, or_true, false_or, or_false, ite_not, Decidable.not_not, decide_eq_true_eq, Bool.not_true, Bool.not_false, Bool.false_eq_true, Bool.not_eq_true, n10, n20, n21, n30, n31, n32, n40, n41, n42, n43, ↓reduceIte]
theorem w_longer (hx : HXS E r G X p q n σ a kk nn τ) (hr : HXR E G X cl ln lv) (hy : 2 ≤ y ∧ y ≤ 600) (c : 0 ≤ s ∧ s < n) (hm : σ s.toNat 3 ≠ y) :
    ∃ (G' : Nat → Nat → Int) (r' : Nat → Nat → Option Nat) (q' : Nat → Nat), HXS E r' G' X p q' n (fun t => if t = s.toNat then (smS (σ s.toNat 4).toNat (bgS (σ s.toNat) y)).1 else σ t) (kpA a) (kpN a kk 0) (kpN a nn s) (kpN a τ (σ s.toNat)) ∧ HXR E G' X cl ln lv ∧ frR r r' (X + 37) ∧ G' X 5 = 0 ∧ (∀ x, x < X ∨ (X < x ∧ x < X + 37) ∨ X + 120 < x → G' x = G x) ∧ ∀ Q, RK MX9_longer 0 [.ref X, .int (zi s), .int (zi y), jk] [] (0, 0) (E, zg G, zk L, r) Q = Q (E, zg G', zk L, r') (.int (zi (szS (smS (σ s.toNat 4).toNat (bgS (σ s.toNat) y)).1))) := by
  obtain ⟨x0, ⟨x1, x2, x3, x4, x5⟩, -⟩ := hx.1
  have h0 := hx.2.1.1.1
  obtain ⟨hS, hR, hW, e1⟩ := HXS_sv (L := L) hx c
  have s0 := hS.1
  have hnn := hx.2.1.2.2.2.1.2
  obtain ⟨G1, r1, q', f1, f2, f3, f4, f6⟩ := c6_keepAct (L := L) (kd' := 0) (s := s) hx.2.1 (Or.inl c)
  have hps := (hx.2.1.2.1.1 s.toNat (by omega)).2
  have hS1 : shS E r1 (svA X p s) := f1.1.2.2.2.2.1 (p s.toNat) hps
  have hR1 : RS G1 (svA X p s) (σ s.toNat) := (f1.2.2.2.2.2.1 s.toNat (by omega)).1
  obtain ⟨G2, g1, g2, g3, g4⟩ := c7_resizeS (L := L) (m := y) hS1 hR1 hW hy
  obtain ⟨u1, u2', u3⟩ := chg_HXS hx hr c f1 f2 f3 g1 g2 g3
  have w3 := hW.2.2.2.1
  have e3 : G (svA X p s) 3 = σ s.toNat 3 := hR.2.2.1.2.2.2.1
  have z4 : (σ s.toNat 3 = y) = False := eq_false hm
  have z : (2 ≤ y ∧ y ≤ 600) = True := eq_true hy
  have e13 : G2 (svA X p s) 13 = szS (smS (σ s.toNat 4).toNat (bgS (σ s.toNat) y)).1 := RS_sz g2 g3
  refine ⟨u2 G2 X 5 0, r1, q', u1, u2', f3, u2_s _ _ _ _, u3, fun Q => ?_⟩
  simp (disch := first | assumption | exact c2_int _ | exact c2_ref _ | exact c2_jk | exact c2_null | omega | (apply rN1; assumption) | (apply rN2; assumption) | (apply rN3; assumption) | (apply rN4; assumption) | exact bI_r _ | exact bI_01 _) only [↓fX9_longer_0, ↓fX9_longer_1, ↓fX9_longer_2, ↓fX9_longer_5, ↓fX9_longer_8, ↓fX9_longer_11, ↓fX9_longer_12, ↓fX9_longer_13, ↓fX9_longer_16, ↓fX9_longer_17, ↓fX9_longer_18, ↓fX9_longer_21, ↓fX9_longer_22, ↓fX9_longer_25, ↓fX9_longer_25n, ↓fX9_longer_26, ↓fX9_longer_26n, ↓fX9_longer_27, ↓fX9_longer_27r, ↓fX9_longer_30, ↓fX9_longer_31, ↓fX9_longer_32, ↓fX9_longer_35, ↓fX9_longer_36, ↓fX9_longer_36n, ↓fX9_longer_37, ↓fX9_longer_40, ↓fX9_longer_41, ↓fX9_longer_44, ↓fX9_longer_45, ↓fX9_longer_46, ↓fX9_longer_49, ↓fX9_longer_50, ↓fX9_longer_51, ↓fX9_longer_54, ↓fX9_longer_55, ↓fX9_longer_56, ↓fX9_longer_59, ↓fX9_longer_59n, ↓fX9_longer_60, ↓fX9_longer_61, ↓fX9_longer_64, ↓fX9_longer_65, ↓fX9_longer_65n, ↓fX9_longer_66, ↓fX9_longer_69, ↓fX9_longer_72, ↓c9_within, ↓e1, ↓f6, ↓g4, ↓c9_succeed, bI_0, z, e3, z4, e13, and_self, true_and, and_true, false_and, and_false, not_true_eq_false, not_false_eq_true, or_self, true_or, or_true, false_or, or_false, ite_not, Decidable.not_not, decide_eq_true_eq, Bool.not_true, Bool.not_false, Bool.false_eq_true, Bool.not_eq_true, n10, n20, n21, n30, n31, n32, n40, n41, n42, n43, ↓reduceIte]
theorem w_make1 (hx : HXS E r G X p q n σ a kk nn τ) (hki : I32 ki) (hfr : I32 fr) (hby : I32 by_) (hma : I32 ma) (c : mkBad ki fr by_ ma) : RK MX9_make 0 [.ref X, .int (zi ki), .int (zi fr), .int (zi by_), .int (zi ma), jk] [] (0, 0) (E, zg G, zk L, r) Q = Q (E, zg (u2 G X 5 1), zk L, r) (.int (zi (-1))) := by
  obtain ⟨x0, ⟨x1, x2, x3, x4, x5⟩, -⟩ := hx.1
  have h0 := hx.2.1.1.1
  by_cases c1 : 0 ≤ ki ∧ ki ≤ 3
  · have z1 : (0 ≤ ki ∧ ki ≤ 3) = True := eq_true c1
    by_cases c2 : 0 ≤ fr ∧ fr ≤ 999
    · have z2 : (0 ≤ fr ∧ fr ≤ 999) = True := eq_true c2
      by_cases c3 : 1 ≤ by_ ∧ by_ ≤ 99
      · have z3 : (1 ≤ by_ ∧ by_ ≤ 99) = True := eq_true c3
        have z4 : (2 ≤ ma ∧ ma ≤ 600) = False := eq_false fun z => c ⟨c1, c2, c3, z⟩
        simp (disch := first | assumption | exact c2_int _ | exact c2_ref _ | exact c2_jk | exact c2_null | omega | (apply rN1; assumption) | (apply rN2; assumption) | (apply rN3; assumption) | (apply rN4; assumption) | exact bI_r _ | exact bI_01 _) only [↓fX9_make_0, ↓fX9_make_1, ↓fX9_make_2, ↓fX9_make_3, ↓fX9_make_6, ↓fX9_make_9, ↓fX9_make_10, ↓fX9_make_11, ↓fX9_make_14, ↓fX9_make_17, ↓fX9_make_20, ↓fX9_make_21, ↓fX9_make_22, ↓fX9_make_25, ↓fX9_make_26, ↓fX9_make_27, ↓fX9_make_28, ↓fX9_make_30, ↓fX9_make_33, ↓fX9_make_36, ↓fX9_make_38, ↓fX9_make_39, ↓fX9_make_42, ↓fX9_make_45, ↓fX9_make_48, ↓fX9_make_49, ↓fX9_make_50, ↓fX9_make_53, ↓fX9_make_54, ↓fX9_make_55, ↓fX9_make_58, ↓fX9_make_61, ↓fX9_make_61n, ↓fX9_make_63, ↓fX9_make_63n, ↓fX9_make_65, ↓fX9_make_65r, ↓fX9_make_68, ↓fX9_make_69, ↓fX9_make_70, ↓fX9_make_73, ↓fX9_make_74, ↓fX9_make_74n, ↓fX9_make_76, ↓fX9_make_77, ↓fX9_make_78, ↓fX9_make_79, ↓fX9_make_81, ↓fX9_make_84, ↓fX9_make_85, ↓fX9_make_86, ↓fX9_make_89, ↓fX9_make_92, ↓fX9_make_93, ↓fX9_make_94, ↓fX9_make_97, ↓c9_within, bI_0, z1, z2, z3, z4, ↓c9_fail, and_self, true_and, and_true, false_and, and_false, not_true_eq_false, not_false_eq_true, or_self, true_or, or_true, false_or, or_false, ite_not, Decidable.not_not, decide_eq_true_eq, Bool.not_true, Bool.not_false, Bool.false_eq_true, Bool.not_eq_true, n10, n20, n21, n30, n31, n32, n40, n41, n42, n43, ↓reduceIte]
      · have z3 : (1 ≤ by_ ∧ by_ ≤ 99) = False := eq_false c3
        simp (disch := first | assumption | exact c2_int _ | exact c2_ref _ | exact c2_jk | exact c2_null | omega | (apply rN1; assumption) | (apply rN2; assumption) | (apply rN3; assumption) | (apply rN4; assumption) | exact bI_r _ | exact bI_01 _) only [↓fX9_make_0, ↓fX9_make_1, ↓fX9_make_2, ↓fX9_make_3, ↓fX9_make_6, ↓fX9_make_9, ↓fX9_make_10, ↓fX9_make_11, ↓fX9_make_14, ↓fX9_make_17, ↓fX9_make_20, ↓fX9_make_21, ↓fX9_make_22, ↓fX9_make_25, ↓fX9_make_26, ↓fX9_make_27, ↓fX9_make_28, ↓fX9_make_30, ↓fX9_make_33, ↓fX9_make_36, ↓fX9_make_38, ↓fX9_make_39, ↓fX9_make_42, ↓fX9_make_45, ↓fX9_make_48, ↓fX9_make_49, ↓fX9_make_50, ↓fX9_make_53, ↓fX9_make_54, ↓fX9_make_55, ↓fX9_make_58, ↓fX9_make_61, ↓fX9_make_61n, ↓fX9_make_63, ↓fX9_make_63n, ↓fX9_make_65, ↓fX9_make_65r, ↓fX9_make_68, ↓fX9_make_69, ↓fX9_make_70, ↓fX9_make_73, ↓fX9_make_74, ↓fX9_make_74n, ↓fX9_make_76, ↓fX9_make_77, ↓fX9_make_78, ↓fX9_make_79, ↓fX9_make_81, ↓fX9_make_84, ↓fX9_make_85, ↓fX9_make_86, ↓fX9_make_89, ↓fX9_make_92, ↓fX9_make_93, ↓fX9_make_94, ↓fX9_make_97, ↓c9_within, bI_0, z1, z2, z3, ↓c9_fail, and_self, true_and, and_true, false_and, and_false, not_true_eq_false, not_false_eq_true, or_self, true_or, or_true, false_or, or_false, ite_not, Decidable.not_not, decide_eq_true_eq, Bool.not_true, Bool.not_false, Bool.false_eq_true, Bool.not_eq_true, n10, n20, n21, n30, n31, n32, n40, n41, n42, n43, ↓reduceIte]
    · have z2 : (0 ≤ fr ∧ fr ≤ 999) = False := eq_false c2
      simp (disch := first | assumption | exact c2_int _ | exact c2_ref _ | exact c2_jk | exact c2_null | omega | (apply rN1; assumption) | (apply rN2; assumption) | (apply rN3; assumption) | (apply rN4; assumption) | exact bI_r _ | exact bI_01 _) only [↓fX9_make_0, ↓fX9_make_1, ↓fX9_make_2, ↓fX9_make_3, ↓fX9_make_6, ↓fX9_make_9, ↓fX9_make_10, ↓fX9_make_11, ↓fX9_make_14, ↓fX9_make_17, ↓fX9_make_20, ↓fX9_make_21, ↓fX9_make_22, ↓fX9_make_25, ↓fX9_make_26, ↓fX9_make_27, ↓fX9_make_28, ↓fX9_make_30, ↓fX9_make_33, ↓fX9_make_36, ↓fX9_make_38, ↓fX9_make_39, ↓fX9_make_42, ↓fX9_make_45, ↓fX9_make_48, ↓fX9_make_49, ↓fX9_make_50, ↓fX9_make_53, ↓fX9_make_54, ↓fX9_make_55, ↓fX9_make_58, ↓fX9_make_61, ↓fX9_make_61n, ↓fX9_make_63, ↓fX9_make_63n, ↓fX9_make_65, ↓fX9_make_65r, ↓fX9_make_68, ↓fX9_make_69, ↓fX9_make_70, ↓fX9_make_73, ↓fX9_make_74, ↓fX9_make_74n, ↓fX9_make_76, ↓fX9_make_77, ↓fX9_make_78, ↓fX9_make_79, ↓fX9_make_81, ↓fX9_make_84, ↓fX9_make_85, ↓fX9_make_86, ↓fX9_make_89, ↓fX9_make_92, ↓fX9_make_93, ↓fX9_make_94, ↓fX9_make_97, ↓c9_within, bI_0, z1, z2, ↓c9_fail, and_self, true_and, and_true, false_and, and_false, not_true_eq_false, not_false_eq_true, or_self, true_or, or_true, false_or, or_false, ite_not, Decidable.not_not, decide_eq_true_eq, Bool.not_true, Bool.not_false, Bool.false_eq_true, Bool.not_eq_true, n10, n20, n21, n30, n31, n32, n40, n41, n42, n43, ↓reduceIte]
  · have z1 : (0 ≤ ki ∧ ki ≤ 3) = False := eq_false c1
    simp (disch := first | assumption | exact c2_int _ | exact c2_ref _ | exact c2_jk | exact c2_null | omega | (apply rN1; assumption) | (apply rN2; assumption) | (apply rN3; assumption) | (apply rN4; assumption) | exact bI_r _ | exact bI_01 _) only [↓fX9_make_0, ↓fX9_make_1, ↓fX9_make_2, ↓fX9_make_3, ↓fX9_make_6, ↓fX9_make_9, ↓fX9_make_10, ↓fX9_make_11, ↓fX9_make_14, ↓fX9_make_17, ↓fX9_make_20, ↓fX9_make_21, ↓fX9_make_22, ↓fX9_make_25, ↓fX9_make_26, ↓fX9_make_27, ↓fX9_make_28, ↓fX9_make_30, ↓fX9_make_33, ↓fX9_make_36, ↓fX9_make_38, ↓fX9_make_39, ↓fX9_make_42, ↓fX9_make_45, ↓fX9_make_48, ↓fX9_make_49, ↓fX9_make_50, ↓fX9_make_53, ↓fX9_make_54, ↓fX9_make_55, ↓fX9_make_58, ↓fX9_make_61, ↓fX9_make_61n, ↓fX9_make_63, ↓fX9_make_63n, ↓fX9_make_65, ↓fX9_make_65r, ↓fX9_make_68, ↓fX9_make_69, ↓fX9_make_70, ↓fX9_make_73, ↓fX9_make_74, ↓fX9_make_74n, ↓fX9_make_76, ↓fX9_make_77, ↓fX9_make_78, ↓fX9_make_79, ↓fX9_make_81, ↓fX9_make_84, ↓fX9_make_85, ↓fX9_make_86, ↓fX9_make_89, ↓fX9_make_92, ↓fX9_make_93, ↓fX9_make_94, ↓fX9_make_97, ↓c9_within, bI_0, z1, ↓c9_fail, and_self, true_and, and_true, false_and, and_false, not_true_eq_false, not_false_eq_true, or_self, true_or, or_true, false_or, or_false, ite_not, Decidable.not_not, decide_eq_true_eq, Bool.not_true, Bool.not_false, Bool.false_eq_true, Bool.not_eq_true, n10, n20, n21, n30, n31, n32, n40, n41, n42, n43, ↓reduceIte]
theorem w_make3 (hx : HXS E r G X p q 4 σ a kk nn τ) (h0 : 0 ≤ ki ∧ ki ≤ 3) (h1 : 0 ≤ fr ∧ fr ≤ 999) (h2 : 1 ≤ by_ ∧ by_ ≤ 99) (h3 : 2 ≤ ma ∧ ma ≤ 600) : RK MX9_make 0 [.ref X, .int (zi ki), .int (zi fr), .int (zi by_), .int (zi ma), jk] [] (0, 0) (E, zg G, zk L, r) Q = Q (E, zg (u2 G X 5 3), zk L, r) (.int (zi (-1))) := by
  obtain ⟨x0, ⟨x1, x2, x3, x4, x5⟩, -⟩ := hx.1
  have h0' := hx.2.1.1.1
  have xr0 := hx.2.1.1.2.2.2.1.1
  have xk1 := hx.2.1.1.2.1.1
  have xl1 := hx.2.1.1.2.2.1.1
  have n1 : G (X + 37) 1 = 4 := hx.2.1.2.2.2.1.1
  have z0 : (0 ≤ ki ∧ ki ≤ 3) = True := eq_true h0
  have z1 : (0 ≤ fr ∧ fr ≤ 999) = True := eq_true h1
  have z2 : (1 ≤ by_ ∧ by_ ≤ 99) = True := eq_true h2
  have z3 : (2 ≤ ma ∧ ma ≤ 600) = True := eq_true h3
  have ad : ∀ Q, RK MX6_add 0 [.ref (X + 37)] [] (0, 0) (E, zg G, zk L, r) Q = Q (E, zg G, zk L, r) .null := fun Q => by
    simp (disch := first | assumption | exact c2_int _ | exact c2_ref _ | exact c2_jk | exact c2_null | omega | (apply rN1; assumption) | (apply rN2; assumption) | (apply rN3; assumption) | (apply rN4; assumption) | exact bI_r _ | exact bI_01 _) only [↓fX6_add_0, ↓fX6_add_1, ↓fX6_add_4, ↓fX6_add_5, ↓fX6_add_8, ↓fX6_add_9, ↓fX6_add_9n, ↓fX6_add_10, ↓fX6_add_11, ↓fX6_add_12, ↓fX6_add_13, ↓fX6_add_16, ↓fX6_add_19, ↓fX6_add_20, ↓fX6_add_21, ↓fX6_add_24, ↓fX6_add_25, ↓fX6_add_26, ↓fX6_add_29, ↓fX6_add_30, ↓fX6_add_31, ↓fX6_add_34, ↓fX6_add_35, ↓fX6_add_36, ↓fX6_add_39, ↓fX6_add_39n, n1, xr0, xk1, xl1, and_self, true_and, and_true, false_and, and_false, not_true_eq_false, not_false_eq_true, or_self, true_or, or_true, false_or, or_false, ite_not, Decidable.not_not, decide_eq_true_eq, Bool.not_true, Bool.not_false, Bool.false_eq_true, Bool.not_eq_true, n10, n20, n21, n30, n31, n32, n40, n41, n42, n43, ↓reduceIte]
    try rfl
  simp (disch := first | assumption | exact c2_int _ | exact c2_ref _ | exact c2_jk | exact c2_null | omega | (apply rN1; assumption) | (apply rN2; assumption) | (apply rN3; assumption) | (apply rN4; assumption) | exact bI_r _ | exact bI_01 _) only [↓fX9_make_0, ↓fX9_make_1, ↓fX9_make_2, ↓fX9_make_3, ↓fX9_make_6, ↓fX9_make_9, ↓fX9_make_10, ↓fX9_make_11, ↓fX9_make_14, ↓fX9_make_17, ↓fX9_make_20, ↓fX9_make_21, ↓fX9_make_22, ↓fX9_make_25, ↓fX9_make_26, ↓fX9_make_27, ↓fX9_make_28, ↓fX9_make_30, ↓fX9_make_33, ↓fX9_make_36, ↓fX9_make_38, ↓fX9_make_39, ↓fX9_make_42, ↓fX9_make_45, ↓fX9_make_48, ↓fX9_make_49, ↓fX9_make_50, ↓fX9_make_53, ↓fX9_make_54, ↓fX9_make_55, ↓fX9_make_58, ↓fX9_make_61, ↓fX9_make_61n, ↓fX9_make_63, ↓fX9_make_63n, ↓fX9_make_65, ↓fX9_make_65r, ↓fX9_make_68, ↓fX9_make_69, ↓fX9_make_70, ↓fX9_make_73, ↓fX9_make_74, ↓fX9_make_74n, ↓fX9_make_76, ↓fX9_make_77, ↓fX9_make_78, ↓fX9_make_79, ↓fX9_make_81, ↓fX9_make_84, ↓fX9_make_85, ↓fX9_make_86, ↓fX9_make_89, ↓fX9_make_92, ↓fX9_make_93, ↓fX9_make_94, ↓fX9_make_97, ↓c9_within, bI_0, z0, z1, z2, z3, ↓ad, ↓c9_fail, and_self, true_and, and_true, false_and, and_false, not_true_eq_false, not_false_eq_true, or_self, true_or, or_true, false_or, or_false, ite_not, Decidable.not_not, decide_eq_true_eq, Bool.not_true, Bool.not_false, Bool.false_eq_true, Bool.not_eq_true, n10, n20, n21, n30, n31, n32, n40, n41, n42, n43, ↓reduceIte]
theorem w_strike2 (hx : HXS E r G X p q n σ a kk nn τ) (hs : I32 s) (c : ¬ (0 ≤ s ∧ s < n)) : RK MX9_strike 0 [.ref X, .int (zi s), .int (zi x), jk, jk] [] (0, 0) (E, zg G, zk L, r) Q = Q (E, zg (u2 G X 5 2), zk L, r) (.int (zi (-1))) := by
  obtain ⟨x0, ⟨x1, x2, x3, x4, x5⟩, -⟩ := hx.1
  have h0 := hx.2.1.1.1
  have e1 := HXS_none (L := L) hx hs c
  simp (disch := first | assumption | exact c2_int _ | exact c2_ref _ | exact c2_jk | exact c2_null | omega | (apply rN1; assumption) | (apply rN2; assumption) | (apply rN3; assumption) | (apply rN4; assumption) | exact bI_r _ | exact bI_01 _) only [↓fX9_strike_0, ↓fX9_strike_1, ↓fX9_strike_4, ↓fX9_strike_5, ↓fX9_strike_8, ↓fX9_strike_8n, ↓fX9_strike_9, ↓fX9_strike_9n, ↓fX9_strike_10, ↓fX9_strike_10r, ↓fX9_strike_13, ↓fX9_strike_14, ↓fX9_strike_15, ↓fX9_strike_18, ↓fX9_strike_19, ↓fX9_strike_19n, ↓fX9_strike_20, ↓fX9_strike_21, ↓fX9_strike_24, ↓fX9_strike_26, ↓fX9_strike_28, ↓fX9_strike_29, ↓fX9_strike_32, ↓fX9_strike_32n, ↓fX9_strike_33, ↓fX9_strike_36, ↓fX9_strike_37, ↓fX9_strike_40, ↓fX9_strike_41, ↓fX9_strike_42, ↓fX9_strike_45, ↓fX9_strike_46, ↓fX9_strike_47, ↓fX9_strike_50, ↓fX9_strike_51, ↓fX9_strike_52, ↓fX9_strike_55, ↓fX9_strike_55n, ↓fX9_strike_56, ↓fX9_strike_57, ↓fX9_strike_60, ↓fX9_strike_61, ↓fX9_strike_63, ↓fX9_strike_66, ↓e1, ↓c9_fail, and_self, true_and, and_true, false_and, and_false, not_true_eq_false, not_false_eq_true, or_self, true_or, or_true, false_or, or_false, ite_not, Decidable.not_not, decide_eq_true_eq, Bool.not_true, Bool.not_false, Bool.false_eq_true, Bool.not_eq_true, n10, n20, n21, n30, n31, n32, n40, n41, n42, n43, ↓reduceIte]
theorem w_strike5 (hx : HXS E r G X p q n σ a kk nn τ) (hI : I32 x) (c : 0 ≤ s ∧ s < n) (hn : hasS (σ s.toNat) x = false ∨ szS (σ s.toNat) < 2) : RK MX9_strike 0 [.ref X, .int (zi s), .int (zi x), jk, jk] [] (0, 0) (E, zg G, zk L, r) Q = Q (E, zg (u2 G X 5 5), zk L, r) (.int (zi (-1))) := by
  obtain ⟨x0, ⟨x1, x2, x3, x4, x5⟩, -⟩ := hx.1
  have h0 := hx.2.1.1.1
  obtain ⟨hS, hR, hW, e1⟩ := HXS_sv (L := L) hx c
  have s0 := hS.1
  have e2 : ∀ Q, RK MX7_placeOf 0 [.ref (svA X p s), .int (zi x)] [] (0, 0) (E, zg G, zk L, r) Q = Q (E, zg G, zk L, r) (.int (zi (poZ (σ s.toNat) x))) := fun Q => by
    rw [c7_placeOf hS hR.1 hI, ← RS_po hR hW]
    rfl
  have pb := poZ_b (x := x) hW
  have zb := szS_b hW
  have e13 : G (svA X p s) 13 = szS (σ s.toNat) := RS_sz hR hW
  by_cases h1 : poZ (σ s.toNat) x = -1
  · simp (disch := first | assumption | exact c2_int _ | exact c2_ref _ | exact c2_jk | exact c2_null | omega | (apply rN1; assumption) | (apply rN2; assumption) | (apply rN3; assumption) | (apply rN4; assumption) | exact bI_r _ | exact bI_01 _) only [↓fX9_strike_0, ↓fX9_strike_1, ↓fX9_strike_4, ↓fX9_strike_5, ↓fX9_strike_8, ↓fX9_strike_8n, ↓fX9_strike_9, ↓fX9_strike_9n, ↓fX9_strike_10, ↓fX9_strike_10r, ↓fX9_strike_13, ↓fX9_strike_14, ↓fX9_strike_15, ↓fX9_strike_18, ↓fX9_strike_19, ↓fX9_strike_19n, ↓fX9_strike_20, ↓fX9_strike_21, ↓fX9_strike_24, ↓fX9_strike_26, ↓fX9_strike_28, ↓fX9_strike_29, ↓fX9_strike_32, ↓fX9_strike_32n, ↓fX9_strike_33, ↓fX9_strike_36, ↓fX9_strike_37, ↓fX9_strike_40, ↓fX9_strike_41, ↓fX9_strike_42, ↓fX9_strike_45, ↓fX9_strike_46, ↓fX9_strike_47, ↓fX9_strike_50, ↓fX9_strike_51, ↓fX9_strike_52, ↓fX9_strike_55, ↓fX9_strike_55n, ↓fX9_strike_56, ↓fX9_strike_57, ↓fX9_strike_60, ↓fX9_strike_61, ↓fX9_strike_63, ↓fX9_strike_66, ↓e1, ↓e2, ↓c9_fail, h1, and_self, true_and, and_true, false_and, and_false, not_true_eq_false, not_false_eq_true, or_self, true_or, or_true, false_or, or_false, ite_not, Decidable.not_not, decide_eq_true_eq, Bool.not_true, Bool.not_false, Bool.false_eq_true, Bool.not_eq_true, n10, n20, n21, n30, n31, n32, n40, n41, n42, n43, ↓reduceIte]
  · have h2 : szS (σ s.toNat) < 2 := by
      rcases hn with z | z
      · exact absurd (show poZ (σ s.toNat) x = -1 by unfold poZ; rw [z]; rfl) h1
      · exact z
    simp (disch := first | assumption | exact c2_int _ | exact c2_ref _ | exact c2_jk | exact c2_null | omega | (apply rN1; assumption) | (apply rN2; assumption) | (apply rN3; assumption) | (apply rN4; assumption) | exact bI_r _ | exact bI_01 _) only [↓fX9_strike_0, ↓fX9_strike_1, ↓fX9_strike_4, ↓fX9_strike_5, ↓fX9_strike_8, ↓fX9_strike_8n, ↓fX9_strike_9, ↓fX9_strike_9n, ↓fX9_strike_10, ↓fX9_strike_10r, ↓fX9_strike_13, ↓fX9_strike_14, ↓fX9_strike_15, ↓fX9_strike_18, ↓fX9_strike_19, ↓fX9_strike_19n, ↓fX9_strike_20, ↓fX9_strike_21, ↓fX9_strike_24, ↓fX9_strike_26, ↓fX9_strike_28, ↓fX9_strike_29, ↓fX9_strike_32, ↓fX9_strike_32n, ↓fX9_strike_33, ↓fX9_strike_36, ↓fX9_strike_37, ↓fX9_strike_40, ↓fX9_strike_41, ↓fX9_strike_42, ↓fX9_strike_45, ↓fX9_strike_46, ↓fX9_strike_47, ↓fX9_strike_50, ↓fX9_strike_51, ↓fX9_strike_52, ↓fX9_strike_55, ↓fX9_strike_55n, ↓fX9_strike_56, ↓fX9_strike_57, ↓fX9_strike_60, ↓fX9_strike_61, ↓fX9_strike_63, ↓fX9_strike_66, ↓e1, ↓e2, ↓c9_fail, h1, e13, h2, and_self, true_and, and_true, false_and, and_false, not_true_eq_false, not_false_eq_true, or_self, true_or, or_true, false_or, or_false, ite_not, Decidable.not_not, decide_eq_true_eq, Bool.not_true, Bool.not_false, Bool.false_eq_true, Bool.not_eq_true, n10, n20, n21, n30, n31, n32, n40, n41, n42, n43, ↓reduceIte]
theorem w_strike (hx : HXS E r G X p q n σ a kk nn τ) (hr : HXR E G X cl ln lv) (hI : I32 x) (c : 0 ≤ s ∧ s < n) {i0 : Nat} (hi : iXS (σ s.toNat) x = i0) (hh : hbS (σ s.toNat) i0 = true) (h2 : 2 ≤ szS (σ s.toNat)) :
    ∃ (G' : Nat → Nat → Int) (r' : Nat → Nat → Option Nat) (q' : Nat → Nat), HXS E r' G' X p q' n (fun t => if t = s.toNat then hdS (σ s.toNat) i0 else σ t) (kpA a) (kpN a kk 0) (kpN a nn s) (kpN a τ (σ s.toNat)) ∧ HXR E G' X cl ln lv ∧ frR r r' (X + 37) ∧ G' X 5 = 0 ∧ (∀ x, x < X ∨ (X < x ∧ x < X + 37) ∨ X + 120 < x → G' x = G x) ∧ ∀ Q, RK MX9_strike 0 [.ref X, .int (zi s), .int (zi x), jk, jk] [] (0, 0) (E, zg G, zk L, r) Q = Q (E, zg G', zk L, r') (.int (zi (poZ (σ s.toNat) x))) := by
  obtain ⟨x0, ⟨x1, x2, x3, x4, x5⟩, -⟩ := hx.1
  have h0 := hx.2.1.1.1
  obtain ⟨hS, hR, hW, e1⟩ := HXS_sv (L := L) hx c
  have s0 := hS.1
  have hnn := hx.2.1.2.2.2.1.2
  have e2 : ∀ Q, RK MX7_placeOf 0 [.ref (svA X p s), .int (zi x)] [] (0, 0) (E, zg G, zk L, r) Q = Q (E, zg G, zk L, r) (.int (zi (poZ (σ s.toNat) x))) := fun Q => by
    rw [c7_placeOf hS hR.1 hI, ← RS_po hR hW]
    rfl
  have pb := poZ_b (x := x) hW
  have e13 : G (svA X p s) 13 = szS (σ s.toNat) := RS_sz hR hW
  have h1 : hasS (σ s.toNat) x = true := by
    rw [hasS_hb (by omega), hi]
    exact hh
  obtain ⟨q0, q1, q2, q3, -⟩ := hasS_p hW h1
  have eq : poZ (σ s.toNat) x = q0 := by rw [← q3]; exact poZ_at hW ⟨q1, q2⟩
  have hne : ¬ poZ (σ s.toNat) x = -1 := by omega
  have zb := szS_b hW
  have h3 : ¬ szS (σ s.toNat) < 2 := by omega
  obtain ⟨G1, r1, q', f1, f2, f3, f4, f6⟩ := c6_keepAct (L := L) (kd' := 0) (s := s) hx.2.1 (Or.inl c)
  have hps := (hx.2.1.2.1.1 s.toNat (by omega)).2
  have hS1 : shS E r1 (svA X p s) := f1.1.2.2.2.2.1 (p s.toNat) hps
  have hR1 : RS G1 (svA X p s) (σ s.toNat) := (f1.2.2.2.2.2.1 s.toNat (by omega)).1
  obtain ⟨G2, g1, g2, g3, g4⟩ := c7_takeOutS (L := L) hS1 hR1 hW hI hi hh h2
  obtain ⟨u1, u2', u3⟩ := chg_HXS hx hr c f1 f2 f3 g1 g2 g3
  refine ⟨u2 G2 X 5 0, r1, q', u1, u2', f3, u2_s _ _ _ _, u3, fun Q => ?_⟩
  simp (disch := first | assumption | exact c2_int _ | exact c2_ref _ | exact c2_jk | exact c2_null | omega | (apply rN1; assumption) | (apply rN2; assumption) | (apply rN3; assumption) | (apply rN4; assumption) | exact bI_r _ | exact bI_01 _) only [↓fX9_strike_0, ↓fX9_strike_1, ↓fX9_strike_4, ↓fX9_strike_5, ↓fX9_strike_8, ↓fX9_strike_8n, ↓fX9_strike_9, ↓fX9_strike_9n, ↓fX9_strike_10, ↓fX9_strike_10r, ↓fX9_strike_13, ↓fX9_strike_14, ↓fX9_strike_15, ↓fX9_strike_18, ↓fX9_strike_19, ↓fX9_strike_19n, ↓fX9_strike_20, ↓fX9_strike_21, ↓fX9_strike_24, ↓fX9_strike_26, ↓fX9_strike_28, ↓fX9_strike_29, ↓fX9_strike_32, ↓fX9_strike_32n, ↓fX9_strike_33, ↓fX9_strike_36, ↓fX9_strike_37, ↓fX9_strike_40, ↓fX9_strike_41, ↓fX9_strike_42, ↓fX9_strike_45, ↓fX9_strike_46, ↓fX9_strike_47, ↓fX9_strike_50, ↓fX9_strike_51, ↓fX9_strike_52, ↓fX9_strike_55, ↓fX9_strike_55n, ↓fX9_strike_56, ↓fX9_strike_57, ↓fX9_strike_60, ↓fX9_strike_61, ↓fX9_strike_63, ↓fX9_strike_66, ↓e1, ↓e2, ↓f6, ↓g4, ↓c9_succeed, hne, e13, h3, and_self, true_and, and_true, false_and, and_false, not_true_eq_false, not_false_eq_true, or_self, true_or, or_true, false_or, or_false, ite_not, Decidable.not_not, decide_eq_true_eq, Bool.not_true, Bool.not_false, Bool.false_eq_true, Bool.not_eq_true, n10, n20, n21, n30, n31, n32, n40, n41, n42, n43, ↓reduceIte]
theorem lkX_6 (f : fr6 G G' (X + 123)) (hg : rgS G' (X + 123)) : lkX G G' X := ⟨fun x hx h2 => f x (by omega), fun j hj => by rw [f X (by omega)], hg⟩
theorem gu_loop (hs : 0 ≤ s ∧ s < cl) : ∀ (k t : Nat) (G : Nat → Nat → Int) (l4 : Value), c2 l4 = false → t + k = 4 → HXS E r G X p q n σ a kk nn τ → HXR E G X cl ln lv → ∃ G1, fr6 G G1 (X + 123) ∧ rgS G1 (X + 123) ∧ ∀ Q, RK MX9_guess 21 [.ref X, .int (zi s), .ref (X + 67 + 2 * s.toNat), .int (zi (t : Int)), l4] [] (0, 0) (E, zg G, zk L, r) Q = Q (E, zg (u2 G1 X 5 (ans (guZ σ (ln s.toNat) (lv s.toNat) n k t)).1), zk L, r) (.int (zi (guZ σ (ln s.toNat) (lv s.toNat) n k t))) := by
  intro k
  induction k with
  | zero =>
    intro t G l4 hl4 ht hx hr
    obtain ⟨x0, ⟨x1, x2, x3, x4, x5⟩, xD, xP, xS, xT⟩ := id hx.1
    have h0 := hx.2.1.1.1
    have n1 := hx.2.1.2.2.2.1
    have z : ¬ (t : Int) < n := by omega
    refine ⟨G, fun _ _ => rfl, hx.2.2, fun Q => ?_⟩
    have eg : guZ σ (ln s.toNat) (lv s.toNat) n 0 t = -1 := rfl
    rw [eg]
    simp (disch := first | assumption | exact c2_int _ | exact c2_ref _ | exact c2_jk | exact c2_null | omega | (apply rN1; assumption) | (apply rN2; assumption) | (apply rN3; assumption) | (apply rN4; assumption) | exact bI_r _ | exact bI_01 _) only [↓fX9_guess_0, ↓fX9_guess_1, ↓fX9_guess_4, ↓fX9_guess_5, ↓fX9_guess_8, ↓fX9_guess_8n, ↓fX9_guess_9, ↓fX9_guess_9n, ↓fX9_guess_10, ↓fX9_guess_10r, ↓fX9_guess_13, ↓fX9_guess_14, ↓fX9_guess_15, ↓fX9_guess_18, ↓fX9_guess_19, ↓fX9_guess_20, ↓fX9_guess_21, ↓fX9_guess_22, ↓fX9_guess_23, ↓fX9_guess_26, ↓fX9_guess_29, ↓fX9_guess_32, ↓fX9_guess_33, ↓fX9_guess_36, ↓fX9_guess_37, ↓fX9_guess_40, ↓fX9_guess_40n, ↓fX9_guess_42, ↓fX9_guess_42n, ↓fX9_guess_44, ↓fX9_guess_44r, ↓fX9_guess_47, ↓fX9_guess_50, ↓fX9_guess_51, ↓fX9_guess_51n, ↓fX9_guess_53, ↓fX9_guess_56, ↓fX9_guess_56n, ↓fX9_guess_57, ↓fX9_guess_58, ↓fX9_guess_61, ↓fX9_guess_64, ↓fX9_guess_67, ↓fX9_guess_68, ↓fX9_guess_69, ↓fX9_guess_72, ↓fX9_guess_73, ↓fX9_guess_76, ↓fX9_guess_79, ↓fX9_guess_80, ↓fX9_guess_81, ↓fX9_guess_84, n1.1, z, ↓c9_fail, and_self, true_and, and_true, false_and, and_false, not_true_eq_false, not_false_eq_true, or_self, true_or, or_true, false_or, or_false, ite_not, Decidable.not_not, decide_eq_true_eq, Bool.not_true, Bool.not_false, Bool.false_eq_true, Bool.not_eq_true, n10, n20, n21, n30, n31, n32, n40, n41, n42, n43, ↓reduceIte]
    rfl
  | succ k ih =>
    intro t G l4 hl4 ht hx hr
    obtain ⟨x0, ⟨x1, x2, x3, x4, x5⟩, xD, xP, xS, xT⟩ := id hx.1
    have h0 := hx.2.1.1.1
    have n1 := hx.2.1.2.2.2.1
    by_cases z : t < n
    · have z' : (t : Int) < n := by omega
      have c : 0 ≤ (t : Int) ∧ (t : Int) < n := ⟨by omega, z'⟩
      obtain ⟨hS, hR, hW, e1⟩ := HXS_sv (L := L) hx c
      have s0 := hS.1
      have hp := (hx.2.1.2.1.1 t (by omega)).2
      obtain ⟨G1, f1, R1, W1, t1⟩ := c9_finishTrial (L := L) hx.1 hS hx.2.2 hR hW (by unfold svA; rw [Int.toNat_natCast]; omega)
      rw [Int.toNat_natCast] at R1 W1
      have lk1 := lkX_6 f1 R1.1
      have hx1 := lkX_HXS hx lk1
      have hr1 := lkX_HXR x0 hr lk1
      obtain ⟨hl, hlg, hl1, hl2, hl3, hl4', e2⟩ := HXS_li (L := L) hx1 hr1 hs
      have t0 := hl.1
      have e5 := fun Q => c2_stands (L := L) (Q := Q) hl hlg xS R1.1
      have et : stT2 G1 (X + 67 + 2 * s.toNat) (X + 123) = tgtZ (ln s.toNat) (lv s.toNat) (smS 600 (σ t)).1 := by unfold stT2 tgtZ; rw [hl4', hl1, RS_po R1 W1, RS_nA R1 W1]
      rw [et] at e5
      by_cases w : tgtZ (ln s.toNat) (lv s.toNat) (smS 600 (σ t)).1 = true
      · have eg : guZ σ (ln s.toNat) (lv s.toNat) n (k + 1) t = (t : Int) := by rw [guZ, if_pos z, if_pos w]
        rw [eg]
        have ea : ans (t : Int) = (0, (t : Int)) := by
          unfold ans
          rw [if_neg (by omega)]
        rw [ea]
        refine ⟨G1, f1, R1.1, fun Q => ?_⟩
        simp (disch := first | assumption | exact c2_int _ | exact c2_ref _ | exact c2_jk | exact c2_null | omega | (apply rN1; assumption) | (apply rN2; assumption) | (apply rN3; assumption) | (apply rN4; assumption) | exact bI_r _ | exact bI_01 _) only [↓fX9_guess_0, ↓fX9_guess_1, ↓fX9_guess_4, ↓fX9_guess_5, ↓fX9_guess_8, ↓fX9_guess_8n, ↓fX9_guess_9, ↓fX9_guess_9n, ↓fX9_guess_10, ↓fX9_guess_10r, ↓fX9_guess_13, ↓fX9_guess_14, ↓fX9_guess_15, ↓fX9_guess_18, ↓fX9_guess_19, ↓fX9_guess_20, ↓fX9_guess_21, ↓fX9_guess_22, ↓fX9_guess_23, ↓fX9_guess_26, ↓fX9_guess_29, ↓fX9_guess_32, ↓fX9_guess_33, ↓fX9_guess_36, ↓fX9_guess_37, ↓fX9_guess_40, ↓fX9_guess_40n, ↓fX9_guess_42, ↓fX9_guess_42n, ↓fX9_guess_44, ↓fX9_guess_44r, ↓fX9_guess_47, ↓fX9_guess_50, ↓fX9_guess_51, ↓fX9_guess_51n, ↓fX9_guess_53, ↓fX9_guess_56, ↓fX9_guess_56n, ↓fX9_guess_57, ↓fX9_guess_58, ↓fX9_guess_61, ↓fX9_guess_64, ↓fX9_guess_67, ↓fX9_guess_68, ↓fX9_guess_69, ↓fX9_guess_72, ↓fX9_guess_73, ↓fX9_guess_76, ↓fX9_guess_79, ↓fX9_guess_80, ↓fX9_guess_81, ↓fX9_guess_84, n1.1, z', ↓e1, ↓t1, ↓e5, bI_p w, ↓c9_succeed, and_self, true_and, and_true, false_and, and_false, not_true_eq_false, not_false_eq_true, or_self, true_or, or_true, false_or, or_false, ite_not, Decidable.not_not, decide_eq_true_eq, Bool.not_true, Bool.not_false, Bool.false_eq_true, Bool.not_eq_true, n10, n20, n21, n30, n31, n32, n40, n41, n42, n43, ↓reduceIte]
      · have eg : guZ σ (ln s.toNat) (lv s.toNat) n (k + 1) t = guZ σ (ln s.toNat) (lv s.toNat) n k (t + 1) := by rw [guZ, if_pos z, if_neg w]
        rw [eg]
        obtain ⟨G2, f2, R2, e6⟩ := ih (t + 1) G1 (.ref (svA X p (t : Int))) (c2_ref _) (by omega) hx1 hr1
        refine ⟨G2, f1.trans f2, R2, fun Q => ?_⟩
        rw [← e6 Q, Int.natCast_add, fX9_guess_21]
        simp (disch := first | assumption | exact c2_int _ | exact c2_ref _ | exact c2_jk | exact c2_null | omega | (apply rN1; assumption) | (apply rN2; assumption) | (apply rN3; assumption) | (apply rN4; assumption) | exact bI_r _ | exact bI_01 _) only [↓fX9_guess_0, ↓fX9_guess_1, ↓fX9_guess_4, ↓fX9_guess_5, ↓fX9_guess_8, ↓fX9_guess_8n, ↓fX9_guess_9, ↓fX9_guess_9n, ↓fX9_guess_10, ↓fX9_guess_10r, ↓fX9_guess_13, ↓fX9_guess_14, ↓fX9_guess_15, ↓fX9_guess_18, ↓fX9_guess_19, ↓fX9_guess_20, ↓fX9_guess_22, ↓fX9_guess_23, ↓fX9_guess_26, ↓fX9_guess_29, ↓fX9_guess_32, ↓fX9_guess_33, ↓fX9_guess_36, ↓fX9_guess_37, ↓fX9_guess_40, ↓fX9_guess_40n, ↓fX9_guess_42, ↓fX9_guess_42n, ↓fX9_guess_44, ↓fX9_guess_44r, ↓fX9_guess_47, ↓fX9_guess_50, ↓fX9_guess_51, ↓fX9_guess_51n, ↓fX9_guess_53, ↓fX9_guess_56, ↓fX9_guess_56n, ↓fX9_guess_57, ↓fX9_guess_58, ↓fX9_guess_61, ↓fX9_guess_64, ↓fX9_guess_67, ↓fX9_guess_68, ↓fX9_guess_69, ↓fX9_guess_72, ↓fX9_guess_73, ↓fX9_guess_76, ↓fX9_guess_79, ↓fX9_guess_80, ↓fX9_guess_81, ↓fX9_guess_84, n1.1, z', ↓e1, ↓t1, ↓e5, bI_n w, and_self, true_and, and_true, false_and, and_false, not_true_eq_false, not_false_eq_true, or_self, true_or, or_true, false_or, or_false, ite_not, Decidable.not_not, decide_eq_true_eq, Bool.not_true, Bool.not_false, Bool.false_eq_true, Bool.not_eq_true, n10, n20, n21, n30, n31, n32, n40, n41, n42, n43, ↓reduceIte]
        rfl
    · have z' : ¬ (t : Int) < n := by omega
      have eg : guZ σ (ln s.toNat) (lv s.toNat) n (k + 1) t = -1 := by rw [guZ, if_neg z]
      rw [eg]
      refine ⟨G, fun _ _ => rfl, hx.2.2, fun Q => ?_⟩
      simp (disch := first | assumption | exact c2_int _ | exact c2_ref _ | exact c2_jk | exact c2_null | omega | (apply rN1; assumption) | (apply rN2; assumption) | (apply rN3; assumption) | (apply rN4; assumption) | exact bI_r _ | exact bI_01 _) only [↓fX9_guess_0, ↓fX9_guess_1, ↓fX9_guess_4, ↓fX9_guess_5, ↓fX9_guess_8, ↓fX9_guess_8n, ↓fX9_guess_9, ↓fX9_guess_9n, ↓fX9_guess_10, ↓fX9_guess_10r, ↓fX9_guess_13, ↓fX9_guess_14, ↓fX9_guess_15, ↓fX9_guess_18, ↓fX9_guess_19, ↓fX9_guess_20, ↓fX9_guess_21, ↓fX9_guess_22, ↓fX9_guess_23, ↓fX9_guess_26, ↓fX9_guess_29, ↓fX9_guess_32, ↓fX9_guess_33, ↓fX9_guess_36, ↓fX9_guess_37, ↓fX9_guess_40, ↓fX9_guess_40n, ↓fX9_guess_42, ↓fX9_guess_42n, ↓fX9_guess_44, ↓fX9_guess_44r, ↓fX9_guess_47, ↓fX9_guess_50, ↓fX9_guess_51, ↓fX9_guess_51n, ↓fX9_guess_53, ↓fX9_guess_56, ↓fX9_guess_56n, ↓fX9_guess_57, ↓fX9_guess_58, ↓fX9_guess_61, ↓fX9_guess_64, ↓fX9_guess_67, ↓fX9_guess_68, ↓fX9_guess_69, ↓fX9_guess_72, ↓fX9_guess_73, ↓fX9_guess_76, ↓fX9_guess_79, ↓fX9_guess_80, ↓fX9_guess_81, ↓fX9_guess_84, n1.1, z', ↓c9_fail, and_self, true_and, and_true, false_and, and_false, not_true_eq_false, not_false_eq_true, or_self, true_or, or_true, false_or, or_false, ite_not, Decidable.not_not, decide_eq_true_eq, Bool.not_true, Bool.not_false, Bool.false_eq_true, Bool.not_eq_true, n10, n20, n21, n30, n31, n32, n40, n41, n42, n43, ↓reduceIte]
      rfl
theorem x_guess (hx : HXS E r G X p q n σ a kk nn τ) (hr : HXR E G X cl ln lv) (hs : I32 s) : ∃ G', lkX G G' X ∧ G' X 5 = (onS (false) cl s (ans (guZ σ (ln s.toNat) (lv s.toNat) n 4 0))).1 ∧ ∀ Q, RK MX9_guess 0 [.ref X, .int (zi s), jk, jk, jk] [] (0, 0) (E, zg G, zk L, r) Q = Q (E, zg G', zk L, r) (.int (zi (onS (false) cl s (ans (guZ σ (ln s.toNat) (lv s.toNat) n 4 0))).2)) := by
  obtain ⟨x0, ⟨x1, x2, x3, x4, x5⟩, xD, xP, xS, xT⟩ := id hx.1
  have h0 := hx.2.1.1.1
  have cb : onS (false) cl s (ans (guZ σ (ln s.toNat) (lv s.toNat) n 4 0)) = if 0 ≤ s ∧ s < cl then (ans (guZ σ (ln s.toNat) (lv s.toNat) n 4 0)) else (2, -1) := if_neg (by decide)
  rw [cb]
  by_cases c : 0 ≤ s ∧ s < cl
  · rw [if_pos c]
    obtain ⟨hl, hlg, hl1, hl2, hl3, hl4', e2⟩ := HXS_li (L := L) hx hr c
    obtain ⟨G1, f1, R1, e3⟩ := gu_loop (L := L) c 4 0 G jk c2_jk rfl hx hr
    refine ⟨_, lkX_fr f1 R1 (ans (guZ σ (ln s.toNat) (lv s.toNat) n 4 0)).1, u2_s _ _ _ _, fun Q => ?_⟩
    have e3' : RK MX9_guess 21 [.ref X, .int (zi s), .ref (X + 67 + 2 * s.toNat), .int (zi 0), jk] [] (0, 0) (E, zg G, zk L, r) Q = _ := e3 Q
    simp (disch := first | assumption | exact c2_int _ | exact c2_ref _ | exact c2_jk | exact c2_null | omega | (apply rN1; assumption) | (apply rN2; assumption) | (apply rN3; assumption) | (apply rN4; assumption) | exact bI_r _ | exact bI_01 _) only [↓fX9_guess_0, ↓fX9_guess_1, ↓fX9_guess_4, ↓fX9_guess_5, ↓fX9_guess_8, ↓fX9_guess_8n, ↓fX9_guess_9, ↓fX9_guess_9n, ↓fX9_guess_10, ↓fX9_guess_10r, ↓fX9_guess_13, ↓fX9_guess_14, ↓fX9_guess_15, ↓fX9_guess_18, ↓fX9_guess_19, ↓fX9_guess_20, ↓fX9_guess_22, ↓fX9_guess_23, ↓fX9_guess_26, ↓fX9_guess_29, ↓fX9_guess_32, ↓fX9_guess_33, ↓fX9_guess_36, ↓fX9_guess_37, ↓fX9_guess_40, ↓fX9_guess_40n, ↓fX9_guess_42, ↓fX9_guess_42n, ↓fX9_guess_44, ↓fX9_guess_44r, ↓fX9_guess_47, ↓fX9_guess_50, ↓fX9_guess_51, ↓fX9_guess_51n, ↓fX9_guess_53, ↓fX9_guess_56, ↓fX9_guess_56n, ↓fX9_guess_57, ↓fX9_guess_58, ↓fX9_guess_61, ↓fX9_guess_64, ↓fX9_guess_67, ↓fX9_guess_68, ↓fX9_guess_69, ↓fX9_guess_72, ↓fX9_guess_73, ↓fX9_guess_76, ↓fX9_guess_79, ↓fX9_guess_80, ↓fX9_guess_81, ↓fX9_guess_84, ↓e2, and_self, true_and, and_true, false_and, and_false, not_true_eq_false, not_false_eq_true, or_self, true_or, or_true, false_or, or_false, ite_not, Decidable.not_not, decide_eq_true_eq, Bool.not_true, Bool.not_false, Bool.false_eq_true, Bool.not_eq_true, n10, n20, n21, n30, n31, n32, n40, n41, n42, n43, ↓reduceIte]
    exact e3'
  · rw [if_neg c]
    have e2 := HXS_li0 (L := L) hx hr hs c
    exact ⟨u2 G X 5 2, lkX_st hx.2.2 2, u2_s _ _ _ _, fun Q => by simp (disch := first | assumption | exact c2_int _ | exact c2_ref _ | exact c2_jk | exact c2_null | omega | (apply rN1; assumption) | (apply rN2; assumption) | (apply rN3; assumption) | (apply rN4; assumption) | exact bI_r _ | exact bI_01 _) only [↓fX9_guess_0, ↓fX9_guess_1, ↓fX9_guess_4, ↓fX9_guess_5, ↓fX9_guess_8, ↓fX9_guess_8n, ↓fX9_guess_9, ↓fX9_guess_9n, ↓fX9_guess_10, ↓fX9_guess_10r, ↓fX9_guess_13, ↓fX9_guess_14, ↓fX9_guess_15, ↓fX9_guess_18, ↓fX9_guess_19, ↓fX9_guess_20, ↓fX9_guess_21, ↓fX9_guess_22, ↓fX9_guess_23, ↓fX9_guess_26, ↓fX9_guess_29, ↓fX9_guess_32, ↓fX9_guess_33, ↓fX9_guess_36, ↓fX9_guess_37, ↓fX9_guess_40, ↓fX9_guess_40n, ↓fX9_guess_42, ↓fX9_guess_42n, ↓fX9_guess_44, ↓fX9_guess_44r, ↓fX9_guess_47, ↓fX9_guess_50, ↓fX9_guess_51, ↓fX9_guess_51n, ↓fX9_guess_53, ↓fX9_guess_56, ↓fX9_guess_56n, ↓fX9_guess_57, ↓fX9_guess_58, ↓fX9_guess_61, ↓fX9_guess_64, ↓fX9_guess_67, ↓fX9_guess_68, ↓fX9_guess_69, ↓fX9_guess_72, ↓fX9_guess_73, ↓fX9_guess_76, ↓fX9_guess_79, ↓fX9_guess_80, ↓fX9_guess_81, ↓fX9_guess_84, ↓e2, ↓c9_fail, and_self, true_and, and_true, false_and, and_false, not_true_eq_false, not_false_eq_true, or_self, true_or, or_true, false_or, or_false, ite_not, Decidable.not_not, decide_eq_true_eq, Bool.not_true, Bool.not_false, Bool.false_eq_true, Bool.not_eq_true, n10, n20, n21, n30, n31, n32, n40, n41, n42, n43, ↓reduceIte]⟩
/-- the text that stands in the class -/
def OUC (G : Nat → Nat → Int) (X : Nat) (ys : List Int) : Prop := G (X + 121) 1 = ys.length ∧ (ys.length : Int) ≤ 3600 ∧ ∀ j, j < ys.length → G (X + 121 + 1) j = ys.getD j 0
theorem x_out (hx : HXS E r G X p q n σ a kk nn τ) {ys : List Int} (hO : OUC G X ys) (hI : I32 x) (hy : ∀ j, j < ys.length → 0 ≤ ys.getD j 0) (hy2 : ∀ j, j < ys.length → ys.getD j 0 ≤ 1000) : ∃ G', lkX G G' X ∧ G' X 5 = (if x < 0 then 1 else if x < ys.length then 0 else 5) ∧ ∀ Q, RK MX9_out 0 [.ref X, .int (zi x)] [] (0, 0) (E, zg G, zk L, r) Q = Q (E, zg G', zk L, r) (.int (zi (if x < 0 then -1 else if x < ys.length then ys.getD x.toNat 0 else -1))) := by
  obtain ⟨x0, ⟨x1, x2, x3, x4, x5⟩, xD, xP, xS, xT⟩ := id hx.1
  obtain ⟨p0, p1, p2, p3⟩ := id xP
  obtain ⟨o1, o2, o3⟩ := hO
  have hgt := hx.2.2
  by_cases c1 : x < 0
  · rw [if_pos c1, if_pos c1]
    refine ⟨u2 G X 5 1, lkX_st hgt 1, u2_s _ _ _ _, fun Q => ?_⟩
    simp (disch := first | assumption | exact c2_int _ | exact c2_ref _ | exact c2_jk | exact c2_null | omega | (apply rN1; assumption) | (apply rN2; assumption) | (apply rN3; assumption) | (apply rN4; assumption) | exact bI_r _ | exact bI_01 _) only [↓fX9_out_0, ↓fX9_out_1, ↓fX9_out_4, ↓fX9_out_5, ↓fX9_out_6, ↓fX9_out_9, ↓fX9_out_10, ↓fX9_out_11, ↓fX9_out_12, ↓fX9_out_15, ↓fX9_out_18, ↓fX9_out_21, ↓fX9_out_22, ↓fX9_out_23, ↓fX9_out_26, ↓fX9_out_29, ↓fX9_out_30, ↓fX9_out_33, ↓fX9_out_36, ↓fX9_out_39, ↓fX9_out_40, ↓fX9_out_41, ↓fX9_out_44, ↓c9_fail, c1, and_self, true_and, and_true, false_and, and_false, not_true_eq_false, not_false_eq_true, or_self, true_or, or_true, false_or, or_false, ite_not, Decidable.not_not, decide_eq_true_eq, Bool.not_true, Bool.not_false, Bool.false_eq_true, Bool.not_eq_true, n10, n20, n21, n30, n31, n32, n40, n41, n42, n43, ↓reduceIte]
  · rw [if_neg c1, if_neg c1]
    by_cases c2 : x < ys.length
    · rw [if_pos c2, if_pos c2]
      have v1 := hy x.toNat (by omega)
      have v2 := hy2 x.toNat (by omega)
      have ea : ∀ Q, RK MX9_at 0 [.ref (X + 121 + 1), .int (zi x)] [] (0, 0) (E, zg G, zk L, r) Q = Q (E, zg G, zk L, r) (.int (zi (ys.getD x.toNat 0))) := fun Q => by
        rw [c9_at p1 (by rw [p2]; decide) hI]
        unfold cAt
        rw [if_pos (by rw [p2]; omega), o3 _ (by omega)]
      have eb : ansG G X (ys.getD x.toNat 0) = u2 G X 5 0 := by
        unfold ansG
        rw [if_neg (by omega)]
      refine ⟨u2 G X 5 0, lkX_st hgt 0, u2_s _ _ _ _, fun Q => ?_⟩
      simp (disch := first | assumption | exact c2_int _ | exact c2_ref _ | exact c2_jk | exact c2_null | omega | (apply rN1; assumption) | (apply rN2; assumption) | (apply rN3; assumption) | (apply rN4; assumption) | exact bI_r _ | exact bI_01 _) only [↓fX9_out_0, ↓fX9_out_1, ↓fX9_out_4, ↓fX9_out_5, ↓fX9_out_6, ↓fX9_out_9, ↓fX9_out_10, ↓fX9_out_11, ↓fX9_out_12, ↓fX9_out_15, ↓fX9_out_18, ↓fX9_out_21, ↓fX9_out_22, ↓fX9_out_23, ↓fX9_out_26, ↓fX9_out_29, ↓fX9_out_30, ↓fX9_out_33, ↓fX9_out_36, ↓fX9_out_39, ↓fX9_out_40, ↓fX9_out_41, ↓fX9_out_44, ↓ea, ↓c9_answer, eb, o1, c1, c2, and_self, true_and, and_true, false_and, and_false, not_true_eq_false, not_false_eq_true, or_self, true_or, or_true, false_or, or_false, ite_not, Decidable.not_not, decide_eq_true_eq, Bool.not_true, Bool.not_false, Bool.false_eq_true, Bool.not_eq_true, n10, n20, n21, n30, n31, n32, n40, n41, n42, n43, ↓reduceIte]
    · rw [if_neg c2, if_neg c2]
      refine ⟨u2 G X 5 5, lkX_st hgt 5, u2_s _ _ _ _, fun Q => ?_⟩
      simp (disch := first | assumption | exact c2_int _ | exact c2_ref _ | exact c2_jk | exact c2_null | omega | (apply rN1; assumption) | (apply rN2; assumption) | (apply rN3; assumption) | (apply rN4; assumption) | exact bI_r _ | exact bI_01 _) only [↓fX9_out_0, ↓fX9_out_1, ↓fX9_out_4, ↓fX9_out_5, ↓fX9_out_6, ↓fX9_out_9, ↓fX9_out_10, ↓fX9_out_11, ↓fX9_out_12, ↓fX9_out_15, ↓fX9_out_18, ↓fX9_out_21, ↓fX9_out_22, ↓fX9_out_23, ↓fX9_out_26, ↓fX9_out_29, ↓fX9_out_30, ↓fX9_out_33, ↓fX9_out_36, ↓fX9_out_39, ↓fX9_out_40, ↓fX9_out_41, ↓fX9_out_44, ↓c9_fail, o1, c1, c2, and_self, true_and, and_true, false_and, and_false, not_true_eq_false, not_false_eq_true, or_self, true_or, or_true, false_or, or_false, ite_not, Decidable.not_not, decide_eq_true_eq, Bool.not_true, Bool.not_false, Bool.false_eq_true, Bool.not_eq_true, n10, n20, n21, n30, n31, n32, n40, n41, n42, n43, ↓reduceIte]
end BS
