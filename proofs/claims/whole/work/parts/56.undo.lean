/-! undo. -/
section BS
variable {E : AE} {G G' L : Nat → Nat → Int} {r r' : Nat → Nat → Option Nat} {h : AH} {Q : AH → Value → Prop} {X H S n a cl c : Nat} {v y s x d e b w k ki fr by_ ma : Int} {p q : Nat → Nat} {σ τ : Nat → Nat → Int} {kk nn : Nat → Int} {ln : Nat → Nat} {lv : Nat → Nat → Int}
theorem o_undo0 (hx : HXS E r G X p q n σ 0 kk nn τ) : RK MX9_undo 0 [.ref X] [] (0, 0) (E, zg G, zk L, r) Q = Q (E, zg (u2 G X 5 5), zk L, r) (.int (zi (-1))) := by
  obtain ⟨x0, ⟨x1, x2, x3, x4, x5⟩, -⟩ := hx.1
  have h0 := hx.2.1.1.1
  have a1 : G (X + 37) 7 = 0 := hx.2.1.2.2.2.2.2.2.1.1
  simp (disch := first | assumption | exact c2_int _ | exact c2_ref _ | exact c2_jk | exact c2_null | omega | (apply rN1; assumption) | (apply rN2; assumption) | (apply rN3; assumption) | (apply rN4; assumption) | exact bI_r _ | exact bI_01 _) only [↓fX9_undo_0, ↓fX9_undo_1, ↓fX9_undo_4, ↓fX9_undo_7, ↓fX9_undo_10, ↓fX9_undo_11, ↓fX9_undo_12, ↓fX9_undo_15, ↓fX9_undo_16, ↓fX9_undo_17, ↓fX9_undo_20, ↓fX9_undo_23, ↓fX9_undo_24, ↓fX9_undo_25, ↓fX9_undo_28, ↓fX9_undo_31, ↓fX9_undo_34, ↓c9_fail, a1, and_self, true_and, and_true, false_and, and_false, not_true_eq_false, not_false_eq_true, or_self, true_or, or_true, false_or, or_false, ite_not, Decidable.not_not, decide_eq_true_eq, Bool.not_true, Bool.not_false, Bool.false_eq_true, Bool.not_eq_true, n10, n20, n21, n30, n31, n32, n40, n41, n42, n43, ↓reduceIte]
theorem undo_g {G1 : Nat → Nat → Int} {r1 : Nat → Nat → Option Nat} {p1 : Nat → Nat} {n1 : Nat} {σ1 : Nat → Nat → Int} (hx : HXS E r G X p q n σ (c + 1) kk nn τ) (hr : HXR E G X cl ln lv) (f1 : SHF E r1 G1 (X + 37) p1 q n1 σ1 c kk nn τ) (f2 : frH G G1 (X + 37)) (f3 : frR r r1 (X + 37)) (f4 : ∀ Q, RK MX6_goBack 0 [.ref (X + 37), jk, jk, jk, jk] [] (0, 0) (E, zg G, zk L, r) Q = Q (E, zg G1, zk L, r1) .null) :
    ∃ (G' : Nat → Nat → Int) (r' : Nat → Nat → Option Nat) (p' : Nat → Nat), HXS E r' G' X p' q n1 σ1 c kk nn τ ∧ HXR E G' X cl ln lv ∧ G' X 5 = 0 ∧ (∀ x, x < X ∨ (X < x ∧ x < X + 37) ∨ X + 120 < x → G' x = G x) ∧ ∀ Q, RK MX9_undo 0 [.ref X] [] (0, 0) (E, zg G, zk L, r) Q = Q (E, zg G', zk L, r') (.int (zi (c : Int))) := by
  obtain ⟨x0, ⟨x1, x2, x3, x4, x5⟩, -⟩ := hx.1
  have h0 := hx.2.1.1.1
  have a0 := hx.2.1.2.2.2.2.2.2.1
  have a1 : ¬ G (X + 37) 7 = 0 := by omega
  have ar : I32 (G (X + 37) 7) := by omega
  have hx1 := HXS_f hx f1 f2 f3
  have xx2 := hx1.1.2.1.2.1
  have e3 : G1 (X + 37) 7 = c := f1.2.2.2.2.2.2.1.1
  refine ⟨u2 G1 X 5 0, r1, p1, st_HXS hx1, st_HXR x0 (HXR_f hr f2), u2_s _ _ _ _, fun x hxx => ?_, fun Q => ?_⟩
  · rw [u2_a _ _ _ _ (by omega), f2.1 x (by omega)]
  · simp (disch := first | assumption | exact c2_int _ | exact c2_ref _ | exact c2_jk | exact c2_null | omega | (apply rN1; assumption) | (apply rN2; assumption) | (apply rN3; assumption) | (apply rN4; assumption) | exact bI_r _ | exact bI_01 _) only [↓fX9_undo_0, ↓fX9_undo_1, ↓fX9_undo_4, ↓fX9_undo_7, ↓fX9_undo_10, ↓fX9_undo_11, ↓fX9_undo_12, ↓fX9_undo_15, ↓fX9_undo_16, ↓fX9_undo_17, ↓fX9_undo_20, ↓fX9_undo_23, ↓fX9_undo_24, ↓fX9_undo_25, ↓fX9_undo_28, ↓fX9_undo_31, ↓fX9_undo_34, ↓f4, ↓c9_succeed, a1, e3, and_self, true_and, and_true, false_and, and_false, not_true_eq_false, not_false_eq_true, or_self, true_or, or_true, false_or, or_false, ite_not, Decidable.not_not, decide_eq_true_eq, Bool.not_true, Bool.not_false, Bool.false_eq_true, Bool.not_eq_true, n10, n20, n21, n30, n31, n32, n40, n41, n42, n43, ↓reduceIte]
theorem o_undo1 (hx : HXS E r G X p q n σ (c + 1) kk nn τ) (hr : HXR E G X cl ln lv) (hk : kk c = 1) (hn : 1 ≤ n) :
    ∃ (G' : Nat → Nat → Int) (r' : Nat → Nat → Option Nat) (p' : Nat → Nat), HXS E r' G' X p' q (n - 1) σ c kk nn τ ∧ HXR E G' X cl ln lv ∧ G' X 5 = 0 ∧ (∀ x, x < X ∨ (X < x ∧ x < X + 37) ∨ X + 120 < x → G' x = G x) ∧ ∀ Q, RK MX9_undo 0 [.ref X] [] (0, 0) (E, zg G, zk L, r) Q = Q (E, zg G', zk L, r') (.int (zi (c : Int))) := by
  obtain ⟨G1, f1, f2, f4⟩ := c6_goBack1 (L := L) hx.2.1 hk hn
  exact undo_g hx hr f1 f2 (frR.rf r (X + 37)) f4
theorem o_undoC {sN : Nat} (hx : HXS E r G X p q n σ (c + 1) kk nn τ) (hr : HXR E G X cl ln lv) (hk : kk c = 0) (hs : nn c = sN) (hn : sN < n) :
    ∃ (G' : Nat → Nat → Int) (r' : Nat → Nat → Option Nat) (p' : Nat → Nat), HXS E r' G' X p' q n (fun t => if t = sN then τ c else σ t) c kk nn τ ∧ HXR E G' X cl ln lv ∧ G' X 5 = 0 ∧ (∀ x, x < X ∨ (X < x ∧ x < X + 37) ∨ X + 120 < x → G' x = G x) ∧ ∀ Q, RK MX9_undo 0 [.ref X] [] (0, 0) (E, zg G, zk L, r) Q = Q (E, zg G', zk L, r') (.int (zi (c : Int))) := by
  obtain ⟨G1, f1, f2, f4⟩ := c6_goBack0 (L := L) hx.2.1 hk hs hn
  exact undo_g hx hr f1 f2 (frR.rf r (X + 37)) f4
theorem o_undo2 {sN : Nat} (hx : HXS E r G X p q n σ (c + 1) kk nn τ) (hr : HXR E G X cl ln lv) (hk : kk c = 2) (hs : nn c = sN) (hsn : sN ≤ n) (hn : n < 4) :
    ∃ (G' : Nat → Nat → Int) (r' : Nat → Nat → Option Nat) (p' : Nat → Nat), HXS E r' G' X p' q (n + 1) (inS σ sN (τ c)) c kk nn τ ∧ HXR E G' X cl ln lv ∧ G' X 5 = 0 ∧ (∀ x, x < X ∨ (X < x ∧ x < X + 37) ∨ X + 120 < x → G' x = G x) ∧ ∀ Q, RK MX9_undo 0 [.ref X] [] (0, 0) (E, zg G, zk L, r) Q = Q (E, zg G', zk L, r') (.int (zi (c : Int))) := by
  obtain ⟨G1, r1, p1, f1, f2, f3, f4⟩ := c6_goBack2 (L := L) hx.2.1 hk hs hsn hn
  exact undo_g hx hr f1 f2 f3 f4
end BS
