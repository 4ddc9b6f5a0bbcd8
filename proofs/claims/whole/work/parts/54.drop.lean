/-! drop, undo. -/
section BS
variable {E : AE} {G G' L : Nat → Nat → Int} {r r' : Nat → Nat → Option Nat} {h : AH} {Q : AH → Value → Prop} {X H S n a cl c : Nat} {v y s x d e b w k : Int} {p q : Nat → Nat} {σ τ : Nat → Nat → Int} {kk nn : Nat → Int} {ln : Nat → Nat} {lv : Nat → Nat → Int}
theorem shX_r (hX : shX E r X) (h : frR r r' (X + 37)) : shX E r' X := by
  obtain ⟨x0, ⟨x1, x2, x3, x4, x5⟩, xD, xP, xS, xT⟩ := hX
  have sv : ∀ S, (S + 5 < X + 37 ∨ X + 42 < S) → shS E r S → shS E r' S := fun S hS q => by
    unfold shS at q ⊢
    rw [h S (by omega) (by omega)]
    exact q
  refine ⟨x0, ?_, ?_, ?_, sv _ (by omega) xS, xT⟩
  · rw [h X (by omega) (by omega)]
    exact ⟨x1, x2, x3, x4, x5⟩
  · obtain ⟨d0, d1, d2, d3, d4, d5⟩ := xD
    refine ⟨d0, d1, d2, ?_, fun t ht => ⟨sv _ (by omega) (d4 t ht).1, ?_⟩, fun t ht => ⟨?_, ?_⟩⟩
    · rw [h _ (by omega) (by omega)]
      exact d3
    · rw [h _ (by omega) (by omega)]
      exact (d4 t ht).2
    · have := (d5 t ht).1
      unfold shL at this ⊢
      rw [h _ (by omega) (by omega)]
      exact this
    · rw [h _ (by omega) (by omega)]
      exact (d5 t ht).2
  · unfold shP at xP ⊢
    rw [h _ (by omega) (by omega)]
    exact xP
/-- a change of the shelf -/
theorem HXS_f {p' q' : Nat → Nat} {n' : Nat} {σ' : Nat → Nat → Int} {a' : Nat} {kk' nn' : Nat → Int} {τ' : Nat → Nat → Int} (hx : HXS E r G X p q n σ a kk nn τ) (hF : SHF E r' G' (X + 37) p' q' n' σ' a' kk' nn' τ') (hf : frH G G' (X + 37)) (hr : frR r r' (X + 37)) : HXS E r' G' X p' q' n' σ' a' kk' nn' τ' := ⟨shX_r hx.1 hr, hF, rgS_c (fun x x1 x2 => hf.1 x (by omega)) hx.2.2⟩
theorem HXR_f (hr : HXR E G X cl ln lv) (hf : frH G G' (X + 37)) : HXR E G' X cl ln lv := by
  obtain ⟨⟨⟨c1, c2⟩, h3, hh⟩, h2, h3', h4, h5⟩ := hr
  refine ⟨⟨⟨hf.2.trans c1, c2⟩, fun t ht => rgL_c (hf.1 _ (by omega)) (hf.1 _ (by omega)) (h3 t ht), fun t ht => ?_⟩, kStr_c h2 fun x xx _ => hf.1 x (by omega), ?_, ?_, ⟨fun t ht => rgS_c (fun x _ _ => hf.1 x (by omega)) (h5.1 t ht), fun t ht => rgL_c (hf.1 _ (by omega)) (hf.1 _ (by omega)) (h5.2 t ht)⟩⟩
  · rw [hf.1 _ (by omega), hf.1 _ (by omega)]
    exact hh t ht
  · rw [hf.1 _ (by omega)]
    exact h3'
  · rw [hf.1 _ (by omega)]
    exact h4
theorem o_drop0 (hx : HXS E r G X p q n σ a kk nn τ) (hs : I32 s) (c : ¬ (0 ≤ s ∧ s < n)) : RK MX9_drop 0 [.ref X, .int (zi s)] [] (0, 0) (E, zg G, zk L, r) Q = Q (E, zg (u2 G X 5 2), zk L, r) (.int (zi (-1))) := by
  obtain ⟨x0, ⟨x1, x2, x3, x4, x5⟩, -⟩ := hx.1
  have h0 := hx.2.1.1.1
  have e1 := HXS_none (L := L) hx hs c
  simp (disch := first | assumption | exact c2_int _ | exact c2_ref _ | exact c2_jk | exact c2_null | omega | (apply rN1; assumption) | (apply rN2; assumption) | (apply rN3; assumption) | (apply rN4; assumption) | exact bI_r _ | exact bI_01 _) only [↓fX9_drop_0, ↓fX9_drop_1, ↓fX9_drop_4, ↓fX9_drop_5, ↓fX9_drop_8, ↓fX9_drop_8r, ↓fX9_drop_11, ↓fX9_drop_12, ↓fX9_drop_13, ↓fX9_drop_16, ↓fX9_drop_17, ↓fX9_drop_18, ↓fX9_drop_21, ↓fX9_drop_22, ↓fX9_drop_25, ↓fX9_drop_26, ↓fX9_drop_27, ↓fX9_drop_30, ↓fX9_drop_33, ↓fX9_drop_36, ↓e1, ↓c9_fail, and_self, true_and, and_true, false_and, and_false, not_true_eq_false, not_false_eq_true, or_self, true_or, or_true, false_or, or_false, ite_not, Decidable.not_not, decide_eq_true_eq, Bool.not_true, Bool.not_false, Bool.false_eq_true, Bool.not_eq_true, n10, n20, n21, n30, n31, n32, n40, n41, n42, n43, ↓reduceIte]
theorem o_drop (hx : HXS E r G X p q n σ a kk nn τ) (hr : HXR E G X cl ln lv) (c : 0 ≤ s ∧ s < n) :
    ∃ (G' : Nat → Nat → Int) (r' : Nat → Nat → Option Nat) (p' q' : Nat → Nat), HXS E r' G' X p' q' (n - 1) (rmS σ s.toNat) (kpA a) (kpN a kk 2) (kpN a nn s) (kpN a τ (σ s.toNat)) ∧ HXR E G' X cl ln lv ∧ G' X 5 = 0 ∧ (∀ x, x < X ∨ (X < x ∧ x < X + 37) ∨ X + 120 < x → G' x = G x) ∧ ∀ Q, RK MX9_drop 0 [.ref X, .int (zi s)] [] (0, 0) (E, zg G, zk L, r) Q = Q (E, zg G', zk L, r') (.int (zi ((n : Int) - 1))) := by
  obtain ⟨x0, ⟨x1, x2, x3, x4, x5⟩, -⟩ := hx.1
  have h0 := hx.2.1.1.1
  obtain ⟨-, -, -, e1⟩ := HXS_sv (L := L) hx c
  obtain ⟨G1, r1, q', f1, f2, f3, f4⟩ := c6_remove (L := L) (sN := s.toNat) hx.2.1 (by omega)
  rw [Int.toNat_of_nonneg c.1] at f1 f4
  have hx1 := HXS_f hx f1 f2 f3
  have e3 : G1 (X + 37) 1 = (n : Int) - 1 := by
    rw [f1.2.2.2.1.1]
    omega
  have xx2 := hx1.1.2.1.2.1
  refine ⟨u2 G1 X 5 0, r1, _, q', st_HXS hx1, st_HXR x0 (HXR_f hr f2), u2_s _ _ _ _, fun x hxx => ?_, fun Q => ?_⟩
  · rw [u2_a _ _ _ _ (by omega), f2.1 x (by omega)]
  · simp (disch := first | assumption | exact c2_int _ | exact c2_ref _ | exact c2_jk | exact c2_null | omega | (apply rN1; assumption) | (apply rN2; assumption) | (apply rN3; assumption) | (apply rN4; assumption) | exact bI_r _ | exact bI_01 _) only [↓fX9_drop_0, ↓fX9_drop_1, ↓fX9_drop_4, ↓fX9_drop_5, ↓fX9_drop_8, ↓fX9_drop_8r, ↓fX9_drop_11, ↓fX9_drop_12, ↓fX9_drop_13, ↓fX9_drop_16, ↓fX9_drop_17, ↓fX9_drop_18, ↓fX9_drop_21, ↓fX9_drop_22, ↓fX9_drop_25, ↓fX9_drop_26, ↓fX9_drop_27, ↓fX9_drop_30, ↓fX9_drop_33, ↓fX9_drop_36, ↓e1, ↓f4, ↓c9_succeed, e3, and_self, true_and, and_true, false_and, and_false, not_true_eq_false, not_false_eq_true, or_self, true_or, or_true, false_or, or_false, ite_not, Decidable.not_not, decide_eq_true_eq, Bool.not_true, Bool.not_false, Bool.false_eq_true, Bool.not_eq_true, n10, n20, n21, n30, n31, n32, n40, n41, n42, n43, ↓reduceIte]
end BS
