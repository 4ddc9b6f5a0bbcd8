/-! load. -/
section BS
variable {E : AE} {G G' L : Nat → Nat → Int} {r : Nat → Nat → Option Nat} {h : AH} {Q : AH → Value → Prop} {X H S n a cl : Nat} {v y s x d e b c w k : Int} {p q : Nat → Nat} {σ τ : Nat → Nat → Int} {kk nn : Nat → Int} {ln : Nat → Nat} {lv : Nat → Nat → Int}
theorem SHF_c (hF : SHF E r G H p q n σ a kk nn τ) (h : ∀ x, H ≤ x → x ≤ H + 83 → G' x = G x) : SHF E r G' H p q n σ a kk nn τ := by
  obtain ⟨hH, hp, hq, ⟨n1, n2⟩, hS, hR, ⟨a1, a2⟩, hT, hA⟩ := hF
  have b4 : ∀ t, t < 4 → eqS G G' (H + 6 + 6 * p t) := fun t ht x x1 x2 => by
    have := (hp.1 t ht).2
    exact h x (by omega) (by omega)
  have b8 : ∀ t, t < 8 → eqS G G' (H + 36 + 6 * q t) := fun t ht x x1 x2 => by
    have := (hq.1 t ht).2
    exact h x (by omega) (by omega)
  have e0 : G' H = G H := h H (by omega) (by omega)
  refine ⟨hH, hp, hq, ⟨by rw [e0]; exact n1, n2⟩, fun t ht => rgS_c (b4 t ht) (hS t ht), fun t ht => ⟨RS_c (b4 t (by omega)) (hR t ht).1, (hR t ht).2⟩, ⟨by rw [e0]; exact a1, a2⟩, fun t ht => rgS_c (b8 t ht) (hT t ht), fun t ht => ?_⟩
  obtain ⟨c1, c2, c3⟩ := hA t ht
  rw [h (H + 3) (by omega) (by omega), h (H + 4) (by omega) (by omega)]
  exact ⟨c1, c2, fun z => ⟨RS_c (b8 t (by omega)) (c3 z).1, (c3 z).2⟩⟩
theorem HXS_c (hx : HXS E r G X p q n σ a kk nn τ) (h : ∀ x, X + 37 ≤ x → G' x = G x) : HXS E r G' X p q n σ a kk nn τ := ⟨hx.1, SHF_c hx.2.1 fun x x1 _ => h x x1, rgS_c (fun x x1 x2 => h x (by omega)) hx.2.2⟩
theorem LH_c (hl : LH G H cl ln lv) (h : ∀ x, H ≤ x → x ≤ H + 83 → G' x = G x) : LH G' H cl ln lv := by
  obtain ⟨⟨c1, c2⟩, h3, hh⟩ := hl
  refine ⟨⟨by rw [h H (by omega) (by omega)]; exact c1, c2⟩, fun t ht => rgL_c (h _ (by omega) (by omega)) (h _ (by omega) (by omega)) (h3 t ht), fun t ht => ?_⟩
  rw [h _ (by omega) (by omega), h _ (by omega) (by omega)]
  exact hh t ht
/-- the house's status set: all else stands -/
theorem st_HXS (hx : HXS E r G X p q n σ a kk nn τ) : HXS E r (u2 G X 5 y) X p q n σ a kk nn τ := HXS_c hx fun x x1 => u2_a _ _ _ _ (by omega)
theorem st_HXR (hk : kd E X = 15) (hr : HXR E G X cl ln lv) : HXR E (u2 G X 5 y) X cl ln lv := by
  obtain ⟨h1, h2, h3, h4, h5⟩ := hr
  refine ⟨LH_c h1 fun x x1 _ => u2_a _ _ _ _ (by omega), kStr_c h2 fun x _ x2 => u2_a _ _ _ _ (fun z => ?_), ?_, ?_, RW_c h5 fun x hx => u2_a _ _ _ _ (by omega)⟩
  · rw [z, hk] at x2
    exact absurd x2 (by decide)
  · rw [u2_a _ _ _ _ (by omega)]
    exact h3
  · rw [u2_a _ _ _ _ (by omega)]
    exact h4
theorem o_load0 (hx : HXS E r G X p q n σ a kk nn τ) (hr : HXR E G X cl ln lv) (hk : I32 k) (hb : k < 0 ∨ G (X + 1) 1 < k) : RK MX9_load 0 [.ref X, .int (zi k)] [] (0, 0) (E, zg G, zk L, r) Q = Q (E, zg (u2 G X 5 1), zk L, r) (.int (zi (-1))) := by
  obtain ⟨x0, ⟨x1, x2, x3, x4, x5⟩, xD, -⟩ := hx.1
  have d0 := xD.1
  have hf := hr.2.2.2.1
  by_cases z : k < 0
  · simp (disch := first | assumption | exact c2_int _ | exact c2_ref _ | exact c2_jk | exact c2_null | omega | (apply rN1; assumption) | (apply rN2; assumption) | (apply rN3; assumption) | (apply rN4; assumption) | exact bI_r _ | exact bI_01 _) only [↓fX9_load_0, ↓fX9_load_1, ↓fX9_load_4, ↓fX9_load_5, ↓fX9_load_6, ↓fX9_load_9, ↓fX9_load_12, ↓fX9_load_15, ↓fX9_load_16, ↓fX9_load_17, ↓fX9_load_20, ↓fX9_load_21, ↓fX9_load_22, ↓fX9_load_25, ↓fX9_load_26, ↓fX9_load_29, ↓fX9_load_32, ↓fX9_load_33, ↓fX9_load_35, ↓fX9_load_38, ↓fX9_load_39, ↓fX9_load_40, ↓fX9_load_43, ↓fX9_load_44, ↓fX9_load_47, ↓fX9_load_50, ↓fX9_load_51, ↓fX9_load_52, ↓fX9_load_55, ↓fX9_load_58, ↓fX9_load_61, ↓c9_fail, z, and_self, true_and, and_true, false_and, and_false, not_true_eq_false, not_false_eq_true, or_self, true_or, or_true, false_or, or_false, ite_not, Decidable.not_not, decide_eq_true_eq, Bool.not_true, Bool.not_false, Bool.false_eq_true, Bool.not_eq_true, n10, n20, n21, n30, n31, n32, n40, n41, n42, n43, ↓reduceIte]
  · have z2 : ¬ k ≤ G (X + 1) 1 := by omega
    simp (disch := first | assumption | exact c2_int _ | exact c2_ref _ | exact c2_jk | exact c2_null | omega | (apply rN1; assumption) | (apply rN2; assumption) | (apply rN3; assumption) | (apply rN4; assumption) | exact bI_r _ | exact bI_01 _) only [↓fX9_load_0, ↓fX9_load_1, ↓fX9_load_4, ↓fX9_load_5, ↓fX9_load_6, ↓fX9_load_9, ↓fX9_load_12, ↓fX9_load_15, ↓fX9_load_16, ↓fX9_load_17, ↓fX9_load_20, ↓fX9_load_21, ↓fX9_load_22, ↓fX9_load_25, ↓fX9_load_26, ↓fX9_load_29, ↓fX9_load_32, ↓fX9_load_33, ↓fX9_load_35, ↓fX9_load_38, ↓fX9_load_39, ↓fX9_load_40, ↓fX9_load_43, ↓fX9_load_44, ↓fX9_load_47, ↓fX9_load_50, ↓fX9_load_51, ↓fX9_load_52, ↓fX9_load_55, ↓fX9_load_58, ↓fX9_load_61, ↓c9_fail, z, z2, and_self, true_and, and_true, false_and, and_false, not_true_eq_false, not_false_eq_true, or_self, true_or, or_true, false_or, or_false, ite_not, Decidable.not_not, decide_eq_true_eq, Bool.not_true, Bool.not_false, Bool.false_eq_true, Bool.not_eq_true, n10, n20, n21, n30, n31, n32, n40, n41, n42, n43, ↓reduceIte]
theorem o_load (hx : HXS E r G X p q n σ a kk nn τ) (hr : HXR E G X cl ln lv) (hk : 0 ≤ k ∧ k ≤ G (X + 1) 1) :
    (∃ (cs cl' : Nat) (σ' : Nat → Nat → Int) (ln' : Nat → Nat) (lv' : Nat → Nat → Int) (G' : Nat → Nat → Int), rdAll (tpB G (X + 1) k) k (G (X + 1 + 4)) (G (X + 1 + 5)) = .ok (cs, cl', σ', ln', lv') ∧ HXS E r G' X p q cs σ' 0 kk nn τ ∧ HXR E G' X cl' ln' lv' ∧ (G' X 5 = 0 ∧ G' (X + 1) 1 = 0 ∧ G' (X + 1) 3 = 0 ∧ G' (X + 1) 4 = -1 ∧ G' (X + 1 + 1) = G (X + 1 + 1)) ∧ (∀ x, x < X ∨ X + 120 < x → G' x = G x) ∧ ∀ Q, RK MX9_load 0 [.ref X, .int (zi k)] [] (0, 0) (E, zg G, zk L, r) Q = Q (E, zg G', zk L, r) (.int (zi (cs : Int)))) ∨
    (∃ (kf : Int) (T' : Int × Int × Int × Int) (G' : Nat → Nat → Int), rdAll (tpB G (X + 1) k) k (G (X + 1 + 4)) (G (X + 1 + 5)) = .error (kf, T') ∧ HXS E r G' X p q n σ a kk nn τ ∧ HXR E G' X cl ln lv ∧ (G' X 5 = 9 ∧ G' (X + 1) 1 = 0 ∧ G' (X + 1) 3 = kf ∧ G' (X + 1) 4 = T'.2.1 ∧ G' (X + 1 + 1) = G (X + 1 + 1)) ∧ (∀ x, x < X ∨ X + 36 < x → G' x = G x) ∧ ∀ Q, RK MX9_load 0 [.ref X, .int (zi k)] [] (0, 0) (E, zg G, zk L, r) Q = Q (E, zg G', zk L, r) (.int (zi (-1)))) := by
  obtain ⟨x0, ⟨x1, x2, x3, x4, x5⟩, xD, xP, xS, xT⟩ := id hx.1
  have d0 := xD.1
  have h0 := hx.2.1.1.1
  obtain ⟨r1, r2, r3, r4, r5⟩ := id hr
  have z1 : ¬ k < 0 := by omega
  have z2 : k ≤ G (X + 1) 1 := hk.2
  rcases c5_readText (L := L) (n := k) xD r2 r3 (by omega) r5 with ⟨cs, cl', σ', ln', lv', G1, a1, a2, a3, a4, a5, a6, a7, a8, a9⟩ | ⟨kf, T', G1, a1, a2, a3, a4, a5, a6, a7, a8⟩
  · have hx1 : HXS E r G1 X p q n σ a kk nn τ := HXS_c hx fun x xx => a2 x (by omega)
    have l1 := LH_c r1 (G' := G1) fun x xx _ => a2 x (by omega)
    obtain ⟨G2, b1, b2, b3, b4⟩ := c6_takeOver (L := L) hx1.2.1 l1.2.1 xD (by omega) a7 a8
    refine Or.inl ⟨cs, cl', σ', ln', lv', u2 G2 X 5 0, a1, ?_, ?_, ⟨u2_s _ _ _ _, ?_, ?_, ?_, ?_⟩, fun x hxx => ?_, fun Q => ?_⟩
    · exact st_HXS ⟨hx.1, b1, rgS_c (fun x xx _ => b3 x (by omega)) hx1.2.2⟩
    · refine st_HXR x0 ⟨b2, kStr_c r2 fun x xx _ => ?_, ?_, ?_, ⟨fun t ht => rgS_c (fun x xx _ => b3 x (by omega)) (a7.1 t ht), fun t ht => rgL_c (b3 _ (by omega)) (b3 _ (by omega)) (a7.2 t ht)⟩⟩
      · rw [b3 x (by omega), a2 x (by omega)]
      · rw [b3 _ (by omega), a3]
        exact r3
      · rw [b3 _ (by omega), a4]
        omega
    · rw [u2_a _ _ _ _ (by omega), b3 _ (by omega), a4]
    · rw [u2_a _ _ _ _ (by omega), b3 _ (by omega), a5]
    · rw [u2_a _ _ _ _ (by omega), b3 _ (by omega), a6]
    · rw [u2_a _ _ _ _ (by omega), b3 _ (by omega), a3]
    · rw [u2_a _ _ _ _ (by omega), b3 x (by omega), a2 x (by omega)]
    · have e1 : G2 (X + 37) 1 = cs := b1.2.2.2.1.1
      simp (disch := first | assumption | exact c2_int _ | exact c2_ref _ | exact c2_jk | exact c2_null | omega | (apply rN1; assumption) | (apply rN2; assumption) | (apply rN3; assumption) | (apply rN4; assumption) | exact bI_r _ | exact bI_01 _) only [↓fX9_load_0, ↓fX9_load_1, ↓fX9_load_4, ↓fX9_load_5, ↓fX9_load_6, ↓fX9_load_9, ↓fX9_load_12, ↓fX9_load_15, ↓fX9_load_16, ↓fX9_load_17, ↓fX9_load_20, ↓fX9_load_21, ↓fX9_load_22, ↓fX9_load_25, ↓fX9_load_26, ↓fX9_load_29, ↓fX9_load_32, ↓fX9_load_33, ↓fX9_load_35, ↓fX9_load_38, ↓fX9_load_39, ↓fX9_load_40, ↓fX9_load_43, ↓fX9_load_44, ↓fX9_load_47, ↓fX9_load_50, ↓fX9_load_51, ↓fX9_load_52, ↓fX9_load_55, ↓fX9_load_58, ↓fX9_load_61, ↓a9, ↓b4, ↓c9_succeed, z1, z2, e1, and_self, true_and, and_true, false_and, and_false, not_true_eq_false, not_false_eq_true, or_self, true_or, or_true, false_or, or_false, ite_not, Decidable.not_not, decide_eq_true_eq, Bool.not_true, Bool.not_false, Bool.false_eq_true, Bool.not_eq_true, n10, n20, n21, n30, n31, n32, n40, n41, n42, n43, ↓reduceIte]
  · refine Or.inr ⟨kf, T', u2 G1 X 5 9, a1, st_HXS (HXS_c hx fun x xx => a2 x (by omega)), st_HXR x0 ⟨LH_c r1 fun x xx _ => a2 x (by omega), kStr_c r2 fun x xx _ => a2 x (by omega), by rw [a3]; exact r3, by rw [a4]; omega, a7⟩, ⟨u2_s _ _ _ _, ?_, ?_, ?_, ?_⟩, fun x hxx => ?_, fun Q => ?_⟩
    · rw [u2_a _ _ _ _ (by omega), a4]
    · rw [u2_a _ _ _ _ (by omega), a5]
    · rw [u2_a _ _ _ _ (by omega), a6]
    · rw [u2_a _ _ _ _ (by omega), a3]
    · rw [u2_a _ _ _ _ (by omega), a2 x (by omega)]
    · simp (disch := first | assumption | exact c2_int _ | exact c2_ref _ | exact c2_jk | exact c2_null | omega | (apply rN1; assumption) | (apply rN2; assumption) | (apply rN3; assumption) | (apply rN4; assumption) | exact bI_r _ | exact bI_01 _) only [↓fX9_load_0, ↓fX9_load_1, ↓fX9_load_4, ↓fX9_load_5, ↓fX9_load_6, ↓fX9_load_9, ↓fX9_load_12, ↓fX9_load_15, ↓fX9_load_16, ↓fX9_load_17, ↓fX9_load_20, ↓fX9_load_21, ↓fX9_load_22, ↓fX9_load_25, ↓fX9_load_26, ↓fX9_load_29, ↓fX9_load_32, ↓fX9_load_33, ↓fX9_load_35, ↓fX9_load_38, ↓fX9_load_39, ↓fX9_load_40, ↓fX9_load_43, ↓fX9_load_44, ↓fX9_load_47, ↓fX9_load_50, ↓fX9_load_51, ↓fX9_load_52, ↓fX9_load_55, ↓fX9_load_58, ↓fX9_load_61, ↓a8, ↓c9_fail, z1, z2, and_self, true_and, and_true, false_and, and_false, not_true_eq_false, not_false_eq_true, or_self, true_or, or_true, false_or, or_false, ite_not, Decidable.not_not, decide_eq_true_eq, Bool.not_true, Bool.not_false, Bool.false_eq_true, Bool.not_eq_true, n10, n20, n21, n30, n31, n32, n40, n41, n42, n43, ↓reduceIte]
end BS
