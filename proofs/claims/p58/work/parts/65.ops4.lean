/-! Calls of the house that only look. -/
section BS
variable {E : AE} {G G' L : Nat → Nat → Int} {r : Nat → Nat → Option Nat} {h : AH} {Q : AH → Value → Prop} {X S n a cl : Nat} {v y s x d e b c w k o : Int} {p q : Nat → Nat} {σ τ : Nat → Nat → Int} {kk nn : Nat → Int} {ln : Nat → Nat} {lv : Nat → Nat → Int}
theorem x_upTo (hx : HXS E r G X p q n σ a kk nn τ) (hs : I32 s) (hy : I32 y) : ∃ G', lkX G G' X ∧ G' X 5 = (onS (false) n s ((0, cuZ (σ s.toNat) y))).1 ∧ ∀ Q, RK MX9_upTo 0 [.ref X, .int (zi s), .int (zi y), jk] [] (0, 0) (E, zg G, zk L, r) Q = Q (E, zg G', zk L, r) (.int (zi (onS (false) n s ((0, cuZ (σ s.toNat) y))).2)) := by
  obtain ⟨x0, ⟨x1, x2, x3, x4, x5⟩, xD, xP, xS, xT⟩ := id hx.1
  have h0 := hx.2.1.1.1
  have hgt := hx.2.2
  have cb : onS (false) n s ((0, cuZ (σ s.toNat) y)) = if 0 ≤ s ∧ s < n then ((0, cuZ (σ s.toNat) y)) else (2, -1) := if_neg (by decide)
  rw [cb]
  by_cases c : 0 ≤ s ∧ s < n
  · rw [if_pos c]
    obtain ⟨hS, hR, hW, e1⟩ := HXS_sv (L := L) hx c
    have s0 := hS.1
    have hg := hR.1
    have e2 := fun Q => c7_countUpTo (L := L) (Q := Q) hS hg hy
    have e4 : cuL (nA G (svA X p s)) (G (svA X p s) 13) y 600 0 = cuZ (σ s.toNat) y := by unfold cuZ; rw [RS_nA hR hW, RS_sz hR hW]
    rw [e4] at e2
    refine ⟨u2 G X 5 0, lkX_st hgt _, u2_s _ _ _ _, fun Q => ?_⟩
    simp (disch := first | assumption | exact c2_int _ | exact c2_ref _ | exact c2_jk | exact c2_null | omega | (apply rN1; assumption) | (apply rN2; assumption) | (apply rN3; assumption) | (apply rN4; assumption) | exact bI_r _ | exact bI_01 _) only [↓fX9_upTo_0, ↓fX9_upTo_1, ↓fX9_upTo_4, ↓fX9_upTo_5, ↓fX9_upTo_8, ↓fX9_upTo_8n, ↓fX9_upTo_9, ↓fX9_upTo_9n, ↓fX9_upTo_10, ↓fX9_upTo_10r, ↓fX9_upTo_13, ↓fX9_upTo_14, ↓fX9_upTo_15, ↓fX9_upTo_18, ↓fX9_upTo_19, ↓fX9_upTo_20, ↓fX9_upTo_20n, ↓fX9_upTo_21, ↓fX9_upTo_22, ↓fX9_upTo_25, ↓fX9_upTo_28, ↓c9_within, bI_0, ↓e1, ↓e2, ↓c9_succeed, and_self, true_and, and_true, false_and, and_false, not_true_eq_false, not_false_eq_true, or_self, true_or, or_true, false_or, or_false, ite_not, Decidable.not_not, decide_eq_true_eq, Bool.not_true, Bool.not_false, Bool.false_eq_true, Bool.not_eq_true, n10, n20, n21, n30, n31, n32, n40, n41, n42, n43, ↓reduceIte]
  · rw [if_neg c]
    have e1 := HXS_none (L := L) hx hs c
    exact ⟨u2 G X 5 2, lkX_st hgt 2, u2_s _ _ _ _, fun Q => by simp (disch := first | assumption | exact c2_int _ | exact c2_ref _ | exact c2_jk | exact c2_null | omega | (apply rN1; assumption) | (apply rN2; assumption) | (apply rN3; assumption) | (apply rN4; assumption) | exact bI_r _ | exact bI_01 _) only [↓fX9_upTo_0, ↓fX9_upTo_1, ↓fX9_upTo_4, ↓fX9_upTo_5, ↓fX9_upTo_8, ↓fX9_upTo_8n, ↓fX9_upTo_9, ↓fX9_upTo_9n, ↓fX9_upTo_10, ↓fX9_upTo_10r, ↓fX9_upTo_13, ↓fX9_upTo_14, ↓fX9_upTo_15, ↓fX9_upTo_18, ↓fX9_upTo_19, ↓fX9_upTo_20, ↓fX9_upTo_20n, ↓fX9_upTo_21, ↓fX9_upTo_22, ↓fX9_upTo_25, ↓fX9_upTo_28, ↓c9_within, bI_0, ↓e1, ↓c9_fail, and_self, true_and, and_true, false_and, and_false, not_true_eq_false, not_false_eq_true, or_self, true_or, or_true, false_or, or_false, ite_not, Decidable.not_not, decide_eq_true_eq, Bool.not_true, Bool.not_false, Bool.false_eq_true, Bool.not_eq_true, n10, n20, n21, n30, n31, n32, n40, n41, n42, n43, ↓reduceIte]⟩
theorem x_number (hx : HXS E r G X p q n σ a kk nn τ) (hs : I32 s) (hy : I32 y) : ∃ G', lkX G G' X ∧ G' X 5 = (onS (decide ((y < 1))) n s (ans (nAS (σ s.toNat) y))).1 ∧ ∀ Q, RK MX9_number 0 [.ref X, .int (zi s), .int (zi y), jk] [] (0, 0) (E, zg G, zk L, r) Q = Q (E, zg G', zk L, r) (.int (zi (onS (decide ((y < 1))) n s (ans (nAS (σ s.toNat) y))).2)) := by
  obtain ⟨x0, ⟨x1, x2, x3, x4, x5⟩, xD, xP, xS, xT⟩ := id hx.1
  have h0 := hx.2.1.1.1
  have hgt := hx.2.2
  by_cases c1 : y < 1
  · have cb : onS (decide ((y < 1))) n s (ans (nAS (σ s.toNat) y)) = (1, -1) := if_pos (decide_eq_true (by omega))
    rw [cb]
    exact ⟨u2 G X 5 1, lkX_st hgt 1, u2_s _ _ _ _, fun Q => by simp (disch := first | assumption | exact c2_int _ | exact c2_ref _ | exact c2_jk | exact c2_null | omega | (apply rN1; assumption) | (apply rN2; assumption) | (apply rN3; assumption) | (apply rN4; assumption) | exact bI_r _ | exact bI_01 _) only [↓fX9_number_0, ↓fX9_number_1, ↓fX9_number_2, ↓fX9_number_5, ↓fX9_number_6, ↓fX9_number_7, ↓fX9_number_10, ↓fX9_number_11, ↓fX9_number_12, ↓fX9_number_15, ↓fX9_number_16, ↓fX9_number_19, ↓fX9_number_19n, ↓fX9_number_20, ↓fX9_number_20n, ↓fX9_number_21, ↓fX9_number_21r, ↓fX9_number_24, ↓fX9_number_25, ↓fX9_number_26, ↓fX9_number_29, ↓fX9_number_30, ↓fX9_number_31, ↓fX9_number_31n, ↓fX9_number_32, ↓fX9_number_33, ↓fX9_number_36, ↓fX9_number_39, ↓c9_within, bI_0, ↓c9_fail, c1, and_self, true_and, and_true, false_and, and_false, not_true_eq_false, not_false_eq_true, or_self, true_or, or_true, false_or, or_false, ite_not, Decidable.not_not, decide_eq_true_eq, Bool.not_true, Bool.not_false, Bool.false_eq_true, Bool.not_eq_true, n10, n20, n21, n30, n31, n32, n40, n41, n42, n43, ↓reduceIte]⟩
  · have cq : (decide ((y < 1))) = false := decide_eq_false (by omega)
    have cb : onS (decide ((y < 1))) n s (ans (nAS (σ s.toNat) y)) = if 0 ≤ s ∧ s < n then (ans (nAS (σ s.toNat) y)) else (2, -1) := if_neg (by rw [cq]; decide)
    rw [cb]
    by_cases c : 0 ≤ s ∧ s < n
    · rw [if_pos c]
      obtain ⟨hS, hR, hW, e1⟩ := HXS_sv (L := L) hx c
      have s0 := hS.1
      have hg := hR.1
      have e2 := fun Q => c7_numberAt (L := L) (Q := Q) hS hg hy
      rw [RS_nA hR hW] at e2
      have e3 : I32 (nAS (σ s.toNat) y) := by have := nAS_b hW y; exact ⟨by omega, by omega⟩
      refine ⟨u2 G X 5 (ans (nAS (σ s.toNat) y)).1, lkX_st hgt _, u2_s _ _ _ _, fun Q => ?_⟩
      simp (disch := first | assumption | exact c2_int _ | exact c2_ref _ | exact c2_jk | exact c2_null | omega | (apply rN1; assumption) | (apply rN2; assumption) | (apply rN3; assumption) | (apply rN4; assumption) | exact bI_r _ | exact bI_01 _) only [↓fX9_number_0, ↓fX9_number_1, ↓fX9_number_2, ↓fX9_number_5, ↓fX9_number_6, ↓fX9_number_7, ↓fX9_number_10, ↓fX9_number_11, ↓fX9_number_12, ↓fX9_number_15, ↓fX9_number_16, ↓fX9_number_19, ↓fX9_number_19n, ↓fX9_number_20, ↓fX9_number_20n, ↓fX9_number_21, ↓fX9_number_21r, ↓fX9_number_24, ↓fX9_number_25, ↓fX9_number_26, ↓fX9_number_29, ↓fX9_number_30, ↓fX9_number_31, ↓fX9_number_31n, ↓fX9_number_32, ↓fX9_number_33, ↓fX9_number_36, ↓fX9_number_39, ↓c9_within, bI_0, ↓e1, ↓e2, ↓c9_answer, c1, and_self, true_and, and_true, false_and, and_false, not_true_eq_false, not_false_eq_true, or_self, true_or, or_true, false_or, or_false, ite_not, Decidable.not_not, decide_eq_true_eq, Bool.not_true, Bool.not_false, Bool.false_eq_true, Bool.not_eq_true, n10, n20, n21, n30, n31, n32, n40, n41, n42, n43, ↓reduceIte]
      rfl
    · rw [if_neg c]
      have e1 := HXS_none (L := L) hx hs c
      exact ⟨u2 G X 5 2, lkX_st hgt 2, u2_s _ _ _ _, fun Q => by simp (disch := first | assumption | exact c2_int _ | exact c2_ref _ | exact c2_jk | exact c2_null | omega | (apply rN1; assumption) | (apply rN2; assumption) | (apply rN3; assumption) | (apply rN4; assumption) | exact bI_r _ | exact bI_01 _) only [↓fX9_number_0, ↓fX9_number_1, ↓fX9_number_2, ↓fX9_number_5, ↓fX9_number_6, ↓fX9_number_7, ↓fX9_number_10, ↓fX9_number_11, ↓fX9_number_12, ↓fX9_number_15, ↓fX9_number_16, ↓fX9_number_19, ↓fX9_number_19n, ↓fX9_number_20, ↓fX9_number_20n, ↓fX9_number_21, ↓fX9_number_21r, ↓fX9_number_24, ↓fX9_number_25, ↓fX9_number_26, ↓fX9_number_29, ↓fX9_number_30, ↓fX9_number_31, ↓fX9_number_31n, ↓fX9_number_32, ↓fX9_number_33, ↓fX9_number_36, ↓fX9_number_39, ↓c9_within, bI_0, ↓e1, ↓c9_fail, c1, and_self, true_and, and_true, false_and, and_false, not_true_eq_false, not_false_eq_true, or_self, true_or, or_true, false_or, or_false, ite_not, Decidable.not_not, decide_eq_true_eq, Bool.not_true, Bool.not_false, Bool.false_eq_true, Bool.not_eq_true, n10, n20, n21, n30, n31, n32, n40, n41, n42, n43, ↓reduceIte]⟩
end BS
