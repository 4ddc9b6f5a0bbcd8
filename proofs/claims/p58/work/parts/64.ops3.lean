/-! Calls of the house that only look. -/
section BS
variable {E : AE} {G G' L : Nat → Nat → Int} {r : Nat → Nat → Option Nat} {h : AH} {Q : AH → Value → Prop} {X S n a cl : Nat} {v y s x d e b c w k o : Int} {p q : Nat → Nat} {σ τ : Nat → Nat → Int} {kk nn : Nat → Int} {ln : Nat → Nat} {lv : Nat → Nat → Int}
theorem x_would (hx : HXS E r G X p q n σ a kk nn τ) (hs : I32 s) (hy : I32 y) : ∃ G', lkX G G' X ∧ G' X 5 = (onS (decide ((y < 1))) n s (ans (nAS (smS 600 (σ s.toNat)).1 y))).1 ∧ ∀ Q, RK MX9_would 0 [.ref X, .int (zi s), .int (zi y), jk] [] (0, 0) (E, zg G, zk L, r) Q = Q (E, zg G', zk L, r) (.int (zi (onS (decide ((y < 1))) n s (ans (nAS (smS 600 (σ s.toNat)).1 y))).2)) := by
  obtain ⟨x0, ⟨x1, x2, x3, x4, x5⟩, xD, xP, xS, xT⟩ := id hx.1
  have h0 := hx.2.1.1.1
  have hgt := hx.2.2
  by_cases c1 : y < 1
  · have cb : onS (decide ((y < 1))) n s (ans (nAS (smS 600 (σ s.toNat)).1 y)) = (1, -1) := if_pos (decide_eq_true (by omega))
    rw [cb]
    exact ⟨u2 G X 5 1, lkX_st hgt 1, u2_s _ _ _ _, fun Q => by simp (disch := first | assumption | exact c2_int _ | exact c2_ref _ | exact c2_jk | exact c2_null | omega | (apply rN1; assumption) | (apply rN2; assumption) | (apply rN3; assumption) | (apply rN4; assumption) | exact bI_r _ | exact bI_01 _) only [↓fX9_would_0, ↓fX9_would_1, ↓fX9_would_2, ↓fX9_would_5, ↓fX9_would_6, ↓fX9_would_7, ↓fX9_would_10, ↓fX9_would_11, ↓fX9_would_12, ↓fX9_would_15, ↓fX9_would_16, ↓fX9_would_19, ↓fX9_would_19n, ↓fX9_would_20, ↓fX9_would_20n, ↓fX9_would_21, ↓fX9_would_21r, ↓fX9_would_24, ↓fX9_would_25, ↓fX9_would_26, ↓fX9_would_29, ↓fX9_would_30, ↓fX9_would_31, ↓fX9_would_31n, ↓fX9_would_32, ↓fX9_would_35, ↓fX9_would_36, ↓fX9_would_37, ↓fX9_would_40, ↓fX9_would_41, ↓fX9_would_44, ↓fX9_would_47, ↓c9_within, bI_0, ↓c9_fail, c1, and_self, true_and, and_true, false_and, and_false, not_true_eq_false, not_false_eq_true, or_self, true_or, or_true, false_or, or_false, ite_not, Decidable.not_not, decide_eq_true_eq, Bool.not_true, Bool.not_false, Bool.false_eq_true, Bool.not_eq_true, n10, n20, n21, n30, n31, n32, n40, n41, n42, n43, ↓reduceIte]⟩
  · have cq : (decide ((y < 1))) = false := decide_eq_false (by omega)
    have cb : onS (decide ((y < 1))) n s (ans (nAS (smS 600 (σ s.toNat)).1 y)) = if 0 ≤ s ∧ s < n then (ans (nAS (smS 600 (σ s.toNat)).1 y)) else (2, -1) := if_neg (by rw [cq]; decide)
    rw [cb]
    by_cases c : 0 ≤ s ∧ s < n
    · rw [if_pos c]
      obtain ⟨hS, hR, hW, e1⟩ := HXS_sv (L := L) hx c
      have s0 := hS.1
      have hg := hR.1
      obtain ⟨G1, f1, R1, W1, t1⟩ := c9_finishTrial (L := L) hx.1 hS hgt hR hW (by have := (hx.2.1.2.1.1 s.toNat (by have := hx.2.1.2.2.2.1.2; omega)).2; unfold svA; omega)
      have q0 := xS.1
      have e2 := fun Q => c7_numberAt (L := L) (Q := Q) xS R1.1 hy
      rw [RS_nA R1 W1] at e2
      have e3 : I32 (nAS (smS 600 (σ s.toNat)).1 y) := by have := nAS_b W1 y; exact ⟨by omega, by omega⟩
      refine ⟨u2 G1 X 5 (ans (nAS (smS 600 (σ s.toNat)).1 y)).1, lkX_fr f1 R1.1 _, u2_s _ _ _ _, fun Q => ?_⟩
      simp (disch := first | assumption | exact c2_int _ | exact c2_ref _ | exact c2_jk | exact c2_null | omega | (apply rN1; assumption) | (apply rN2; assumption) | (apply rN3; assumption) | (apply rN4; assumption) | exact bI_r _ | exact bI_01 _) only [↓fX9_would_0, ↓fX9_would_1, ↓fX9_would_2, ↓fX9_would_5, ↓fX9_would_6, ↓fX9_would_7, ↓fX9_would_10, ↓fX9_would_11, ↓fX9_would_12, ↓fX9_would_15, ↓fX9_would_16, ↓fX9_would_19, ↓fX9_would_19n, ↓fX9_would_20, ↓fX9_would_20n, ↓fX9_would_21, ↓fX9_would_21r, ↓fX9_would_24, ↓fX9_would_25, ↓fX9_would_26, ↓fX9_would_29, ↓fX9_would_30, ↓fX9_would_31, ↓fX9_would_31n, ↓fX9_would_32, ↓fX9_would_35, ↓fX9_would_36, ↓fX9_would_37, ↓fX9_would_40, ↓fX9_would_41, ↓fX9_would_44, ↓fX9_would_47, ↓c9_within, bI_0, ↓e1, ↓t1, ↓e2, ↓c9_answer, c1, and_self, true_and, and_true, false_and, and_false, not_true_eq_false, not_false_eq_true, or_self, true_or, or_true, false_or, or_false, ite_not, Decidable.not_not, decide_eq_true_eq, Bool.not_true, Bool.not_false, Bool.false_eq_true, Bool.not_eq_true, n10, n20, n21, n30, n31, n32, n40, n41, n42, n43, ↓reduceIte]
      rfl
    · rw [if_neg c]
      have e1 := HXS_none (L := L) hx hs c
      exact ⟨u2 G X 5 2, lkX_st hgt 2, u2_s _ _ _ _, fun Q => by simp (disch := first | assumption | exact c2_int _ | exact c2_ref _ | exact c2_jk | exact c2_null | omega | (apply rN1; assumption) | (apply rN2; assumption) | (apply rN3; assumption) | (apply rN4; assumption) | exact bI_r _ | exact bI_01 _) only [↓fX9_would_0, ↓fX9_would_1, ↓fX9_would_2, ↓fX9_would_5, ↓fX9_would_6, ↓fX9_would_7, ↓fX9_would_10, ↓fX9_would_11, ↓fX9_would_12, ↓fX9_would_15, ↓fX9_would_16, ↓fX9_would_19, ↓fX9_would_19n, ↓fX9_would_20, ↓fX9_would_20n, ↓fX9_would_21, ↓fX9_would_21r, ↓fX9_would_24, ↓fX9_would_25, ↓fX9_would_26, ↓fX9_would_29, ↓fX9_would_30, ↓fX9_would_31, ↓fX9_would_31n, ↓fX9_would_32, ↓fX9_would_35, ↓fX9_would_36, ↓fX9_would_37, ↓fX9_would_40, ↓fX9_would_41, ↓fX9_would_44, ↓fX9_would_47, ↓c9_within, bI_0, ↓e1, ↓c9_fail, c1, and_self, true_and, and_true, false_and, and_false, not_true_eq_false, not_false_eq_true, or_self, true_or, or_true, false_or, or_false, ite_not, Decidable.not_not, decide_eq_true_eq, Bool.not_true, Bool.not_false, Bool.false_eq_true, Bool.not_eq_true, n10, n20, n21, n30, n31, n32, n40, n41, n42, n43, ↓reduceIte]⟩
theorem x_gone (hx : HXS E r G X p q n σ a kk nn τ) (hs : I32 s) (hk : I32 k) : ∃ G', lkX G G' X ∧ G' X 5 = (onS (decide ((k < -1))) n s (if k = -1 then (0, σ s.toNat 3 - szS (σ s.toNat)) else ans (snZ (σ s.toNat) k))).1 ∧ ∀ Q, RK MX9_gone 0 [.ref X, .int (zi s), .int (zi k), jk] [] (0, 0) (E, zg G, zk L, r) Q = Q (E, zg G', zk L, r) (.int (zi (onS (decide ((k < -1))) n s (if k = -1 then (0, σ s.toNat 3 - szS (σ s.toNat)) else ans (snZ (σ s.toNat) k))).2)) := by
  obtain ⟨x0, ⟨x1, x2, x3, x4, x5⟩, xD, xP, xS, xT⟩ := id hx.1
  have h0 := hx.2.1.1.1
  have hgt := hx.2.2
  by_cases c1 : k < -1
  · have cb : onS (decide ((k < -1))) n s (if k = -1 then (0, σ s.toNat 3 - szS (σ s.toNat)) else ans (snZ (σ s.toNat) k)) = (1, -1) := if_pos (decide_eq_true (by omega))
    rw [cb]
    exact ⟨u2 G X 5 1, lkX_st hgt 1, u2_s _ _ _ _, fun Q => by simp (disch := first | assumption | exact c2_int _ | exact c2_ref _ | exact c2_jk | exact c2_null | omega | (apply rN1; assumption) | (apply rN2; assumption) | (apply rN3; assumption) | (apply rN4; assumption) | exact bI_r _ | exact bI_01 _) only [↓fX9_gone_0, ↓fX9_gone_1, ↓fX9_gone_2, ↓fX9_gone_5, ↓fX9_gone_6, ↓fX9_gone_7, ↓fX9_gone_10, ↓fX9_gone_11, ↓fX9_gone_12, ↓fX9_gone_15, ↓fX9_gone_16, ↓fX9_gone_19, ↓fX9_gone_19n, ↓fX9_gone_20, ↓fX9_gone_20n, ↓fX9_gone_21, ↓fX9_gone_21r, ↓fX9_gone_24, ↓fX9_gone_25, ↓fX9_gone_26, ↓fX9_gone_29, ↓fX9_gone_30, ↓fX9_gone_31, ↓fX9_gone_32, ↓fX9_gone_35, ↓fX9_gone_36, ↓fX9_gone_36n, ↓fX9_gone_37, ↓fX9_gone_40, ↓fX9_gone_40n, ↓fX9_gone_41, ↓fX9_gone_44, ↓fX9_gone_45, ↓fX9_gone_48, ↓fX9_gone_49, ↓fX9_gone_50, ↓fX9_gone_50n, ↓fX9_gone_51, ↓fX9_gone_52, ↓fX9_gone_55, ↓fX9_gone_58, ↓c9_within, bI_0, ↓c9_fail, c1, and_self, true_and, and_true, false_and, and_false, not_true_eq_false, not_false_eq_true, or_self, true_or, or_true, false_or, or_false, ite_not, Decidable.not_not, decide_eq_true_eq, Bool.not_true, Bool.not_false, Bool.false_eq_true, Bool.not_eq_true, n10, n20, n21, n30, n31, n32, n40, n41, n42, n43, ↓reduceIte]⟩
  · have cq : (decide ((k < -1))) = false := decide_eq_false (by omega)
    have cb : onS (decide ((k < -1))) n s (if k = -1 then (0, σ s.toNat 3 - szS (σ s.toNat)) else ans (snZ (σ s.toNat) k)) = if 0 ≤ s ∧ s < n then (if k = -1 then (0, σ s.toNat 3 - szS (σ s.toNat)) else ans (snZ (σ s.toNat) k)) else (2, -1) := if_neg (by rw [cq]; decide)
    rw [cb]
    by_cases c : 0 ≤ s ∧ s < n
    · rw [if_pos c]
      obtain ⟨hS, hR, hW, e1⟩ := HXS_sv (L := L) hx c
      have s0 := hS.1
      have hg := hR.1
      have g3 : G (svA X p s) 3 = σ s.toNat 3 := hR.2.2.1.2.2.2.1
      have g13 := RS_sz hR hW
      have e2 := fun Q => c3_struckNumber (L := L) (Q := Q) hS hg hk
      rw [RS_sn hR hW] at e2
      have e3 : I32 (snZ (σ s.toNat) k) := by have := snZ_b (k := k) hW; exact ⟨by omega, by omega⟩
      by_cases z : k = -1
      · refine ⟨u2 G X 5 0, lkX_st hgt _, ?_, fun Q => ?_⟩
        · rw [u2_s, if_pos z]
        · rw [if_pos z]
          have z' := z
          subst z'
          simp (disch := first | assumption | exact c2_int _ | exact c2_ref _ | exact c2_jk | exact c2_null | omega | (apply rN1; assumption) | (apply rN2; assumption) | (apply rN3; assumption) | (apply rN4; assumption) | exact bI_r _ | exact bI_01 _) only [↓fX9_gone_0, ↓fX9_gone_1, ↓fX9_gone_2, ↓fX9_gone_5, ↓fX9_gone_6, ↓fX9_gone_7, ↓fX9_gone_10, ↓fX9_gone_11, ↓fX9_gone_12, ↓fX9_gone_15, ↓fX9_gone_16, ↓fX9_gone_19, ↓fX9_gone_19n, ↓fX9_gone_20, ↓fX9_gone_20n, ↓fX9_gone_21, ↓fX9_gone_21r, ↓fX9_gone_24, ↓fX9_gone_25, ↓fX9_gone_26, ↓fX9_gone_29, ↓fX9_gone_30, ↓fX9_gone_31, ↓fX9_gone_32, ↓fX9_gone_35, ↓fX9_gone_36, ↓fX9_gone_36n, ↓fX9_gone_37, ↓fX9_gone_40, ↓fX9_gone_40n, ↓fX9_gone_41, ↓fX9_gone_44, ↓fX9_gone_45, ↓fX9_gone_48, ↓fX9_gone_49, ↓fX9_gone_50, ↓fX9_gone_50n, ↓fX9_gone_51, ↓fX9_gone_52, ↓fX9_gone_55, ↓fX9_gone_58, ↓c9_within, bI_0, ↓e1, ↓c9_succeed, g3, g13, c1, and_self, true_and, and_true, false_and, and_false, not_true_eq_false, not_false_eq_true, or_self, true_or, or_true, false_or, or_false, ite_not, Decidable.not_not, decide_eq_true_eq, Bool.not_true, Bool.not_false, Bool.false_eq_true, Bool.not_eq_true, n10, n20, n21, n30, n31, n32, n40, n41, n42, n43, ↓reduceIte]
      · refine ⟨u2 G X 5 (ans (snZ (σ s.toNat) k)).1, lkX_st hgt _, ?_, fun Q => ?_⟩
        · rw [u2_s, if_neg z]
        · rw [if_neg z]
          simp (disch := first | assumption | exact c2_int _ | exact c2_ref _ | exact c2_jk | exact c2_null | omega | (apply rN1; assumption) | (apply rN2; assumption) | (apply rN3; assumption) | (apply rN4; assumption) | exact bI_r _ | exact bI_01 _) only [↓fX9_gone_0, ↓fX9_gone_1, ↓fX9_gone_2, ↓fX9_gone_5, ↓fX9_gone_6, ↓fX9_gone_7, ↓fX9_gone_10, ↓fX9_gone_11, ↓fX9_gone_12, ↓fX9_gone_15, ↓fX9_gone_16, ↓fX9_gone_19, ↓fX9_gone_19n, ↓fX9_gone_20, ↓fX9_gone_20n, ↓fX9_gone_21, ↓fX9_gone_21r, ↓fX9_gone_24, ↓fX9_gone_25, ↓fX9_gone_26, ↓fX9_gone_29, ↓fX9_gone_30, ↓fX9_gone_31, ↓fX9_gone_32, ↓fX9_gone_35, ↓fX9_gone_36, ↓fX9_gone_36n, ↓fX9_gone_37, ↓fX9_gone_40, ↓fX9_gone_40n, ↓fX9_gone_41, ↓fX9_gone_44, ↓fX9_gone_45, ↓fX9_gone_48, ↓fX9_gone_49, ↓fX9_gone_50, ↓fX9_gone_50n, ↓fX9_gone_51, ↓fX9_gone_52, ↓fX9_gone_55, ↓fX9_gone_58, ↓c9_within, bI_0, ↓e1, ↓e2, ↓c9_answer, z, c1, and_self, true_and, and_true, false_and, and_false, not_true_eq_false, not_false_eq_true, or_self, true_or, or_true, false_or, or_false, ite_not, Decidable.not_not, decide_eq_true_eq, Bool.not_true, Bool.not_false, Bool.false_eq_true, Bool.not_eq_true, n10, n20, n21, n30, n31, n32, n40, n41, n42, n43, ↓reduceIte]
          rfl
    · rw [if_neg c]
      have e1 := HXS_none (L := L) hx hs c
      exact ⟨u2 G X 5 2, lkX_st hgt 2, u2_s _ _ _ _, fun Q => by simp (disch := first | assumption | exact c2_int _ | exact c2_ref _ | exact c2_jk | exact c2_null | omega | (apply rN1; assumption) | (apply rN2; assumption) | (apply rN3; assumption) | (apply rN4; assumption) | exact bI_r _ | exact bI_01 _) only [↓fX9_gone_0, ↓fX9_gone_1, ↓fX9_gone_2, ↓fX9_gone_5, ↓fX9_gone_6, ↓fX9_gone_7, ↓fX9_gone_10, ↓fX9_gone_11, ↓fX9_gone_12, ↓fX9_gone_15, ↓fX9_gone_16, ↓fX9_gone_19, ↓fX9_gone_19n, ↓fX9_gone_20, ↓fX9_gone_20n, ↓fX9_gone_21, ↓fX9_gone_21r, ↓fX9_gone_24, ↓fX9_gone_25, ↓fX9_gone_26, ↓fX9_gone_29, ↓fX9_gone_30, ↓fX9_gone_31, ↓fX9_gone_32, ↓fX9_gone_35, ↓fX9_gone_36, ↓fX9_gone_36n, ↓fX9_gone_37, ↓fX9_gone_40, ↓fX9_gone_40n, ↓fX9_gone_41, ↓fX9_gone_44, ↓fX9_gone_45, ↓fX9_gone_48, ↓fX9_gone_49, ↓fX9_gone_50, ↓fX9_gone_50n, ↓fX9_gone_51, ↓fX9_gone_52, ↓fX9_gone_55, ↓fX9_gone_58, ↓c9_within, bI_0, ↓e1, ↓c9_fail, c1, and_self, true_and, and_true, false_and, and_false, not_true_eq_false, not_false_eq_true, or_self, true_or, or_true, false_or, or_false, ite_not, Decidable.not_not, decide_eq_true_eq, Bool.not_true, Bool.not_false, Bool.false_eq_true, Bool.not_eq_true, n10, n20, n21, n30, n31, n32, n40, n41, n42, n43, ↓reduceIte]⟩
end BS
