/-! Calls of the house that only look. -/
section BS
variable {E : AE} {G G' L : Nat → Nat → Int} {r : Nat → Nat → Option Nat} {h : AH} {Q : AH → Value → Prop} {X S n a cl : Nat} {v y s x d e b c w k o : Int} {p q : Nat → Nat} {σ τ : Nat → Nat → Int} {kk nn : Nat → Int} {ln : Nat → Nat} {lv : Nat → Nat → Int}
theorem x_gaps (hx : HXS E r G X p q n σ a kk nn τ) (hs : I32 s) (hw : I32 w) : ∃ G', lkX G G' X ∧ G' X 5 = (onS (decide ((¬ (0 ≤ w ∧ w ≤ 3)))) n s (if szS (σ s.toNat) < 2 then (5, -1) else if w = 3 then (0, ugZ (σ s.toNat)) else if w = 1 then (0, pgZ (σ s.toNat)) else if w = 0 then (0, gAS (σ s.toNat) (pgZ (σ s.toNat))) else (0, cgZ (σ s.toNat) (gAS (σ s.toNat) (pgZ (σ s.toNat)))))).1 ∧ ∀ Q, RK MX9_gaps 0 [.ref X, .int (zi s), .int (zi w), jk, jk, jk] [] (0, 0) (E, zg G, zk L, r) Q = Q (E, zg G', zk L, r) (.int (zi (onS (decide ((¬ (0 ≤ w ∧ w ≤ 3)))) n s (if szS (σ s.toNat) < 2 then (5, -1) else if w = 3 then (0, ugZ (σ s.toNat)) else if w = 1 then (0, pgZ (σ s.toNat)) else if w = 0 then (0, gAS (σ s.toNat) (pgZ (σ s.toNat))) else (0, cgZ (σ s.toNat) (gAS (σ s.toNat) (pgZ (σ s.toNat)))))).2)) := by
  obtain ⟨x0, ⟨x1, x2, x3, x4, x5⟩, xD, xP, xS, xT⟩ := id hx.1
  have h0 := hx.2.1.1.1
  have hgt := hx.2.2
  by_cases c1 : ¬ (0 ≤ w ∧ w ≤ 3)
  · have cb : onS (decide ((¬ (0 ≤ w ∧ w ≤ 3)))) n s (if szS (σ s.toNat) < 2 then (5, -1) else if w = 3 then (0, ugZ (σ s.toNat)) else if w = 1 then (0, pgZ (σ s.toNat)) else if w = 0 then (0, gAS (σ s.toNat) (pgZ (σ s.toNat))) else (0, cgZ (σ s.toNat) (gAS (σ s.toNat) (pgZ (σ s.toNat))))) = (1, -1) := if_pos (decide_eq_true (by omega))
    rw [cb]
    exact ⟨u2 G X 5 1, lkX_st hgt 1, u2_s _ _ _ _, fun Q => by simp (disch := first | assumption | exact c2_int _ | exact c2_ref _ | exact c2_jk | exact c2_null | omega | (apply rN1; assumption) | (apply rN2; assumption) | (apply rN3; assumption) | (apply rN4; assumption) | exact bI_r _ | exact bI_01 _) only [↓fX9_gaps_0, ↓fX9_gaps_1, ↓fX9_gaps_2, ↓fX9_gaps_3, ↓fX9_gaps_6, ↓fX9_gaps_9, ↓fX9_gaps_10, ↓fX9_gaps_11, ↓fX9_gaps_14, ↓fX9_gaps_15, ↓fX9_gaps_16, ↓fX9_gaps_19, ↓fX9_gaps_20, ↓fX9_gaps_23, ↓fX9_gaps_23n, ↓fX9_gaps_24, ↓fX9_gaps_24n, ↓fX9_gaps_25, ↓fX9_gaps_25r, ↓fX9_gaps_28, ↓fX9_gaps_29, ↓fX9_gaps_30, ↓fX9_gaps_33, ↓fX9_gaps_34, ↓fX9_gaps_34n, ↓fX9_gaps_35, ↓fX9_gaps_38, ↓fX9_gaps_39, ↓fX9_gaps_42, ↓fX9_gaps_43, ↓fX9_gaps_44, ↓fX9_gaps_47, ↓fX9_gaps_48, ↓fX9_gaps_49, ↓fX9_gaps_50, ↓fX9_gaps_53, ↓fX9_gaps_54, ↓fX9_gaps_54n, ↓fX9_gaps_55, ↓fX9_gaps_56, ↓fX9_gaps_59, ↓fX9_gaps_62, ↓fX9_gaps_65, ↓fX9_gaps_66, ↓fX9_gaps_66n, ↓fX9_gaps_67, ↓fX9_gaps_70, ↓fX9_gaps_72, ↓fX9_gaps_73, ↓fX9_gaps_74, ↓fX9_gaps_77, ↓fX9_gaps_78, ↓fX9_gaps_80, ↓fX9_gaps_83, ↓fX9_gaps_84, ↓fX9_gaps_84n, ↓fX9_gaps_85, ↓fX9_gaps_87, ↓fX9_gaps_90, ↓fX9_gaps_92, ↓fX9_gaps_93, ↓fX9_gaps_94, ↓fX9_gaps_97, ↓fX9_gaps_99, ↓fX9_gaps_102, ↓fX9_gaps_102n, ↓fX9_gaps_103, ↓fX9_gaps_105, ↓fX9_gaps_108, ↓fX9_gaps_111, ↓c9_within, bI_0, ↓c9_fail, c1, and_self, true_and, and_true, false_and, and_false, not_true_eq_false, not_false_eq_true, or_self, true_or, or_true, false_or, or_false, ite_not, Decidable.not_not, decide_eq_true_eq, Bool.not_true, Bool.not_false, Bool.false_eq_true, Bool.not_eq_true, n10, n20, n21, n30, n31, n32, n40, n41, n42, n43, ↓reduceIte]⟩
  · have c1 := Decidable.not_not.mp c1
    have cq : (decide ((¬ (0 ≤ w ∧ w ≤ 3)))) = false := decide_eq_false (by omega)
    have cb : onS (decide ((¬ (0 ≤ w ∧ w ≤ 3)))) n s (if szS (σ s.toNat) < 2 then (5, -1) else if w = 3 then (0, ugZ (σ s.toNat)) else if w = 1 then (0, pgZ (σ s.toNat)) else if w = 0 then (0, gAS (σ s.toNat) (pgZ (σ s.toNat))) else (0, cgZ (σ s.toNat) (gAS (σ s.toNat) (pgZ (σ s.toNat))))) = if 0 ≤ s ∧ s < n then (if szS (σ s.toNat) < 2 then (5, -1) else if w = 3 then (0, ugZ (σ s.toNat)) else if w = 1 then (0, pgZ (σ s.toNat)) else if w = 0 then (0, gAS (σ s.toNat) (pgZ (σ s.toNat))) else (0, cgZ (σ s.toNat) (gAS (σ s.toNat) (pgZ (σ s.toNat))))) else (2, -1) := if_neg (by rw [cq]; decide)
    rw [cb]
    by_cases c : 0 ≤ s ∧ s < n
    · rw [if_pos c]
      obtain ⟨hS, hR, hW, e1⟩ := HXS_sv (L := L) hx c
      have s0 := hS.1
      have hg := hR.1
      have g13 := RS_sz hR hW
      have hz := szS_b hW
      have gI : 1 ≤ G (svA X p s) 13 := by omega
      by_cases z : szS (σ s.toNat) < 2
      · refine ⟨u2 G X 5 5, lkX_st hgt _, ?_, fun Q => ?_⟩
        · rw [u2_s, if_pos z]
        · rw [if_pos z]
          simp (disch := first | assumption | exact c2_int _ | exact c2_ref _ | exact c2_jk | exact c2_null | omega | (apply rN1; assumption) | (apply rN2; assumption) | (apply rN3; assumption) | (apply rN4; assumption) | exact bI_r _ | exact bI_01 _) only [↓fX9_gaps_0, ↓fX9_gaps_1, ↓fX9_gaps_2, ↓fX9_gaps_3, ↓fX9_gaps_6, ↓fX9_gaps_9, ↓fX9_gaps_10, ↓fX9_gaps_11, ↓fX9_gaps_14, ↓fX9_gaps_15, ↓fX9_gaps_16, ↓fX9_gaps_19, ↓fX9_gaps_20, ↓fX9_gaps_23, ↓fX9_gaps_23n, ↓fX9_gaps_24, ↓fX9_gaps_24n, ↓fX9_gaps_25, ↓fX9_gaps_25r, ↓fX9_gaps_28, ↓fX9_gaps_29, ↓fX9_gaps_30, ↓fX9_gaps_33, ↓fX9_gaps_34, ↓fX9_gaps_34n, ↓fX9_gaps_35, ↓fX9_gaps_38, ↓fX9_gaps_39, ↓fX9_gaps_42, ↓fX9_gaps_43, ↓fX9_gaps_44, ↓fX9_gaps_47, ↓fX9_gaps_48, ↓fX9_gaps_49, ↓fX9_gaps_50, ↓fX9_gaps_53, ↓fX9_gaps_54, ↓fX9_gaps_54n, ↓fX9_gaps_55, ↓fX9_gaps_56, ↓fX9_gaps_59, ↓fX9_gaps_62, ↓fX9_gaps_65, ↓fX9_gaps_66, ↓fX9_gaps_66n, ↓fX9_gaps_67, ↓fX9_gaps_70, ↓fX9_gaps_72, ↓fX9_gaps_73, ↓fX9_gaps_74, ↓fX9_gaps_77, ↓fX9_gaps_78, ↓fX9_gaps_80, ↓fX9_gaps_83, ↓fX9_gaps_84, ↓fX9_gaps_84n, ↓fX9_gaps_85, ↓fX9_gaps_87, ↓fX9_gaps_90, ↓fX9_gaps_92, ↓fX9_gaps_93, ↓fX9_gaps_94, ↓fX9_gaps_97, ↓fX9_gaps_99, ↓fX9_gaps_102, ↓fX9_gaps_102n, ↓fX9_gaps_103, ↓fX9_gaps_105, ↓fX9_gaps_108, ↓fX9_gaps_111, ↓c9_within, bI_0, ↓e1, ↓c9_fail, g13, z, c1, and_self, true_and, and_true, false_and, and_false, not_true_eq_false, not_false_eq_true, or_self, true_or, or_true, false_or, or_false, ite_not, Decidable.not_not, decide_eq_true_eq, Bool.not_true, Bool.not_false, Bool.false_eq_true, Bool.not_eq_true, n10, n20, n21, n30, n31, n32, n40, n41, n42, n43, ↓reduceIte]
      · have et := fun Q => c8_unlikeGaps (L := L) (Q := Q) hS hg hR.2.1 gI xT (by unfold ofS svA; have := (hx.2.1.2.1.1 s.toNat (by have := hx.2.1.2.2.2.1.2; omega)).2; omega)
        rw [RS_ug hR hW] at et
        have e2 := fun Q => c8_placeOfGreatest (L := L) (Q := Q) hS hg
        have pb := pgC_b hg
        rw [RS_pg hR hW] at e2 pb
        have e4 := fun Q => c7_gapAt (L := L) (Q := Q) hS hg (p := pgZ (σ s.toNat)) (by omega)
        rw [RS_gA hR hW] at e4
        have gb := gAS_b hW (pgZ (σ s.toNat))
        have e5 := fun Q => c8_countGaps (L := L) (Q := Q) hS hg (d := gAS (σ s.toNat) (pgZ (σ s.toNat))) ⟨by omega, by omega⟩
        rw [RS_cg hR hW] at e5
        rw [if_neg z]
        by_cases w3 : w = 3
        · refine ⟨u2 (tyF G (X + 129) (stF G (svA X p s)) (G (svA X p s) 13 - 1).toNat) X 5 0, lkX_sc (fun q hq => tyF_q hq) hgt _, ?_, fun Q => ?_⟩
          · rw [u2_s, if_pos w3]
          · rw [if_pos w3]
            have c1 : 0 ≤ (3 : Int) ∧ (3 : Int) ≤ 3 := by omega
            subst w3
            simp (disch := first | assumption | exact c2_int _ | exact c2_ref _ | exact c2_jk | exact c2_null | omega | (apply rN1; assumption) | (apply rN2; assumption) | (apply rN3; assumption) | (apply rN4; assumption) | exact bI_r _ | exact bI_01 _) only [↓fX9_gaps_0, ↓fX9_gaps_1, ↓fX9_gaps_2, ↓fX9_gaps_3, ↓fX9_gaps_6, ↓fX9_gaps_9, ↓fX9_gaps_10, ↓fX9_gaps_11, ↓fX9_gaps_14, ↓fX9_gaps_15, ↓fX9_gaps_16, ↓fX9_gaps_19, ↓fX9_gaps_20, ↓fX9_gaps_23, ↓fX9_gaps_23n, ↓fX9_gaps_24, ↓fX9_gaps_24n, ↓fX9_gaps_25, ↓fX9_gaps_25r, ↓fX9_gaps_28, ↓fX9_gaps_29, ↓fX9_gaps_30, ↓fX9_gaps_33, ↓fX9_gaps_34, ↓fX9_gaps_34n, ↓fX9_gaps_35, ↓fX9_gaps_38, ↓fX9_gaps_39, ↓fX9_gaps_42, ↓fX9_gaps_43, ↓fX9_gaps_44, ↓fX9_gaps_47, ↓fX9_gaps_48, ↓fX9_gaps_49, ↓fX9_gaps_50, ↓fX9_gaps_53, ↓fX9_gaps_54, ↓fX9_gaps_54n, ↓fX9_gaps_55, ↓fX9_gaps_56, ↓fX9_gaps_59, ↓fX9_gaps_62, ↓fX9_gaps_65, ↓fX9_gaps_66, ↓fX9_gaps_66n, ↓fX9_gaps_67, ↓fX9_gaps_70, ↓fX9_gaps_72, ↓fX9_gaps_73, ↓fX9_gaps_74, ↓fX9_gaps_77, ↓fX9_gaps_78, ↓fX9_gaps_80, ↓fX9_gaps_83, ↓fX9_gaps_84, ↓fX9_gaps_84n, ↓fX9_gaps_85, ↓fX9_gaps_87, ↓fX9_gaps_90, ↓fX9_gaps_92, ↓fX9_gaps_93, ↓fX9_gaps_94, ↓fX9_gaps_97, ↓fX9_gaps_99, ↓fX9_gaps_102, ↓fX9_gaps_102n, ↓fX9_gaps_103, ↓fX9_gaps_105, ↓fX9_gaps_108, ↓fX9_gaps_111, ↓c9_within, bI_0, ↓e1, ↓et, ↓c9_succeed, g13, z, c1, and_self, true_and, and_true, false_and, and_false, not_true_eq_false, not_false_eq_true, or_self, true_or, or_true, false_or, or_false, ite_not, Decidable.not_not, decide_eq_true_eq, Bool.not_true, Bool.not_false, Bool.false_eq_true, Bool.not_eq_true, n10, n20, n21, n30, n31, n32, n40, n41, n42, n43, ↓reduceIte]
        · by_cases w1 : w = 1
          · refine ⟨u2 G X 5 0, lkX_st hgt _, ?_, fun Q => ?_⟩
            · rw [u2_s, if_neg w3, if_pos w1]
            · rw [if_neg w3, if_pos w1]
              have c1 : 0 ≤ (1 : Int) ∧ (1 : Int) ≤ 3 := by omega
              have n13 : ((1 : Int) = 3) = False := by decide
              subst w1
              simp (disch := first | assumption | exact c2_int _ | exact c2_ref _ | exact c2_jk | exact c2_null | omega | (apply rN1; assumption) | (apply rN2; assumption) | (apply rN3; assumption) | (apply rN4; assumption) | exact bI_r _ | exact bI_01 _) only [↓fX9_gaps_0, ↓fX9_gaps_1, ↓fX9_gaps_2, ↓fX9_gaps_3, ↓fX9_gaps_6, ↓fX9_gaps_9, ↓fX9_gaps_10, ↓fX9_gaps_11, ↓fX9_gaps_14, ↓fX9_gaps_15, ↓fX9_gaps_16, ↓fX9_gaps_19, ↓fX9_gaps_20, ↓fX9_gaps_23, ↓fX9_gaps_23n, ↓fX9_gaps_24, ↓fX9_gaps_24n, ↓fX9_gaps_25, ↓fX9_gaps_25r, ↓fX9_gaps_28, ↓fX9_gaps_29, ↓fX9_gaps_30, ↓fX9_gaps_33, ↓fX9_gaps_34, ↓fX9_gaps_34n, ↓fX9_gaps_35, ↓fX9_gaps_38, ↓fX9_gaps_39, ↓fX9_gaps_42, ↓fX9_gaps_43, ↓fX9_gaps_44, ↓fX9_gaps_47, ↓fX9_gaps_48, ↓fX9_gaps_49, ↓fX9_gaps_50, ↓fX9_gaps_53, ↓fX9_gaps_54, ↓fX9_gaps_54n, ↓fX9_gaps_55, ↓fX9_gaps_56, ↓fX9_gaps_59, ↓fX9_gaps_62, ↓fX9_gaps_65, ↓fX9_gaps_66, ↓fX9_gaps_66n, ↓fX9_gaps_67, ↓fX9_gaps_70, ↓fX9_gaps_72, ↓fX9_gaps_73, ↓fX9_gaps_74, ↓fX9_gaps_77, ↓fX9_gaps_78, ↓fX9_gaps_80, ↓fX9_gaps_83, ↓fX9_gaps_84, ↓fX9_gaps_84n, ↓fX9_gaps_85, ↓fX9_gaps_87, ↓fX9_gaps_90, ↓fX9_gaps_92, ↓fX9_gaps_93, ↓fX9_gaps_94, ↓fX9_gaps_97, ↓fX9_gaps_99, ↓fX9_gaps_102, ↓fX9_gaps_102n, ↓fX9_gaps_103, ↓fX9_gaps_105, ↓fX9_gaps_108, ↓fX9_gaps_111, ↓c9_within, bI_0, ↓e1, ↓e2, ↓c9_succeed, g13, z, n13, c1, and_self, true_and, and_true, false_and, and_false, not_true_eq_false, not_false_eq_true, or_self, true_or, or_true, false_or, or_false, ite_not, Decidable.not_not, decide_eq_true_eq, Bool.not_true, Bool.not_false, Bool.false_eq_true, Bool.not_eq_true, n10, n20, n21, n30, n31, n32, n40, n41, n42, n43, ↓reduceIte]
          · by_cases w0 : w = 0
            · refine ⟨u2 G X 5 0, lkX_st hgt _, ?_, fun Q => ?_⟩
              · rw [u2_s, if_neg w3, if_neg w1, if_pos w0]
              · rw [if_neg w3, if_neg w1, if_pos w0]
                have c1 : 0 ≤ (0 : Int) ∧ (0 : Int) ≤ 3 := by omega
                have n03 : ((0 : Int) = 3) = False := by decide
                have n01 : ((0 : Int) = 1) = False := by decide
                subst w0
                simp (disch := first | assumption | exact c2_int _ | exact c2_ref _ | exact c2_jk | exact c2_null | omega | (apply rN1; assumption) | (apply rN2; assumption) | (apply rN3; assumption) | (apply rN4; assumption) | exact bI_r _ | exact bI_01 _) only [↓fX9_gaps_0, ↓fX9_gaps_1, ↓fX9_gaps_2, ↓fX9_gaps_3, ↓fX9_gaps_6, ↓fX9_gaps_9, ↓fX9_gaps_10, ↓fX9_gaps_11, ↓fX9_gaps_14, ↓fX9_gaps_15, ↓fX9_gaps_16, ↓fX9_gaps_19, ↓fX9_gaps_20, ↓fX9_gaps_23, ↓fX9_gaps_23n, ↓fX9_gaps_24, ↓fX9_gaps_24n, ↓fX9_gaps_25, ↓fX9_gaps_25r, ↓fX9_gaps_28, ↓fX9_gaps_29, ↓fX9_gaps_30, ↓fX9_gaps_33, ↓fX9_gaps_34, ↓fX9_gaps_34n, ↓fX9_gaps_35, ↓fX9_gaps_38, ↓fX9_gaps_39, ↓fX9_gaps_42, ↓fX9_gaps_43, ↓fX9_gaps_44, ↓fX9_gaps_47, ↓fX9_gaps_48, ↓fX9_gaps_49, ↓fX9_gaps_50, ↓fX9_gaps_53, ↓fX9_gaps_54, ↓fX9_gaps_54n, ↓fX9_gaps_55, ↓fX9_gaps_56, ↓fX9_gaps_59, ↓fX9_gaps_62, ↓fX9_gaps_65, ↓fX9_gaps_66, ↓fX9_gaps_66n, ↓fX9_gaps_67, ↓fX9_gaps_70, ↓fX9_gaps_72, ↓fX9_gaps_73, ↓fX9_gaps_74, ↓fX9_gaps_77, ↓fX9_gaps_78, ↓fX9_gaps_80, ↓fX9_gaps_83, ↓fX9_gaps_84, ↓fX9_gaps_84n, ↓fX9_gaps_85, ↓fX9_gaps_87, ↓fX9_gaps_90, ↓fX9_gaps_92, ↓fX9_gaps_93, ↓fX9_gaps_94, ↓fX9_gaps_97, ↓fX9_gaps_99, ↓fX9_gaps_102, ↓fX9_gaps_102n, ↓fX9_gaps_103, ↓fX9_gaps_105, ↓fX9_gaps_108, ↓fX9_gaps_111, ↓c9_within, bI_0, ↓e1, ↓e2, ↓e4, ↓c9_succeed, g13, z, n03, n01, c1, and_self, true_and, and_true, false_and, and_false, not_true_eq_false, not_false_eq_true, or_self, true_or, or_true, false_or, or_false, ite_not, Decidable.not_not, decide_eq_true_eq, Bool.not_true, Bool.not_false, Bool.false_eq_true, Bool.not_eq_true, n10, n20, n21, n30, n31, n32, n40, n41, n42, n43, ↓reduceIte]
            · refine ⟨u2 G X 5 0, lkX_st hgt _, ?_, fun Q => ?_⟩
              · rw [u2_s, if_neg w3, if_neg w1, if_neg w0]
              · rw [if_neg w3, if_neg w1, if_neg w0]
                simp (disch := first | assumption | exact c2_int _ | exact c2_ref _ | exact c2_jk | exact c2_null | omega | (apply rN1; assumption) | (apply rN2; assumption) | (apply rN3; assumption) | (apply rN4; assumption) | exact bI_r _ | exact bI_01 _) only [↓fX9_gaps_0, ↓fX9_gaps_1, ↓fX9_gaps_2, ↓fX9_gaps_3, ↓fX9_gaps_6, ↓fX9_gaps_9, ↓fX9_gaps_10, ↓fX9_gaps_11, ↓fX9_gaps_14, ↓fX9_gaps_15, ↓fX9_gaps_16, ↓fX9_gaps_19, ↓fX9_gaps_20, ↓fX9_gaps_23, ↓fX9_gaps_23n, ↓fX9_gaps_24, ↓fX9_gaps_24n, ↓fX9_gaps_25, ↓fX9_gaps_25r, ↓fX9_gaps_28, ↓fX9_gaps_29, ↓fX9_gaps_30, ↓fX9_gaps_33, ↓fX9_gaps_34, ↓fX9_gaps_34n, ↓fX9_gaps_35, ↓fX9_gaps_38, ↓fX9_gaps_39, ↓fX9_gaps_42, ↓fX9_gaps_43, ↓fX9_gaps_44, ↓fX9_gaps_47, ↓fX9_gaps_48, ↓fX9_gaps_49, ↓fX9_gaps_50, ↓fX9_gaps_53, ↓fX9_gaps_54, ↓fX9_gaps_54n, ↓fX9_gaps_55, ↓fX9_gaps_56, ↓fX9_gaps_59, ↓fX9_gaps_62, ↓fX9_gaps_65, ↓fX9_gaps_66, ↓fX9_gaps_66n, ↓fX9_gaps_67, ↓fX9_gaps_70, ↓fX9_gaps_72, ↓fX9_gaps_73, ↓fX9_gaps_74, ↓fX9_gaps_77, ↓fX9_gaps_78, ↓fX9_gaps_80, ↓fX9_gaps_83, ↓fX9_gaps_84, ↓fX9_gaps_84n, ↓fX9_gaps_85, ↓fX9_gaps_87, ↓fX9_gaps_90, ↓fX9_gaps_92, ↓fX9_gaps_93, ↓fX9_gaps_94, ↓fX9_gaps_97, ↓fX9_gaps_99, ↓fX9_gaps_102, ↓fX9_gaps_102n, ↓fX9_gaps_103, ↓fX9_gaps_105, ↓fX9_gaps_108, ↓fX9_gaps_111, ↓c9_within, bI_0, ↓e1, ↓e2, ↓e4, ↓e5, ↓c9_succeed, g13, z, w0, w1, w3, c1, and_self, true_and, and_true, false_and, and_false, not_true_eq_false, not_false_eq_true, or_self, true_or, or_true, false_or, or_false, ite_not, Decidable.not_not, decide_eq_true_eq, Bool.not_true, Bool.not_false, Bool.false_eq_true, Bool.not_eq_true, n10, n20, n21, n30, n31, n32, n40, n41, n42, n43, ↓reduceIte]
    · rw [if_neg c]
      have e1 := HXS_none (L := L) hx hs c
      exact ⟨u2 G X 5 2, lkX_st hgt 2, u2_s _ _ _ _, fun Q => by simp (disch := first | assumption | exact c2_int _ | exact c2_ref _ | exact c2_jk | exact c2_null | omega | (apply rN1; assumption) | (apply rN2; assumption) | (apply rN3; assumption) | (apply rN4; assumption) | exact bI_r _ | exact bI_01 _) only [↓fX9_gaps_0, ↓fX9_gaps_1, ↓fX9_gaps_2, ↓fX9_gaps_3, ↓fX9_gaps_6, ↓fX9_gaps_9, ↓fX9_gaps_10, ↓fX9_gaps_11, ↓fX9_gaps_14, ↓fX9_gaps_15, ↓fX9_gaps_16, ↓fX9_gaps_19, ↓fX9_gaps_20, ↓fX9_gaps_23, ↓fX9_gaps_23n, ↓fX9_gaps_24, ↓fX9_gaps_24n, ↓fX9_gaps_25, ↓fX9_gaps_25r, ↓fX9_gaps_28, ↓fX9_gaps_29, ↓fX9_gaps_30, ↓fX9_gaps_33, ↓fX9_gaps_34, ↓fX9_gaps_34n, ↓fX9_gaps_35, ↓fX9_gaps_38, ↓fX9_gaps_39, ↓fX9_gaps_42, ↓fX9_gaps_43, ↓fX9_gaps_44, ↓fX9_gaps_47, ↓fX9_gaps_48, ↓fX9_gaps_49, ↓fX9_gaps_50, ↓fX9_gaps_53, ↓fX9_gaps_54, ↓fX9_gaps_54n, ↓fX9_gaps_55, ↓fX9_gaps_56, ↓fX9_gaps_59, ↓fX9_gaps_62, ↓fX9_gaps_65, ↓fX9_gaps_66, ↓fX9_gaps_66n, ↓fX9_gaps_67, ↓fX9_gaps_70, ↓fX9_gaps_72, ↓fX9_gaps_73, ↓fX9_gaps_74, ↓fX9_gaps_77, ↓fX9_gaps_78, ↓fX9_gaps_80, ↓fX9_gaps_83, ↓fX9_gaps_84, ↓fX9_gaps_84n, ↓fX9_gaps_85, ↓fX9_gaps_87, ↓fX9_gaps_90, ↓fX9_gaps_92, ↓fX9_gaps_93, ↓fX9_gaps_94, ↓fX9_gaps_97, ↓fX9_gaps_99, ↓fX9_gaps_102, ↓fX9_gaps_102n, ↓fX9_gaps_103, ↓fX9_gaps_105, ↓fX9_gaps_108, ↓fX9_gaps_111, ↓c9_within, bI_0, ↓e1, ↓c9_fail, c1, and_self, true_and, and_true, false_and, and_false, not_true_eq_false, not_false_eq_true, or_self, true_or, or_true, false_or, or_false, ite_not, Decidable.not_not, decide_eq_true_eq, Bool.not_true, Bool.not_false, Bool.false_eq_true, Bool.not_eq_true, n10, n20, n21, n30, n31, n32, n40, n41, n42, n43, ↓reduceIte]⟩
theorem x_record (hx : HXS E r G X p q n σ a kk nn τ) (hs : I32 s) (hk : I32 k) : ∃ G', lkX G G' X ∧ G' X 5 = (onS (decide ((k < -1))) n s (ans (rcZ (σ s.toNat) k))).1 ∧ ∀ Q, RK MX9_record 0 [.ref X, .int (zi s), .int (zi k), jk] [] (0, 0) (E, zg G, zk L, r) Q = Q (E, zg G', zk L, r) (.int (zi (onS (decide ((k < -1))) n s (ans (rcZ (σ s.toNat) k))).2)) := by
  obtain ⟨x0, ⟨x1, x2, x3, x4, x5⟩, xD, xP, xS, xT⟩ := id hx.1
  have h0 := hx.2.1.1.1
  have hgt := hx.2.2
  by_cases c1 : k < -1
  · have cb : onS (decide ((k < -1))) n s (ans (rcZ (σ s.toNat) k)) = (1, -1) := if_pos (decide_eq_true (by omega))
    rw [cb]
    exact ⟨u2 G X 5 1, lkX_st hgt 1, u2_s _ _ _ _, fun Q => by simp (disch := first | assumption | exact c2_int _ | exact c2_ref _ | exact c2_jk | exact c2_null | omega | (apply rN1; assumption) | (apply rN2; assumption) | (apply rN3; assumption) | (apply rN4; assumption) | exact bI_r _ | exact bI_01 _) only [↓fX9_record_0, ↓fX9_record_1, ↓fX9_record_2, ↓fX9_record_5, ↓fX9_record_6, ↓fX9_record_7, ↓fX9_record_10, ↓fX9_record_11, ↓fX9_record_12, ↓fX9_record_15, ↓fX9_record_16, ↓fX9_record_19, ↓fX9_record_19n, ↓fX9_record_20, ↓fX9_record_20n, ↓fX9_record_21, ↓fX9_record_21r, ↓fX9_record_24, ↓fX9_record_25, ↓fX9_record_26, ↓fX9_record_29, ↓fX9_record_30, ↓fX9_record_31, ↓fX9_record_31n, ↓fX9_record_32, ↓fX9_record_33, ↓fX9_record_36, ↓fX9_record_39, ↓c9_within, bI_0, ↓c9_fail, c1, and_self, true_and, and_true, false_and, and_false, not_true_eq_false, not_false_eq_true, or_self, true_or, or_true, false_or, or_false, ite_not, Decidable.not_not, decide_eq_true_eq, Bool.not_true, Bool.not_false, Bool.false_eq_true, Bool.not_eq_true, n10, n20, n21, n30, n31, n32, n40, n41, n42, n43, ↓reduceIte]⟩
  · have cq : (decide ((k < -1))) = false := decide_eq_false (by omega)
    have cb : onS (decide ((k < -1))) n s (ans (rcZ (σ s.toNat) k)) = if 0 ≤ s ∧ s < n then (ans (rcZ (σ s.toNat) k)) else (2, -1) := if_neg (by rw [cq]; decide)
    rw [cb]
    by_cases c : 0 ≤ s ∧ s < n
    · rw [if_pos c]
      obtain ⟨hS, hR, hW, e1⟩ := HXS_sv (L := L) hx c
      have s0 := hS.1
      have hg := hR.1
      have e2 := fun Q => c8_recordPlace (L := L) (Q := Q) hS hg hk
      have e4 : rcL (gA G (svA X p s)) (G (svA X p s) 13) k 600 1 0 0 = rcZ (σ s.toNat) k := by unfold rcZ; rw [RS_gA hR hW, RS_sz hR hW]
      rw [e4] at e2
      have e3 : I32 (rcZ (σ s.toNat) k) := by have := rcZ_b (σ s.toNat) k; exact ⟨by omega, by omega⟩
      refine ⟨u2 G X 5 (ans (rcZ (σ s.toNat) k)).1, lkX_st hgt _, u2_s _ _ _ _, fun Q => ?_⟩
      simp (disch := first | assumption | exact c2_int _ | exact c2_ref _ | exact c2_jk | exact c2_null | omega | (apply rN1; assumption) | (apply rN2; assumption) | (apply rN3; assumption) | (apply rN4; assumption) | exact bI_r _ | exact bI_01 _) only [↓fX9_record_0, ↓fX9_record_1, ↓fX9_record_2, ↓fX9_record_5, ↓fX9_record_6, ↓fX9_record_7, ↓fX9_record_10, ↓fX9_record_11, ↓fX9_record_12, ↓fX9_record_15, ↓fX9_record_16, ↓fX9_record_19, ↓fX9_record_19n, ↓fX9_record_20, ↓fX9_record_20n, ↓fX9_record_21, ↓fX9_record_21r, ↓fX9_record_24, ↓fX9_record_25, ↓fX9_record_26, ↓fX9_record_29, ↓fX9_record_30, ↓fX9_record_31, ↓fX9_record_31n, ↓fX9_record_32, ↓fX9_record_33, ↓fX9_record_36, ↓fX9_record_39, ↓c9_within, bI_0, ↓e1, ↓e2, ↓c9_answer, c1, and_self, true_and, and_true, false_and, and_false, not_true_eq_false, not_false_eq_true, or_self, true_or, or_true, false_or, or_false, ite_not, Decidable.not_not, decide_eq_true_eq, Bool.not_true, Bool.not_false, Bool.false_eq_true, Bool.not_eq_true, n10, n20, n21, n30, n31, n32, n40, n41, n42, n43, ↓reduceIte]
      rfl
    · rw [if_neg c]
      have e1 := HXS_none (L := L) hx hs c
      exact ⟨u2 G X 5 2, lkX_st hgt 2, u2_s _ _ _ _, fun Q => by simp (disch := first | assumption | exact c2_int _ | exact c2_ref _ | exact c2_jk | exact c2_null | omega | (apply rN1; assumption) | (apply rN2; assumption) | (apply rN3; assumption) | (apply rN4; assumption) | exact bI_r _ | exact bI_01 _) only [↓fX9_record_0, ↓fX9_record_1, ↓fX9_record_2, ↓fX9_record_5, ↓fX9_record_6, ↓fX9_record_7, ↓fX9_record_10, ↓fX9_record_11, ↓fX9_record_12, ↓fX9_record_15, ↓fX9_record_16, ↓fX9_record_19, ↓fX9_record_19n, ↓fX9_record_20, ↓fX9_record_20n, ↓fX9_record_21, ↓fX9_record_21r, ↓fX9_record_24, ↓fX9_record_25, ↓fX9_record_26, ↓fX9_record_29, ↓fX9_record_30, ↓fX9_record_31, ↓fX9_record_31n, ↓fX9_record_32, ↓fX9_record_33, ↓fX9_record_36, ↓fX9_record_39, ↓c9_within, bI_0, ↓e1, ↓c9_fail, c1, and_self, true_and, and_true, false_and, and_false, not_true_eq_false, not_false_eq_true, or_self, true_or, or_true, false_or, or_false, ite_not, Decidable.not_not, decide_eq_true_eq, Bool.not_true, Bool.not_false, Bool.false_eq_true, Bool.not_eq_true, n10, n20, n21, n30, n31, n32, n40, n41, n42, n43, ↓reduceIte]⟩
theorem x_pairs (hx : HXS E r G X p q n σ a kk nn τ) (hs : I32 s) (hd : I32 d) (hw : I32 w) : ∃ G', lkX G G' X ∧ G' X 5 = (onS (decide ((d < 1) ∨ (¬ (0 ≤ w ∧ w ≤ 2)))) n s (ans (pbZ (σ s.toNat) d w))).1 ∧ ∀ Q, RK MX9_pairs 0 [.ref X, .int (zi s), .int (zi d), .int (zi w), jk] [] (0, 0) (E, zg G, zk L, r) Q = Q (E, zg G', zk L, r) (.int (zi (onS (decide ((d < 1) ∨ (¬ (0 ≤ w ∧ w ≤ 2)))) n s (ans (pbZ (σ s.toNat) d w))).2)) := by
  obtain ⟨x0, ⟨x1, x2, x3, x4, x5⟩, xD, xP, xS, xT⟩ := id hx.1
  have h0 := hx.2.1.1.1
  have hgt := hx.2.2
  by_cases c1 : d < 1
  · have cb : onS (decide ((d < 1) ∨ (¬ (0 ≤ w ∧ w ≤ 2)))) n s (ans (pbZ (σ s.toNat) d w)) = (1, -1) := if_pos (decide_eq_true (by omega))
    rw [cb]
    exact ⟨u2 G X 5 1, lkX_st hgt 1, u2_s _ _ _ _, fun Q => by simp (disch := first | assumption | exact c2_int _ | exact c2_ref _ | exact c2_jk | exact c2_null | omega | (apply rN1; assumption) | (apply rN2; assumption) | (apply rN3; assumption) | (apply rN4; assumption) | exact bI_r _ | exact bI_01 _) only [↓fX9_pairs_0, ↓fX9_pairs_1, ↓fX9_pairs_2, ↓fX9_pairs_5, ↓fX9_pairs_6, ↓fX9_pairs_7, ↓fX9_pairs_8, ↓fX9_pairs_11, ↓fX9_pairs_14, ↓fX9_pairs_15, ↓fX9_pairs_16, ↓fX9_pairs_19, ↓fX9_pairs_20, ↓fX9_pairs_21, ↓fX9_pairs_24, ↓fX9_pairs_25, ↓fX9_pairs_28, ↓fX9_pairs_28n, ↓fX9_pairs_30, ↓fX9_pairs_30n, ↓fX9_pairs_32, ↓fX9_pairs_32r, ↓fX9_pairs_35, ↓fX9_pairs_36, ↓fX9_pairs_37, ↓fX9_pairs_40, ↓fX9_pairs_41, ↓fX9_pairs_42, ↓fX9_pairs_42n, ↓fX9_pairs_44, ↓fX9_pairs_45, ↓fX9_pairs_46, ↓fX9_pairs_49, ↓fX9_pairs_52, ↓c9_within, bI_0, ↓c9_fail, c1, and_self, true_and, and_true, false_and, and_false, not_true_eq_false, not_false_eq_true, or_self, true_or, or_true, false_or, or_false, ite_not, Decidable.not_not, decide_eq_true_eq, Bool.not_true, Bool.not_false, Bool.false_eq_true, Bool.not_eq_true, n10, n20, n21, n30, n31, n32, n40, n41, n42, n43, ↓reduceIte]⟩
  · by_cases c2 : ¬ (0 ≤ w ∧ w ≤ 2)
    · have cb : onS (decide ((d < 1) ∨ (¬ (0 ≤ w ∧ w ≤ 2)))) n s (ans (pbZ (σ s.toNat) d w)) = (1, -1) := if_pos (decide_eq_true (by omega))
      rw [cb]
      exact ⟨u2 G X 5 1, lkX_st hgt 1, u2_s _ _ _ _, fun Q => by simp (disch := first | assumption | exact c2_int _ | exact c2_ref _ | exact c2_jk | exact c2_null | omega | (apply rN1; assumption) | (apply rN2; assumption) | (apply rN3; assumption) | (apply rN4; assumption) | exact bI_r _ | exact bI_01 _) only [↓fX9_pairs_0, ↓fX9_pairs_1, ↓fX9_pairs_2, ↓fX9_pairs_5, ↓fX9_pairs_6, ↓fX9_pairs_7, ↓fX9_pairs_8, ↓fX9_pairs_11, ↓fX9_pairs_14, ↓fX9_pairs_15, ↓fX9_pairs_16, ↓fX9_pairs_19, ↓fX9_pairs_20, ↓fX9_pairs_21, ↓fX9_pairs_24, ↓fX9_pairs_25, ↓fX9_pairs_28, ↓fX9_pairs_28n, ↓fX9_pairs_30, ↓fX9_pairs_30n, ↓fX9_pairs_32, ↓fX9_pairs_32r, ↓fX9_pairs_35, ↓fX9_pairs_36, ↓fX9_pairs_37, ↓fX9_pairs_40, ↓fX9_pairs_41, ↓fX9_pairs_42, ↓fX9_pairs_42n, ↓fX9_pairs_44, ↓fX9_pairs_45, ↓fX9_pairs_46, ↓fX9_pairs_49, ↓fX9_pairs_52, ↓c9_within, bI_0, ↓c9_fail, c1, c2, and_self, true_and, and_true, false_and, and_false, not_true_eq_false, not_false_eq_true, or_self, true_or, or_true, false_or, or_false, ite_not, Decidable.not_not, decide_eq_true_eq, Bool.not_true, Bool.not_false, Bool.false_eq_true, Bool.not_eq_true, n10, n20, n21, n30, n31, n32, n40, n41, n42, n43, ↓reduceIte]⟩
    · have c2 := Decidable.not_not.mp c2
      have cq : (decide ((d < 1) ∨ (¬ (0 ≤ w ∧ w ≤ 2)))) = false := decide_eq_false (by omega)
      have cb : onS (decide ((d < 1) ∨ (¬ (0 ≤ w ∧ w ≤ 2)))) n s (ans (pbZ (σ s.toNat) d w)) = if 0 ≤ s ∧ s < n then (ans (pbZ (σ s.toNat) d w)) else (2, -1) := if_neg (by rw [cq]; decide)
      rw [cb]
      by_cases c : 0 ≤ s ∧ s < n
      · rw [if_pos c]
        obtain ⟨hS, hR, hW, e1⟩ := HXS_sv (L := L) hx c
        have s0 := hS.1
        have hg := hR.1
        have e2 := fun Q => c0_pairsBy (L := L) (Q := Q) hS hg hd c2
        rw [RS_pb hR hW] at e2
        have e3 : I32 (pbZ (σ s.toNat) d w) := by have := pbZ_b (d := d) (w := w) hW; exact ⟨by omega, by omega⟩
        refine ⟨u2 G X 5 (ans (pbZ (σ s.toNat) d w)).1, lkX_st hgt _, u2_s _ _ _ _, fun Q => ?_⟩
        simp (disch := first | assumption | exact c2_int _ | exact c2_ref _ | exact c2_jk | exact c2_null | omega | (apply rN1; assumption) | (apply rN2; assumption) | (apply rN3; assumption) | (apply rN4; assumption) | exact bI_r _ | exact bI_01 _) only [↓fX9_pairs_0, ↓fX9_pairs_1, ↓fX9_pairs_2, ↓fX9_pairs_5, ↓fX9_pairs_6, ↓fX9_pairs_7, ↓fX9_pairs_8, ↓fX9_pairs_11, ↓fX9_pairs_14, ↓fX9_pairs_15, ↓fX9_pairs_16, ↓fX9_pairs_19, ↓fX9_pairs_20, ↓fX9_pairs_21, ↓fX9_pairs_24, ↓fX9_pairs_25, ↓fX9_pairs_28, ↓fX9_pairs_28n, ↓fX9_pairs_30, ↓fX9_pairs_30n, ↓fX9_pairs_32, ↓fX9_pairs_32r, ↓fX9_pairs_35, ↓fX9_pairs_36, ↓fX9_pairs_37, ↓fX9_pairs_40, ↓fX9_pairs_41, ↓fX9_pairs_42, ↓fX9_pairs_42n, ↓fX9_pairs_44, ↓fX9_pairs_45, ↓fX9_pairs_46, ↓fX9_pairs_49, ↓fX9_pairs_52, ↓c9_within, bI_0, ↓e1, ↓e2, ↓c9_answer, c1, c2, and_self, true_and, and_true, false_and, and_false, not_true_eq_false, not_false_eq_true, or_self, true_or, or_true, false_or, or_false, ite_not, Decidable.not_not, decide_eq_true_eq, Bool.not_true, Bool.not_false, Bool.false_eq_true, Bool.not_eq_true, n10, n20, n21, n30, n31, n32, n40, n41, n42, n43, ↓reduceIte]
        rfl
      · rw [if_neg c]
        have e1 := HXS_none (L := L) hx hs c
        exact ⟨u2 G X 5 2, lkX_st hgt 2, u2_s _ _ _ _, fun Q => by simp (disch := first | assumption | exact c2_int _ | exact c2_ref _ | exact c2_jk | exact c2_null | omega | (apply rN1; assumption) | (apply rN2; assumption) | (apply rN3; assumption) | (apply rN4; assumption) | exact bI_r _ | exact bI_01 _) only [↓fX9_pairs_0, ↓fX9_pairs_1, ↓fX9_pairs_2, ↓fX9_pairs_5, ↓fX9_pairs_6, ↓fX9_pairs_7, ↓fX9_pairs_8, ↓fX9_pairs_11, ↓fX9_pairs_14, ↓fX9_pairs_15, ↓fX9_pairs_16, ↓fX9_pairs_19, ↓fX9_pairs_20, ↓fX9_pairs_21, ↓fX9_pairs_24, ↓fX9_pairs_25, ↓fX9_pairs_28, ↓fX9_pairs_28n, ↓fX9_pairs_30, ↓fX9_pairs_30n, ↓fX9_pairs_32, ↓fX9_pairs_32r, ↓fX9_pairs_35, ↓fX9_pairs_36, ↓fX9_pairs_37, ↓fX9_pairs_40, ↓fX9_pairs_41, ↓fX9_pairs_42, ↓fX9_pairs_42n, ↓fX9_pairs_44, ↓fX9_pairs_45, ↓fX9_pairs_46, ↓fX9_pairs_49, ↓fX9_pairs_52, ↓c9_within, bI_0, ↓e1, ↓c9_fail, c1, c2, and_self, true_and, and_true, false_and, and_false, not_true_eq_false, not_false_eq_true, or_self, true_or, or_true, false_or, or_false, ite_not, Decidable.not_not, decide_eq_true_eq, Bool.not_true, Bool.not_false, Bool.false_eq_true, Bool.not_eq_true, n10, n20, n21, n30, n31, n32, n40, n41, n42, n43, ↓reduceIte]⟩
theorem x_triples (hx : HXS E r G X p q n σ a kk nn τ) (hs : I32 s) (hd : I32 d) (he : I32 e) : ∃ G', lkX G G' X ∧ G' X 5 = (onS (decide ((d < 1) ∨ (e ≤ d))) n s ((0, trZ (σ s.toNat) d e))).1 ∧ ∀ Q, RK MX9_triples 0 [.ref X, .int (zi s), .int (zi d), .int (zi e), jk] [] (0, 0) (E, zg G, zk L, r) Q = Q (E, zg G', zk L, r) (.int (zi (onS (decide ((d < 1) ∨ (e ≤ d))) n s ((0, trZ (σ s.toNat) d e))).2)) := by
  obtain ⟨x0, ⟨x1, x2, x3, x4, x5⟩, xD, xP, xS, xT⟩ := id hx.1
  have h0 := hx.2.1.1.1
  have hgt := hx.2.2
  by_cases c1 : d < 1
  · have cb : onS (decide ((d < 1) ∨ (e ≤ d))) n s ((0, trZ (σ s.toNat) d e)) = (1, -1) := if_pos (decide_eq_true (by omega))
    rw [cb]
    exact ⟨u2 G X 5 1, lkX_st hgt 1, u2_s _ _ _ _, fun Q => by simp (disch := first | assumption | exact c2_int _ | exact c2_ref _ | exact c2_jk | exact c2_null | omega | (apply rN1; assumption) | (apply rN2; assumption) | (apply rN3; assumption) | (apply rN4; assumption) | exact bI_r _ | exact bI_01 _) only [↓fX9_triples_0, ↓fX9_triples_1, ↓fX9_triples_2, ↓fX9_triples_5, ↓fX9_triples_6, ↓fX9_triples_7, ↓fX9_triples_10, ↓fX9_triples_11, ↓fX9_triples_12, ↓fX9_triples_15, ↓fX9_triples_16, ↓fX9_triples_17, ↓fX9_triples_20, ↓fX9_triples_21, ↓fX9_triples_24, ↓fX9_triples_24n, ↓fX9_triples_26, ↓fX9_triples_26n, ↓fX9_triples_28, ↓fX9_triples_28r, ↓fX9_triples_31, ↓fX9_triples_32, ↓fX9_triples_33, ↓fX9_triples_36, ↓fX9_triples_37, ↓fX9_triples_38, ↓fX9_triples_38n, ↓fX9_triples_40, ↓fX9_triples_41, ↓fX9_triples_42, ↓fX9_triples_45, ↓fX9_triples_48, ↓c9_within, bI_0, ↓c9_fail, c1, and_self, true_and, and_true, false_and, and_false, not_true_eq_false, not_false_eq_true, or_self, true_or, or_true, false_or, or_false, ite_not, Decidable.not_not, decide_eq_true_eq, Bool.not_true, Bool.not_false, Bool.false_eq_true, Bool.not_eq_true, n10, n20, n21, n30, n31, n32, n40, n41, n42, n43, ↓reduceIte]⟩
  · by_cases c2 : e ≤ d
    · have cb : onS (decide ((d < 1) ∨ (e ≤ d))) n s ((0, trZ (σ s.toNat) d e)) = (1, -1) := if_pos (decide_eq_true (by omega))
      rw [cb]
      exact ⟨u2 G X 5 1, lkX_st hgt 1, u2_s _ _ _ _, fun Q => by simp (disch := first | assumption | exact c2_int _ | exact c2_ref _ | exact c2_jk | exact c2_null | omega | (apply rN1; assumption) | (apply rN2; assumption) | (apply rN3; assumption) | (apply rN4; assumption) | exact bI_r _ | exact bI_01 _) only [↓fX9_triples_0, ↓fX9_triples_1, ↓fX9_triples_2, ↓fX9_triples_5, ↓fX9_triples_6, ↓fX9_triples_7, ↓fX9_triples_10, ↓fX9_triples_11, ↓fX9_triples_12, ↓fX9_triples_15, ↓fX9_triples_16, ↓fX9_triples_17, ↓fX9_triples_20, ↓fX9_triples_21, ↓fX9_triples_24, ↓fX9_triples_24n, ↓fX9_triples_26, ↓fX9_triples_26n, ↓fX9_triples_28, ↓fX9_triples_28r, ↓fX9_triples_31, ↓fX9_triples_32, ↓fX9_triples_33, ↓fX9_triples_36, ↓fX9_triples_37, ↓fX9_triples_38, ↓fX9_triples_38n, ↓fX9_triples_40, ↓fX9_triples_41, ↓fX9_triples_42, ↓fX9_triples_45, ↓fX9_triples_48, ↓c9_within, bI_0, ↓c9_fail, c1, c2, and_self, true_and, and_true, false_and, and_false, not_true_eq_false, not_false_eq_true, or_self, true_or, or_true, false_or, or_false, ite_not, Decidable.not_not, decide_eq_true_eq, Bool.not_true, Bool.not_false, Bool.false_eq_true, Bool.not_eq_true, n10, n20, n21, n30, n31, n32, n40, n41, n42, n43, ↓reduceIte]⟩
    · have cq : (decide ((d < 1) ∨ (e ≤ d))) = false := decide_eq_false (by omega)
      have cb : onS (decide ((d < 1) ∨ (e ≤ d))) n s ((0, trZ (σ s.toNat) d e)) = if 0 ≤ s ∧ s < n then ((0, trZ (σ s.toNat) d e)) else (2, -1) := if_neg (by rw [cq]; decide)
      rw [cb]
      by_cases c : 0 ≤ s ∧ s < n
      · rw [if_pos c]
        obtain ⟨hS, hR, hW, e1⟩ := HXS_sv (L := L) hx c
        have s0 := hS.1
        have hg := hR.1
        have e2 := fun Q => c0_triplesBy (L := L) (Q := Q) hS hg hd he
        have e4 : cnL (fun t => hasX G (svA X p s) (nA G (svA X p s) t + d) && hasX G (svA X p s) (nA G (svA X p s) t + e)) (G (svA X p s) 13 + 1) 601 1 0 = trZ (σ s.toNat) d e := by unfold trZ; rw [RS_nA hR hW, RS_sz hR hW, RS_has hR hW]
        rw [e4] at e2
        refine ⟨u2 G X 5 0, lkX_st hgt _, u2_s _ _ _ _, fun Q => ?_⟩
        simp (disch := first | assumption | exact c2_int _ | exact c2_ref _ | exact c2_jk | exact c2_null | omega | (apply rN1; assumption) | (apply rN2; assumption) | (apply rN3; assumption) | (apply rN4; assumption) | exact bI_r _ | exact bI_01 _) only [↓fX9_triples_0, ↓fX9_triples_1, ↓fX9_triples_2, ↓fX9_triples_5, ↓fX9_triples_6, ↓fX9_triples_7, ↓fX9_triples_10, ↓fX9_triples_11, ↓fX9_triples_12, ↓fX9_triples_15, ↓fX9_triples_16, ↓fX9_triples_17, ↓fX9_triples_20, ↓fX9_triples_21, ↓fX9_triples_24, ↓fX9_triples_24n, ↓fX9_triples_26, ↓fX9_triples_26n, ↓fX9_triples_28, ↓fX9_triples_28r, ↓fX9_triples_31, ↓fX9_triples_32, ↓fX9_triples_33, ↓fX9_triples_36, ↓fX9_triples_37, ↓fX9_triples_38, ↓fX9_triples_38n, ↓fX9_triples_40, ↓fX9_triples_41, ↓fX9_triples_42, ↓fX9_triples_45, ↓fX9_triples_48, ↓c9_within, bI_0, ↓e1, ↓e2, ↓c9_succeed, c1, c2, and_self, true_and, and_true, false_and, and_false, not_true_eq_false, not_false_eq_true, or_self, true_or, or_true, false_or, or_false, ite_not, Decidable.not_not, decide_eq_true_eq, Bool.not_true, Bool.not_false, Bool.false_eq_true, Bool.not_eq_true, n10, n20, n21, n30, n31, n32, n40, n41, n42, n43, ↓reduceIte]
      · rw [if_neg c]
        have e1 := HXS_none (L := L) hx hs c
        exact ⟨u2 G X 5 2, lkX_st hgt 2, u2_s _ _ _ _, fun Q => by simp (disch := first | assumption | exact c2_int _ | exact c2_ref _ | exact c2_jk | exact c2_null | omega | (apply rN1; assumption) | (apply rN2; assumption) | (apply rN3; assumption) | (apply rN4; assumption) | exact bI_r _ | exact bI_01 _) only [↓fX9_triples_0, ↓fX9_triples_1, ↓fX9_triples_2, ↓fX9_triples_5, ↓fX9_triples_6, ↓fX9_triples_7, ↓fX9_triples_10, ↓fX9_triples_11, ↓fX9_triples_12, ↓fX9_triples_15, ↓fX9_triples_16, ↓fX9_triples_17, ↓fX9_triples_20, ↓fX9_triples_21, ↓fX9_triples_24, ↓fX9_triples_24n, ↓fX9_triples_26, ↓fX9_triples_26n, ↓fX9_triples_28, ↓fX9_triples_28r, ↓fX9_triples_31, ↓fX9_triples_32, ↓fX9_triples_33, ↓fX9_triples_36, ↓fX9_triples_37, ↓fX9_triples_38, ↓fX9_triples_38n, ↓fX9_triples_40, ↓fX9_triples_41, ↓fX9_triples_42, ↓fX9_triples_45, ↓fX9_triples_48, ↓c9_within, bI_0, ↓e1, ↓c9_fail, c1, c2, and_self, true_and, and_true, false_and, and_false, not_true_eq_false, not_false_eq_true, or_self, true_or, or_true, false_or, or_false, ite_not, Decidable.not_not, decide_eq_true_eq, Bool.not_true, Bool.not_false, Bool.false_eq_true, Bool.not_eq_true, n10, n20, n21, n30, n31, n32, n40, n41, n42, n43, ↓reduceIte]⟩
theorem x_sums (hx : HXS E r G X p q n σ a kk nn τ) (hs : I32 s) (hy : I32 y) : ∃ G', lkX G G' X ∧ G' X 5 = (onS (false) n s ((0, wsZ (σ s.toNat) y))).1 ∧ ∀ Q, RK MX9_sums 0 [.ref X, .int (zi s), .int (zi y), jk] [] (0, 0) (E, zg G, zk L, r) Q = Q (E, zg G', zk L, r) (.int (zi (onS (false) n s ((0, wsZ (σ s.toNat) y))).2)) := by
  obtain ⟨x0, ⟨x1, x2, x3, x4, x5⟩, xD, xP, xS, xT⟩ := id hx.1
  have h0 := hx.2.1.1.1
  have hgt := hx.2.2
  have cb : onS (false) n s ((0, wsZ (σ s.toNat) y)) = if 0 ≤ s ∧ s < n then ((0, wsZ (σ s.toNat) y)) else (2, -1) := if_neg (by decide)
  rw [cb]
  by_cases c : 0 ≤ s ∧ s < n
  · rw [if_pos c]
    obtain ⟨hS, hR, hW, e1⟩ := HXS_sv (L := L) hx c
    have s0 := hS.1
    have hg := hR.1
    have e2 := fun Q => c0_waysToSum (L := L) (Q := Q) hS hg hy
    rw [RS_ws hR hW] at e2
    refine ⟨u2 G X 5 0, lkX_st hgt _, u2_s _ _ _ _, fun Q => ?_⟩
    simp (disch := first | assumption | exact c2_int _ | exact c2_ref _ | exact c2_jk | exact c2_null | omega | (apply rN1; assumption) | (apply rN2; assumption) | (apply rN3; assumption) | (apply rN4; assumption) | exact bI_r _ | exact bI_01 _) only [↓fX9_sums_0, ↓fX9_sums_1, ↓fX9_sums_4, ↓fX9_sums_5, ↓fX9_sums_8, ↓fX9_sums_8n, ↓fX9_sums_9, ↓fX9_sums_9n, ↓fX9_sums_10, ↓fX9_sums_10r, ↓fX9_sums_13, ↓fX9_sums_14, ↓fX9_sums_15, ↓fX9_sums_18, ↓fX9_sums_19, ↓fX9_sums_20, ↓fX9_sums_20n, ↓fX9_sums_21, ↓fX9_sums_22, ↓fX9_sums_25, ↓fX9_sums_28, ↓c9_within, bI_0, ↓e1, ↓e2, ↓c9_succeed, and_self, true_and, and_true, false_and, and_false, not_true_eq_false, not_false_eq_true, or_self, true_or, or_true, false_or, or_false, ite_not, Decidable.not_not, decide_eq_true_eq, Bool.not_true, Bool.not_false, Bool.false_eq_true, Bool.not_eq_true, n10, n20, n21, n30, n31, n32, n40, n41, n42, n43, ↓reduceIte]
  · rw [if_neg c]
    have e1 := HXS_none (L := L) hx hs c
    exact ⟨u2 G X 5 2, lkX_st hgt 2, u2_s _ _ _ _, fun Q => by simp (disch := first | assumption | exact c2_int _ | exact c2_ref _ | exact c2_jk | exact c2_null | omega | (apply rN1; assumption) | (apply rN2; assumption) | (apply rN3; assumption) | (apply rN4; assumption) | exact bI_r _ | exact bI_01 _) only [↓fX9_sums_0, ↓fX9_sums_1, ↓fX9_sums_4, ↓fX9_sums_5, ↓fX9_sums_8, ↓fX9_sums_8n, ↓fX9_sums_9, ↓fX9_sums_9n, ↓fX9_sums_10, ↓fX9_sums_10r, ↓fX9_sums_13, ↓fX9_sums_14, ↓fX9_sums_15, ↓fX9_sums_18, ↓fX9_sums_19, ↓fX9_sums_20, ↓fX9_sums_20n, ↓fX9_sums_21, ↓fX9_sums_22, ↓fX9_sums_25, ↓fX9_sums_28, ↓c9_within, bI_0, ↓e1, ↓c9_fail, and_self, true_and, and_true, false_and, and_false, not_true_eq_false, not_false_eq_true, or_self, true_or, or_true, false_or, or_false, ite_not, Decidable.not_not, decide_eq_true_eq, Bool.not_true, Bool.not_false, Bool.false_eq_true, Bool.not_eq_true, n10, n20, n21, n30, n31, n32, n40, n41, n42, n43, ↓reduceIte]⟩
theorem x_gapsOf (hx : HXS E r G X p q n σ a kk nn τ) (hs : I32 s) (hy : I32 y) : ∃ G', lkX G G' X ∧ G' X 5 = (onS (false) n s ((0, cgZ (σ s.toNat) y))).1 ∧ ∀ Q, RK MX9_gapsOf 0 [.ref X, .int (zi s), .int (zi y), jk] [] (0, 0) (E, zg G, zk L, r) Q = Q (E, zg G', zk L, r) (.int (zi (onS (false) n s ((0, cgZ (σ s.toNat) y))).2)) := by
  obtain ⟨x0, ⟨x1, x2, x3, x4, x5⟩, xD, xP, xS, xT⟩ := id hx.1
  have h0 := hx.2.1.1.1
  have hgt := hx.2.2
  have cb : onS (false) n s ((0, cgZ (σ s.toNat) y)) = if 0 ≤ s ∧ s < n then ((0, cgZ (σ s.toNat) y)) else (2, -1) := if_neg (by decide)
  rw [cb]
  by_cases c : 0 ≤ s ∧ s < n
  · rw [if_pos c]
    obtain ⟨hS, hR, hW, e1⟩ := HXS_sv (L := L) hx c
    have s0 := hS.1
    have hg := hR.1
    have e2 := fun Q => c8_countGaps (L := L) (Q := Q) hS hg hy
    rw [RS_cg hR hW] at e2
    refine ⟨u2 G X 5 0, lkX_st hgt _, u2_s _ _ _ _, fun Q => ?_⟩
    simp (disch := first | assumption | exact c2_int _ | exact c2_ref _ | exact c2_jk | exact c2_null | omega | (apply rN1; assumption) | (apply rN2; assumption) | (apply rN3; assumption) | (apply rN4; assumption) | exact bI_r _ | exact bI_01 _) only [↓fX9_gapsOf_0, ↓fX9_gapsOf_1, ↓fX9_gapsOf_4, ↓fX9_gapsOf_5, ↓fX9_gapsOf_8, ↓fX9_gapsOf_8n, ↓fX9_gapsOf_9, ↓fX9_gapsOf_9n, ↓fX9_gapsOf_10, ↓fX9_gapsOf_10r, ↓fX9_gapsOf_13, ↓fX9_gapsOf_14, ↓fX9_gapsOf_15, ↓fX9_gapsOf_18, ↓fX9_gapsOf_19, ↓fX9_gapsOf_20, ↓fX9_gapsOf_20n, ↓fX9_gapsOf_21, ↓fX9_gapsOf_22, ↓fX9_gapsOf_25, ↓fX9_gapsOf_28, ↓c9_within, bI_0, ↓e1, ↓e2, ↓c9_succeed, and_self, true_and, and_true, false_and, and_false, not_true_eq_false, not_false_eq_true, or_self, true_or, or_true, false_or, or_false, ite_not, Decidable.not_not, decide_eq_true_eq, Bool.not_true, Bool.not_false, Bool.false_eq_true, Bool.not_eq_true, n10, n20, n21, n30, n31, n32, n40, n41, n42, n43, ↓reduceIte]
  · rw [if_neg c]
    have e1 := HXS_none (L := L) hx hs c
    exact ⟨u2 G X 5 2, lkX_st hgt 2, u2_s _ _ _ _, fun Q => by simp (disch := first | assumption | exact c2_int _ | exact c2_ref _ | exact c2_jk | exact c2_null | omega | (apply rN1; assumption) | (apply rN2; assumption) | (apply rN3; assumption) | (apply rN4; assumption) | exact bI_r _ | exact bI_01 _) only [↓fX9_gapsOf_0, ↓fX9_gapsOf_1, ↓fX9_gapsOf_4, ↓fX9_gapsOf_5, ↓fX9_gapsOf_8, ↓fX9_gapsOf_8n, ↓fX9_gapsOf_9, ↓fX9_gapsOf_9n, ↓fX9_gapsOf_10, ↓fX9_gapsOf_10r, ↓fX9_gapsOf_13, ↓fX9_gapsOf_14, ↓fX9_gapsOf_15, ↓fX9_gapsOf_18, ↓fX9_gapsOf_19, ↓fX9_gapsOf_20, ↓fX9_gapsOf_20n, ↓fX9_gapsOf_21, ↓fX9_gapsOf_22, ↓fX9_gapsOf_25, ↓fX9_gapsOf_28, ↓c9_within, bI_0, ↓e1, ↓c9_fail, and_self, true_and, and_true, false_and, and_false, not_true_eq_false, not_false_eq_true, or_self, true_or, or_true, false_or, or_false, ite_not, Decidable.not_not, decide_eq_true_eq, Bool.not_true, Bool.not_false, Bool.false_eq_true, Bool.not_eq_true, n10, n20, n21, n30, n31, n32, n40, n41, n42, n43, ↓reduceIte]⟩
theorem x_upTo (hx : HXS E r G X p q n σ a kk nn τ) (hs : I32 s) (hy : I32 y) : ∃ G', lkX G G' X ∧ G' X 5 = (onS (false) n s ((0, cuZ (σ s.toNat) y))).1 ∧ ∀ Q, RK MX9_upTo 0 [.ref X, .int (zi s), .int (zi y), jk] [] (0, 0) (E, zg G, zk L, r) Q = Q (E, zg G', zk L, r) (.int (zi (onS (false) n s ((0, cuZ (σ s.toNat) y))).2)) := by
  obtain ⟨x0, ⟨x1, x2, x3, x4, x5⟩, xD, xP, xS, xT⟩ := id hx.1
  have h0 := hx.2.1.1.1
  have hgt := hx.2.2
  have cb : onS (false) n s ((0, cuZ (σ s.toNat) y)) = if 0 ≤ s ∧ s < n then ((0, cuZ (σ s.toNat) y)) else (2, -1) := if_neg (by decide)
  rw [cb]
  by_cases c : 0 ≤ s ∧ s < n
  · rw [if_pos c]
    obtain ⟨hS, hR, hW, e1⟩ := HXS_sv (L := L) hx c
    have s0 := hS.1
    have hg := hR.1
    have e2 := fun Q => c7_countUpTo (L := L) (Q := Q) hS hg hy
    have e4 : cuL (nA G (svA X p s)) (G (svA X p s) 13) y 600 0 = cuZ (σ s.toNat) y := by unfold cuZ; rw [RS_nA hR hW, RS_sz hR hW]
    rw [e4] at e2
    refine ⟨u2 G X 5 0, lkX_st hgt _, u2_s _ _ _ _, fun Q => ?_⟩
    simp (disch := first | assumption | exact c2_int _ | exact c2_ref _ | exact c2_jk | exact c2_null | omega | (apply rN1; assumption) | (apply rN2; assumption) | (apply rN3; assumption) | (apply rN4; assumption) | exact bI_r _ | exact bI_01 _) only [↓fX9_upTo_0, ↓fX9_upTo_1, ↓fX9_upTo_4, ↓fX9_upTo_5, ↓fX9_upTo_8, ↓fX9_upTo_8n, ↓fX9_upTo_9, ↓fX9_upTo_9n, ↓fX9_upTo_10, ↓fX9_upTo_10r, ↓fX9_upTo_13, ↓fX9_upTo_14, ↓fX9_upTo_15, ↓fX9_upTo_18, ↓fX9_upTo_19, ↓fX9_upTo_20, ↓fX9_upTo_20n, ↓fX9_upTo_21, ↓fX9_upTo_22, ↓fX9_upTo_25, ↓fX9_upTo_28, ↓c9_within, bI_0, ↓e1, ↓e2, ↓c9_succeed, and_self, true_and, and_true, false_and, and_false, not_true_eq_false, not_false_eq_true, or_self, true_or, or_true, false_or, or_false, ite_not, Decidable.not_not, decide_eq_true_eq, Bool.not_true, Bool.not_false, Bool.false_eq_true, Bool.not_eq_true, n10, n20, n21, n30, n31, n32, n40, n41, n42, n43, ↓reduceIte]
  · rw [if_neg c]
    have e1 := HXS_none (L := L) hx hs c
    exact ⟨u2 G X 5 2, lkX_st hgt 2, u2_s _ _ _ _, fun Q => by simp (disch := first | assumption | exact c2_int _ | exact c2_ref _ | exact c2_jk | exact c2_null | omega | (apply rN1; assumption) | (apply rN2; assumption) | (apply rN3; assumption) | (apply rN4; assumption) | exact bI_r _ | exact bI_01 _) only [↓fX9_upTo_0, ↓fX9_upTo_1, ↓fX9_upTo_4, ↓fX9_upTo_5, ↓fX9_upTo_8, ↓fX9_upTo_8n, ↓fX9_upTo_9, ↓fX9_upTo_9n, ↓fX9_upTo_10, ↓fX9_upTo_10r, ↓fX9_upTo_13, ↓fX9_upTo_14, ↓fX9_upTo_15, ↓fX9_upTo_18, ↓fX9_upTo_19, ↓fX9_upTo_20, ↓fX9_upTo_20n, ↓fX9_upTo_21, ↓fX9_upTo_22, ↓fX9_upTo_25, ↓fX9_upTo_28, ↓c9_within, bI_0, ↓e1, ↓c9_fail, and_self, true_and, and_true, false_and, and_false, not_true_eq_false, not_false_eq_true, or_self, true_or, or_true, false_or, or_false, ite_not, Decidable.not_not, decide_eq_true_eq, Bool.not_true, Bool.not_false, Bool.false_eq_true, Bool.not_eq_true, n10, n20, n21, n30, n31, n32, n40, n41, n42, n43, ↓reduceIte]⟩
theorem x_number (hx : HXS E r G X p q n σ a kk nn τ) (hs : I32 s) (hy : I32 y) : ∃ G', lkX G G' X ∧ G' X 5 = (onS (decide ((y < 1))) n s (ans (nAS (σ s.toNat) y))).1 ∧ ∀ Q, RK MX9_number 0 [.ref X, .int (zi s), .int (zi y), jk] [] (0, 0) (E, zg G, zk L, r) Q = Q (E, zg G', zk L, r) (.int (zi (onS (decide ((y < 1))) n s (ans (nAS (σ s.toNat) y))).2)) := by
  obtain ⟨x0, ⟨x1, x2, x3, x4, x5⟩, xD, xP, xS, xT⟩ := id hx.1
  have h0 := hx.2.1.1.1
  have hgt := hx.2.2
  by_cases c1 : y < 1
  · have cb : onS (decide ((y < 1))) n s (ans (nAS (σ s.toNat) y)) = (1, -1) := if_pos (decide_eq_true (by omega))
    rw [cb]
    exact ⟨u2 G X 5 1, lkX_st hgt 1, u2_s _ _ _ _, fun Q => by simp (disch := first | assumption | exact c2_int _ | exact c2_ref _ | exact c2_jk | exact c2_null | omega | (apply rN1; assumption) | (apply rN2; assumption) | (apply rN3; assumption) | (apply rN4; assumption) | exact bI_r _ | exact bI_01 _) only [↓fX9_number_0, ↓fX9_number_1, ↓fX9_number_2, ↓fX9_number_5, ↓fX9_number_6, ↓fX9_number_7, ↓fX9_number_10, ↓fX9_number_11, ↓fX9_number_12, ↓fX9_number_15, ↓fX9_number_16, ↓fX9_number_19, ↓fX9_number_19n, ↓fX9_number_20, ↓fX9_number_20n, ↓fX9_number_21, ↓fX9_number_21r, ↓fX9_number_24, ↓fX9_number_25, ↓fX9_number_26, ↓fX9_number_29, ↓fX9_number_30, ↓fX9_number_31, ↓fX9_number_31n, ↓fX9_number_32, ↓fX9_number_33, ↓fX9_number_36, ↓fX9_number_39, ↓c9_within, bI_0, ↓c9_fail, c1, and_self, true_and, and_true, false_and, and_false, not_true_eq_false, not_false_eq_true, or_self, true_or, or_true, false_or, or_false, ite_not, Decidable.not_not, decide_eq_true_eq, Bool.not_true, Bool.not_false, Bool.false_eq_true, Bool.not_eq_true, n10, n20, n21, n30, n31, n32, n40, n41, n42, n43, ↓reduceIte]⟩
  · have cq : (decide ((y < 1))) = false := decide_eq_false (by omega)
    have cb : onS (decide ((y < 1))) n s (ans (nAS (σ s.toNat) y)) = if 0 ≤ s ∧ s < n then (ans (nAS (σ s.toNat) y)) else (2, -1) := if_neg (by rw [cq]; decide)
    rw [cb]
    by_cases c : 0 ≤ s ∧ s < n
    · rw [if_pos c]
      obtain ⟨hS, hR, hW, e1⟩ := HXS_sv (L := L) hx c
      have s0 := hS.1
      have hg := hR.1
      have e2 := fun Q => c7_numberAt (L := L) (Q := Q) hS hg hy
      rw [RS_nA hR hW] at e2
      have e3 : I32 (nAS (σ s.toNat) y) := by have := nAS_b hW y; exact ⟨by omega, by omega⟩
      refine ⟨u2 G X 5 (ans (nAS (σ s.toNat) y)).1, lkX_st hgt _, u2_s _ _ _ _, fun Q => ?_⟩
      simp (disch := first | assumption | exact c2_int _ | exact c2_ref _ | exact c2_jk | exact c2_null | omega | (apply rN1; assumption) | (apply rN2; assumption) | (apply rN3; assumption) | (apply rN4; assumption) | exact bI_r _ | exact bI_01 _) only [↓fX9_number_0, ↓fX9_number_1, ↓fX9_number_2, ↓fX9_number_5, ↓fX9_number_6, ↓fX9_number_7, ↓fX9_number_10, ↓fX9_number_11, ↓fX9_number_12, ↓fX9_number_15, ↓fX9_number_16, ↓fX9_number_19, ↓fX9_number_19n, ↓fX9_number_20, ↓fX9_number_20n, ↓fX9_number_21, ↓fX9_number_21r, ↓fX9_number_24, ↓fX9_number_25, ↓fX9_number_26, ↓fX9_number_29, ↓fX9_number_30, ↓fX9_number_31, ↓fX9_number_31n, ↓fX9_number_32, ↓fX9_number_33, ↓fX9_number_36, ↓fX9_number_39, ↓c9_within, bI_0, ↓e1, ↓e2, ↓c9_answer, c1, and_self, true_and, and_true, false_and, and_false, not_true_eq_false, not_false_eq_true, or_self, true_or, or_true, false_or, or_false, ite_not, Decidable.not_not, decide_eq_true_eq, Bool.not_true, Bool.not_false, Bool.false_eq_true, Bool.not_eq_true, n10, n20, n21, n30, n31, n32, n40, n41, n42, n43, ↓reduceIte]
      rfl
    · rw [if_neg c]
      have e1 := HXS_none (L := L) hx hs c
      exact ⟨u2 G X 5 2, lkX_st hgt 2, u2_s _ _ _ _, fun Q => by simp (disch := first | assumption | exact c2_int _ | exact c2_ref _ | exact c2_jk | exact c2_null | omega | (apply rN1; assumption) | (apply rN2; assumption) | (apply rN3; assumption) | (apply rN4; assumption) | exact bI_r _ | exact bI_01 _) only [↓fX9_number_0, ↓fX9_number_1, ↓fX9_number_2, ↓fX9_number_5, ↓fX9_number_6, ↓fX9_number_7, ↓fX9_number_10, ↓fX9_number_11, ↓fX9_number_12, ↓fX9_number_15, ↓fX9_number_16, ↓fX9_number_19, ↓fX9_number_19n, ↓fX9_number_20, ↓fX9_number_20n, ↓fX9_number_21, ↓fX9_number_21r, ↓fX9_number_24, ↓fX9_number_25, ↓fX9_number_26, ↓fX9_number_29, ↓fX9_number_30, ↓fX9_number_31, ↓fX9_number_31n, ↓fX9_number_32, ↓fX9_number_33, ↓fX9_number_36, ↓fX9_number_39, ↓c9_within, bI_0, ↓e1, ↓c9_fail, c1, and_self, true_and, and_true, false_and, and_false, not_true_eq_false, not_false_eq_true, or_self, true_or, or_true, false_or, or_false, ite_not, Decidable.not_not, decide_eq_true_eq, Bool.not_true, Bool.not_false, Bool.false_eq_true, Bool.not_eq_true, n10, n20, n21, n30, n31, n32, n40, n41, n42, n43, ↓reduceIte]⟩
theorem x_misses (hx : HXS E r G X p q n σ a kk nn τ) (hs : I32 s) (hy : I32 y) : ∃ G', lkX G G' X ∧ G' X 5 = (onS (decide ((¬ (1 ≤ y ∧ y ≤ 99)))) n s (ans (fnZ (σ s.toNat) y))).1 ∧ ∀ Q, RK MX9_misses 0 [.ref X, .int (zi s), .int (zi y), jk] [] (0, 0) (E, zg G, zk L, r) Q = Q (E, zg G', zk L, r) (.int (zi (onS (decide ((¬ (1 ≤ y ∧ y ≤ 99)))) n s (ans (fnZ (σ s.toNat) y))).2)) := by
  obtain ⟨x0, ⟨x1, x2, x3, x4, x5⟩, xD, xP, xS, xT⟩ := id hx.1
  have h0 := hx.2.1.1.1
  have hgt := hx.2.2
  by_cases c1 : ¬ (1 ≤ y ∧ y ≤ 99)
  · have cb : onS (decide ((¬ (1 ≤ y ∧ y ≤ 99)))) n s (ans (fnZ (σ s.toNat) y)) = (1, -1) := if_pos (decide_eq_true (by omega))
    rw [cb]
    exact ⟨u2 G X 5 1, lkX_st hgt 1, u2_s _ _ _ _, fun Q => by simp (disch := first | assumption | exact c2_int _ | exact c2_ref _ | exact c2_jk | exact c2_null | omega | (apply rN1; assumption) | (apply rN2; assumption) | (apply rN3; assumption) | (apply rN4; assumption) | exact bI_r _ | exact bI_01 _) only [↓fX9_misses_0, ↓fX9_misses_1, ↓fX9_misses_2, ↓fX9_misses_4, ↓fX9_misses_7, ↓fX9_misses_10, ↓fX9_misses_11, ↓fX9_misses_12, ↓fX9_misses_15, ↓fX9_misses_16, ↓fX9_misses_17, ↓fX9_misses_20, ↓fX9_misses_21, ↓fX9_misses_24, ↓fX9_misses_24n, ↓fX9_misses_25, ↓fX9_misses_25n, ↓fX9_misses_26, ↓fX9_misses_26r, ↓fX9_misses_29, ↓fX9_misses_30, ↓fX9_misses_31, ↓fX9_misses_34, ↓fX9_misses_35, ↓fX9_misses_36, ↓fX9_misses_36n, ↓fX9_misses_37, ↓fX9_misses_38, ↓fX9_misses_41, ↓fX9_misses_44, ↓c9_within, bI_0, ↓c9_fail, c1, and_self, true_and, and_true, false_and, and_false, not_true_eq_false, not_false_eq_true, or_self, true_or, or_true, false_or, or_false, ite_not, Decidable.not_not, decide_eq_true_eq, Bool.not_true, Bool.not_false, Bool.false_eq_true, Bool.not_eq_true, n10, n20, n21, n30, n31, n32, n40, n41, n42, n43, ↓reduceIte]⟩
  · have c1 := Decidable.not_not.mp c1
    have cq : (decide ((¬ (1 ≤ y ∧ y ≤ 99)))) = false := decide_eq_false (by omega)
    have cb : onS (decide ((¬ (1 ≤ y ∧ y ≤ 99)))) n s (ans (fnZ (σ s.toNat) y)) = if 0 ≤ s ∧ s < n then (ans (fnZ (σ s.toNat) y)) else (2, -1) := if_neg (by rw [cq]; decide)
    rw [cb]
    by_cases c : 0 ≤ s ∧ s < n
    · rw [if_pos c]
      obtain ⟨hS, hR, hW, e1⟩ := HXS_sv (L := L) hx c
      have s0 := hS.1
      have hg := hR.1
      have e2 := fun Q => c0_firstNoSum (L := L) (Q := Q) hS hg c1
      rw [RS_fn hR hW] at e2
      have e3 : I32 (fnZ (σ s.toNat) y) := by have := fnZ_b (m := y) hW (by omega); exact ⟨by omega, by omega⟩
      refine ⟨u2 G X 5 (ans (fnZ (σ s.toNat) y)).1, lkX_st hgt _, u2_s _ _ _ _, fun Q => ?_⟩
      simp (disch := first | assumption | exact c2_int _ | exact c2_ref _ | exact c2_jk | exact c2_null | omega | (apply rN1; assumption) | (apply rN2; assumption) | (apply rN3; assumption) | (apply rN4; assumption) | exact bI_r _ | exact bI_01 _) only [↓fX9_misses_0, ↓fX9_misses_1, ↓fX9_misses_2, ↓fX9_misses_4, ↓fX9_misses_7, ↓fX9_misses_10, ↓fX9_misses_11, ↓fX9_misses_12, ↓fX9_misses_15, ↓fX9_misses_16, ↓fX9_misses_17, ↓fX9_misses_20, ↓fX9_misses_21, ↓fX9_misses_24, ↓fX9_misses_24n, ↓fX9_misses_25, ↓fX9_misses_25n, ↓fX9_misses_26, ↓fX9_misses_26r, ↓fX9_misses_29, ↓fX9_misses_30, ↓fX9_misses_31, ↓fX9_misses_34, ↓fX9_misses_35, ↓fX9_misses_36, ↓fX9_misses_36n, ↓fX9_misses_37, ↓fX9_misses_38, ↓fX9_misses_41, ↓fX9_misses_44, ↓c9_within, bI_0, ↓e1, ↓e2, ↓c9_answer, c1, and_self, true_and, and_true, false_and, and_false, not_true_eq_false, not_false_eq_true, or_self, true_or, or_true, false_or, or_false, ite_not, Decidable.not_not, decide_eq_true_eq, Bool.not_true, Bool.not_false, Bool.false_eq_true, Bool.not_eq_true, n10, n20, n21, n30, n31, n32, n40, n41, n42, n43, ↓reduceIte]
      rfl
    · rw [if_neg c]
      have e1 := HXS_none (L := L) hx hs c
      exact ⟨u2 G X 5 2, lkX_st hgt 2, u2_s _ _ _ _, fun Q => by simp (disch := first | assumption | exact c2_int _ | exact c2_ref _ | exact c2_jk | exact c2_null | omega | (apply rN1; assumption) | (apply rN2; assumption) | (apply rN3; assumption) | (apply rN4; assumption) | exact bI_r _ | exact bI_01 _) only [↓fX9_misses_0, ↓fX9_misses_1, ↓fX9_misses_2, ↓fX9_misses_4, ↓fX9_misses_7, ↓fX9_misses_10, ↓fX9_misses_11, ↓fX9_misses_12, ↓fX9_misses_15, ↓fX9_misses_16, ↓fX9_misses_17, ↓fX9_misses_20, ↓fX9_misses_21, ↓fX9_misses_24, ↓fX9_misses_24n, ↓fX9_misses_25, ↓fX9_misses_25n, ↓fX9_misses_26, ↓fX9_misses_26r, ↓fX9_misses_29, ↓fX9_misses_30, ↓fX9_misses_31, ↓fX9_misses_34, ↓fX9_misses_35, ↓fX9_misses_36, ↓fX9_misses_36n, ↓fX9_misses_37, ↓fX9_misses_38, ↓fX9_misses_41, ↓fX9_misses_44, ↓c9_within, bI_0, ↓e1, ↓c9_fail, c1, and_self, true_and, and_true, false_and, and_false, not_true_eq_false, not_false_eq_true, or_self, true_or, or_true, false_or, or_false, ite_not, Decidable.not_not, decide_eq_true_eq, Bool.not_true, Bool.not_false, Bool.false_eq_true, Bool.not_eq_true, n10, n20, n21, n30, n31, n32, n40, n41, n42, n43, ↓reduceIte]⟩
end BS
