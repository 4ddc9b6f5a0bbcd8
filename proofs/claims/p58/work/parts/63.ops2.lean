/-! Calls of the house that only look. -/
section BS
variable {E : AE} {G G' L : Nat → Nat → Int} {r : Nat → Nat → Option Nat} {h : AH} {Q : AH → Value → Prop} {X S n a cl : Nat} {v y s x d e b c w k o : Int} {p q : Nat → Nat} {σ τ : Nat → Nat → Int} {kk nn : Nat → Int} {ln : Nat → Nat} {lv : Nat → Nat → Int}
theorem x_sieve (hx : HXS E r G X p q n σ a kk nn τ) (hs : I32 s) (hw : I32 w) : ∃ G', lkX G G' X ∧ G' X 5 = (onS (decide ((¬ (0 ≤ w ∧ w ≤ 7)))) n s ((0, prpZ (σ s.toNat) w))).1 ∧ ∀ Q, RK MX9_sieve 0 [.ref X, .int (zi s), .int (zi w), jk] [] (0, 0) (E, zg G, zk L, r) Q = Q (E, zg G', zk L, r) (.int (zi (onS (decide ((¬ (0 ≤ w ∧ w ≤ 7)))) n s ((0, prpZ (σ s.toNat) w))).2)) := by
  obtain ⟨x0, ⟨x1, x2, x3, x4, x5⟩, xD, xP, xS, xT⟩ := id hx.1
  have h0 := hx.2.1.1.1
  have hgt := hx.2.2
  by_cases c1 : ¬ (0 ≤ w ∧ w ≤ 7)
  · have cb : onS (decide ((¬ (0 ≤ w ∧ w ≤ 7)))) n s ((0, prpZ (σ s.toNat) w)) = (1, -1) := if_pos (decide_eq_true (by omega))
    rw [cb]
    exact ⟨u2 G X 5 1, lkX_st hgt 1, u2_s _ _ _ _, fun Q => by simp (disch := first | assumption | exact c2_int _ | exact c2_ref _ | exact c2_jk | exact c2_null | omega | (apply rN1; assumption) | (apply rN2; assumption) | (apply rN3; assumption) | (apply rN4; assumption) | exact bI_r _ | exact bI_01 _) only [↓fX9_sieve_0, ↓fX9_sieve_1, ↓fX9_sieve_2, ↓fX9_sieve_4, ↓fX9_sieve_7, ↓fX9_sieve_10, ↓fX9_sieve_11, ↓fX9_sieve_12, ↓fX9_sieve_15, ↓fX9_sieve_16, ↓fX9_sieve_17, ↓fX9_sieve_20, ↓fX9_sieve_21, ↓fX9_sieve_24, ↓fX9_sieve_24n, ↓fX9_sieve_25, ↓fX9_sieve_25n, ↓fX9_sieve_26, ↓fX9_sieve_26r, ↓fX9_sieve_29, ↓fX9_sieve_30, ↓fX9_sieve_31, ↓fX9_sieve_34, ↓fX9_sieve_35, ↓fX9_sieve_36, ↓fX9_sieve_36n, ↓fX9_sieve_37, ↓fX9_sieve_38, ↓fX9_sieve_41, ↓fX9_sieve_44, ↓c9_within, bI_0, ↓c9_fail, c1, and_self, true_and, and_true, false_and, and_false, not_true_eq_false, not_false_eq_true, or_self, true_or, or_true, false_or, or_false, ite_not, Decidable.not_not, decide_eq_true_eq, Bool.not_true, Bool.not_false, Bool.false_eq_true, Bool.not_eq_true, n10, n20, n21, n30, n31, n32, n40, n41, n42, n43, ↓reduceIte]⟩
  · have c1 := Decidable.not_not.mp c1
    have cq : (decide ((¬ (0 ≤ w ∧ w ≤ 7)))) = false := decide_eq_false (by omega)
    have cb : onS (decide ((¬ (0 ≤ w ∧ w ≤ 7)))) n s ((0, prpZ (σ s.toNat) w)) = if 0 ≤ s ∧ s < n then ((0, prpZ (σ s.toNat) w)) else (2, -1) := if_neg (by rw [cq]; decide)
    rw [cb]
    by_cases c : 0 ≤ s ∧ s < n
    · rw [if_pos c]
      obtain ⟨hS, hR, hW, e1⟩ := HXS_sv (L := L) hx c
      have s0 := hS.1
      have hg := hR.1
      have e2 := fun Q => c7_property (L := L) (Q := Q) hS hg c1
      rw [RS_prp hR hW] at e2
      refine ⟨u2 G X 5 0, lkX_st hgt _, u2_s _ _ _ _, fun Q => ?_⟩
      simp (disch := first | assumption | exact c2_int _ | exact c2_ref _ | exact c2_jk | exact c2_null | omega | (apply rN1; assumption) | (apply rN2; assumption) | (apply rN3; assumption) | (apply rN4; assumption) | exact bI_r _ | exact bI_01 _) only [↓fX9_sieve_0, ↓fX9_sieve_1, ↓fX9_sieve_2, ↓fX9_sieve_4, ↓fX9_sieve_7, ↓fX9_sieve_10, ↓fX9_sieve_11, ↓fX9_sieve_12, ↓fX9_sieve_15, ↓fX9_sieve_16, ↓fX9_sieve_17, ↓fX9_sieve_20, ↓fX9_sieve_21, ↓fX9_sieve_24, ↓fX9_sieve_24n, ↓fX9_sieve_25, ↓fX9_sieve_25n, ↓fX9_sieve_26, ↓fX9_sieve_26r, ↓fX9_sieve_29, ↓fX9_sieve_30, ↓fX9_sieve_31, ↓fX9_sieve_34, ↓fX9_sieve_35, ↓fX9_sieve_36, ↓fX9_sieve_36n, ↓fX9_sieve_37, ↓fX9_sieve_38, ↓fX9_sieve_41, ↓fX9_sieve_44, ↓c9_within, bI_0, ↓e1, ↓e2, ↓c9_succeed, c1, and_self, true_and, and_true, false_and, and_false, not_true_eq_false, not_false_eq_true, or_self, true_or, or_true, false_or, or_false, ite_not, Decidable.not_not, decide_eq_true_eq, Bool.not_true, Bool.not_false, Bool.false_eq_true, Bool.not_eq_true, n10, n20, n21, n30, n31, n32, n40, n41, n42, n43, ↓reduceIte]
    · rw [if_neg c]
      have e1 := HXS_none (L := L) hx hs c
      exact ⟨u2 G X 5 2, lkX_st hgt 2, u2_s _ _ _ _, fun Q => by simp (disch := first | assumption | exact c2_int _ | exact c2_ref _ | exact c2_jk | exact c2_null | omega | (apply rN1; assumption) | (apply rN2; assumption) | (apply rN3; assumption) | (apply rN4; assumption) | exact bI_r _ | exact bI_01 _) only [↓fX9_sieve_0, ↓fX9_sieve_1, ↓fX9_sieve_2, ↓fX9_sieve_4, ↓fX9_sieve_7, ↓fX9_sieve_10, ↓fX9_sieve_11, ↓fX9_sieve_12, ↓fX9_sieve_15, ↓fX9_sieve_16, ↓fX9_sieve_17, ↓fX9_sieve_20, ↓fX9_sieve_21, ↓fX9_sieve_24, ↓fX9_sieve_24n, ↓fX9_sieve_25, ↓fX9_sieve_25n, ↓fX9_sieve_26, ↓fX9_sieve_26r, ↓fX9_sieve_29, ↓fX9_sieve_30, ↓fX9_sieve_31, ↓fX9_sieve_34, ↓fX9_sieve_35, ↓fX9_sieve_36, ↓fX9_sieve_36n, ↓fX9_sieve_37, ↓fX9_sieve_38, ↓fX9_sieve_41, ↓fX9_sieve_44, ↓c9_within, bI_0, ↓e1, ↓c9_fail, c1, and_self, true_and, and_true, false_and, and_false, not_true_eq_false, not_false_eq_true, or_self, true_or, or_true, false_or, or_false, ite_not, Decidable.not_not, decide_eq_true_eq, Bool.not_true, Bool.not_false, Bool.false_eq_true, Bool.not_eq_true, n10, n20, n21, n30, n31, n32, n40, n41, n42, n43, ↓reduceIte]⟩
theorem x_told (hx : HXS E r G X p q n σ a kk nn τ) (hs : I32 s) (hy : I32 y) (hw : I32 w) : ∃ G', lkX G G' X ∧ G' X 5 = (onS (decide ((y < 1) ∨ (¬ (0 ≤ w ∧ w ≤ 3)))) n s (ans (orZ (σ s.toNat) y w))).1 ∧ ∀ Q, RK MX9_told 0 [.ref X, .int (zi s), .int (zi y), .int (zi w), jk] [] (0, 0) (E, zg G, zk L, r) Q = Q (E, zg G', zk L, r) (.int (zi (onS (decide ((y < 1) ∨ (¬ (0 ≤ w ∧ w ≤ 3)))) n s (ans (orZ (σ s.toNat) y w))).2)) := by
  obtain ⟨x0, ⟨x1, x2, x3, x4, x5⟩, xD, xP, xS, xT⟩ := id hx.1
  have h0 := hx.2.1.1.1
  have hgt := hx.2.2
  by_cases c1 : y < 1
  · have cb : onS (decide ((y < 1) ∨ (¬ (0 ≤ w ∧ w ≤ 3)))) n s (ans (orZ (σ s.toNat) y w)) = (1, -1) := if_pos (decide_eq_true (by omega))
    rw [cb]
    exact ⟨u2 G X 5 1, lkX_st hgt 1, u2_s _ _ _ _, fun Q => by simp (disch := first | assumption | exact c2_int _ | exact c2_ref _ | exact c2_jk | exact c2_null | omega | (apply rN1; assumption) | (apply rN2; assumption) | (apply rN3; assumption) | (apply rN4; assumption) | exact bI_r _ | exact bI_01 _) only [↓fX9_told_0, ↓fX9_told_1, ↓fX9_told_2, ↓fX9_told_5, ↓fX9_told_6, ↓fX9_told_7, ↓fX9_told_8, ↓fX9_told_11, ↓fX9_told_14, ↓fX9_told_15, ↓fX9_told_16, ↓fX9_told_19, ↓fX9_told_20, ↓fX9_told_21, ↓fX9_told_24, ↓fX9_told_25, ↓fX9_told_28, ↓fX9_told_28n, ↓fX9_told_30, ↓fX9_told_30n, ↓fX9_told_32, ↓fX9_told_32r, ↓fX9_told_35, ↓fX9_told_36, ↓fX9_told_37, ↓fX9_told_40, ↓fX9_told_41, ↓fX9_told_42, ↓fX9_told_42n, ↓fX9_told_44, ↓fX9_told_45, ↓fX9_told_46, ↓fX9_told_49, ↓fX9_told_52, ↓c9_within, bI_0, ↓c9_fail, c1, and_self, true_and, and_true, false_and, and_false, not_true_eq_false, not_false_eq_true, or_self, true_or, or_true, false_or, or_false, ite_not, Decidable.not_not, decide_eq_true_eq, Bool.not_true, Bool.not_false, Bool.false_eq_true, Bool.not_eq_true, n10, n20, n21, n30, n31, n32, n40, n41, n42, n43, ↓reduceIte]⟩
  · by_cases c2 : ¬ (0 ≤ w ∧ w ≤ 3)
    · have cb : onS (decide ((y < 1) ∨ (¬ (0 ≤ w ∧ w ≤ 3)))) n s (ans (orZ (σ s.toNat) y w)) = (1, -1) := if_pos (decide_eq_true (by omega))
      rw [cb]
      exact ⟨u2 G X 5 1, lkX_st hgt 1, u2_s _ _ _ _, fun Q => by simp (disch := first | assumption | exact c2_int _ | exact c2_ref _ | exact c2_jk | exact c2_null | omega | (apply rN1; assumption) | (apply rN2; assumption) | (apply rN3; assumption) | (apply rN4; assumption) | exact bI_r _ | exact bI_01 _) only [↓fX9_told_0, ↓fX9_told_1, ↓fX9_told_2, ↓fX9_told_5, ↓fX9_told_6, ↓fX9_told_7, ↓fX9_told_8, ↓fX9_told_11, ↓fX9_told_14, ↓fX9_told_15, ↓fX9_told_16, ↓fX9_told_19, ↓fX9_told_20, ↓fX9_told_21, ↓fX9_told_24, ↓fX9_told_25, ↓fX9_told_28, ↓fX9_told_28n, ↓fX9_told_30, ↓fX9_told_30n, ↓fX9_told_32, ↓fX9_told_32r, ↓fX9_told_35, ↓fX9_told_36, ↓fX9_told_37, ↓fX9_told_40, ↓fX9_told_41, ↓fX9_told_42, ↓fX9_told_42n, ↓fX9_told_44, ↓fX9_told_45, ↓fX9_told_46, ↓fX9_told_49, ↓fX9_told_52, ↓c9_within, bI_0, ↓c9_fail, c1, c2, and_self, true_and, and_true, false_and, and_false, not_true_eq_false, not_false_eq_true, or_self, true_or, or_true, false_or, or_false, ite_not, Decidable.not_not, decide_eq_true_eq, Bool.not_true, Bool.not_false, Bool.false_eq_true, Bool.not_eq_true, n10, n20, n21, n30, n31, n32, n40, n41, n42, n43, ↓reduceIte]⟩
    · have c2 := Decidable.not_not.mp c2
      have cq : (decide ((y < 1) ∨ (¬ (0 ≤ w ∧ w ≤ 3)))) = false := decide_eq_false (by omega)
      have cb : onS (decide ((y < 1) ∨ (¬ (0 ≤ w ∧ w ≤ 3)))) n s (ans (orZ (σ s.toNat) y w)) = if 0 ≤ s ∧ s < n then (ans (orZ (σ s.toNat) y w)) else (2, -1) := if_neg (by rw [cq]; decide)
      rw [cb]
      by_cases c : 0 ≤ s ∧ s < n
      · rw [if_pos c]
        obtain ⟨hS, hR, hW, e1⟩ := HXS_sv (L := L) hx c
        have s0 := hS.1
        have hg := hR.1
        have e2 := fun Q => c3_ofRound (L := L) (Q := Q) hS hg hy c2
        rw [RS_or hR hW] at e2
        have e3 : I32 (orZ (σ s.toNat) y w) := by have := orZ_b (p := y) (w := w) hW; exact ⟨by omega, by omega⟩
        refine ⟨u2 G X 5 (ans (orZ (σ s.toNat) y w)).1, lkX_st hgt _, u2_s _ _ _ _, fun Q => ?_⟩
        simp (disch := first | assumption | exact c2_int _ | exact c2_ref _ | exact c2_jk | exact c2_null | omega | (apply rN1; assumption) | (apply rN2; assumption) | (apply rN3; assumption) | (apply rN4; assumption) | exact bI_r _ | exact bI_01 _) only [↓fX9_told_0, ↓fX9_told_1, ↓fX9_told_2, ↓fX9_told_5, ↓fX9_told_6, ↓fX9_told_7, ↓fX9_told_8, ↓fX9_told_11, ↓fX9_told_14, ↓fX9_told_15, ↓fX9_told_16, ↓fX9_told_19, ↓fX9_told_20, ↓fX9_told_21, ↓fX9_told_24, ↓fX9_told_25, ↓fX9_told_28, ↓fX9_told_28n, ↓fX9_told_30, ↓fX9_told_30n, ↓fX9_told_32, ↓fX9_told_32r, ↓fX9_told_35, ↓fX9_told_36, ↓fX9_told_37, ↓fX9_told_40, ↓fX9_told_41, ↓fX9_told_42, ↓fX9_told_42n, ↓fX9_told_44, ↓fX9_told_45, ↓fX9_told_46, ↓fX9_told_49, ↓fX9_told_52, ↓c9_within, bI_0, ↓e1, ↓e2, ↓c9_answer, c1, c2, and_self, true_and, and_true, false_and, and_false, not_true_eq_false, not_false_eq_true, or_self, true_or, or_true, false_or, or_false, ite_not, Decidable.not_not, decide_eq_true_eq, Bool.not_true, Bool.not_false, Bool.false_eq_true, Bool.not_eq_true, n10, n20, n21, n30, n31, n32, n40, n41, n42, n43, ↓reduceIte]
        rfl
      · rw [if_neg c]
        have e1 := HXS_none (L := L) hx hs c
        exact ⟨u2 G X 5 2, lkX_st hgt 2, u2_s _ _ _ _, fun Q => by simp (disch := first | assumption | exact c2_int _ | exact c2_ref _ | exact c2_jk | exact c2_null | omega | (apply rN1; assumption) | (apply rN2; assumption) | (apply rN3; assumption) | (apply rN4; assumption) | exact bI_r _ | exact bI_01 _) only [↓fX9_told_0, ↓fX9_told_1, ↓fX9_told_2, ↓fX9_told_5, ↓fX9_told_6, ↓fX9_told_7, ↓fX9_told_8, ↓fX9_told_11, ↓fX9_told_14, ↓fX9_told_15, ↓fX9_told_16, ↓fX9_told_19, ↓fX9_told_20, ↓fX9_told_21, ↓fX9_told_24, ↓fX9_told_25, ↓fX9_told_28, ↓fX9_told_28n, ↓fX9_told_30, ↓fX9_told_30n, ↓fX9_told_32, ↓fX9_told_32r, ↓fX9_told_35, ↓fX9_told_36, ↓fX9_told_37, ↓fX9_told_40, ↓fX9_told_41, ↓fX9_told_42, ↓fX9_told_42n, ↓fX9_told_44, ↓fX9_told_45, ↓fX9_told_46, ↓fX9_told_49, ↓fX9_told_52, ↓c9_within, bI_0, ↓e1, ↓c9_fail, c1, c2, and_self, true_and, and_true, false_and, and_false, not_true_eq_false, not_false_eq_true, or_self, true_or, or_true, false_or, or_false, ite_not, Decidable.not_not, decide_eq_true_eq, Bool.not_true, Bool.not_false, Bool.false_eq_true, Bool.not_eq_true, n10, n20, n21, n30, n31, n32, n40, n41, n42, n43, ↓reduceIte]⟩
theorem x_rank (hx : HXS E r G X p q n σ a kk nn τ) (hs : I32 s) (hx' : I32 x) : ∃ G', lkX G G' X ∧ G' X 5 = (onS (false) n s (ans (poZ (σ s.toNat) x))).1 ∧ ∀ Q, RK MX9_rank 0 [.ref X, .int (zi s), .int (zi x), jk] [] (0, 0) (E, zg G, zk L, r) Q = Q (E, zg G', zk L, r) (.int (zi (onS (false) n s (ans (poZ (σ s.toNat) x))).2)) := by
  obtain ⟨x0, ⟨x1, x2, x3, x4, x5⟩, xD, xP, xS, xT⟩ := id hx.1
  have h0 := hx.2.1.1.1
  have hgt := hx.2.2
  have cb : onS (false) n s (ans (poZ (σ s.toNat) x)) = if 0 ≤ s ∧ s < n then (ans (poZ (σ s.toNat) x)) else (2, -1) := if_neg (by decide)
  rw [cb]
  by_cases c : 0 ≤ s ∧ s < n
  · rw [if_pos c]
    obtain ⟨hS, hR, hW, e1⟩ := HXS_sv (L := L) hx c
    have s0 := hS.1
    have hg := hR.1
    have e2 := fun Q => c7_placeOf (L := L) (Q := Q) hS hg hx'
    have e4 : (if hasX G (svA X p s) x = true then cuL (nA G (svA X p s)) (G (svA X p s) 13) x 600 0 else -1) = poZ (σ s.toNat) x := RS_po hR hW
    rw [e4] at e2
    have e3 : I32 (poZ (σ s.toNat) x) := by have := poZ_b (x := x) hW; exact ⟨by omega, by omega⟩
    refine ⟨u2 G X 5 (ans (poZ (σ s.toNat) x)).1, lkX_st hgt _, u2_s _ _ _ _, fun Q => ?_⟩
    simp (disch := first | assumption | exact c2_int _ | exact c2_ref _ | exact c2_jk | exact c2_null | omega | (apply rN1; assumption) | (apply rN2; assumption) | (apply rN3; assumption) | (apply rN4; assumption) | exact bI_r _ | exact bI_01 _) only [↓fX9_rank_0, ↓fX9_rank_1, ↓fX9_rank_4, ↓fX9_rank_5, ↓fX9_rank_8, ↓fX9_rank_8n, ↓fX9_rank_9, ↓fX9_rank_9n, ↓fX9_rank_10, ↓fX9_rank_10r, ↓fX9_rank_13, ↓fX9_rank_14, ↓fX9_rank_15, ↓fX9_rank_18, ↓fX9_rank_19, ↓fX9_rank_20, ↓fX9_rank_20n, ↓fX9_rank_21, ↓fX9_rank_22, ↓fX9_rank_25, ↓fX9_rank_28, ↓c9_within, bI_0, ↓e1, ↓e2, ↓c9_answer, and_self, true_and, and_true, false_and, and_false, not_true_eq_false, not_false_eq_true, or_self, true_or, or_true, false_or, or_false, ite_not, Decidable.not_not, decide_eq_true_eq, Bool.not_true, Bool.not_false, Bool.false_eq_true, Bool.not_eq_true, n10, n20, n21, n30, n31, n32, n40, n41, n42, n43, ↓reduceIte]
    rfl
  · rw [if_neg c]
    have e1 := HXS_none (L := L) hx hs c
    exact ⟨u2 G X 5 2, lkX_st hgt 2, u2_s _ _ _ _, fun Q => by simp (disch := first | assumption | exact c2_int _ | exact c2_ref _ | exact c2_jk | exact c2_null | omega | (apply rN1; assumption) | (apply rN2; assumption) | (apply rN3; assumption) | (apply rN4; assumption) | exact bI_r _ | exact bI_01 _) only [↓fX9_rank_0, ↓fX9_rank_1, ↓fX9_rank_4, ↓fX9_rank_5, ↓fX9_rank_8, ↓fX9_rank_8n, ↓fX9_rank_9, ↓fX9_rank_9n, ↓fX9_rank_10, ↓fX9_rank_10r, ↓fX9_rank_13, ↓fX9_rank_14, ↓fX9_rank_15, ↓fX9_rank_18, ↓fX9_rank_19, ↓fX9_rank_20, ↓fX9_rank_20n, ↓fX9_rank_21, ↓fX9_rank_22, ↓fX9_rank_25, ↓fX9_rank_28, ↓c9_within, bI_0, ↓e1, ↓c9_fail, and_self, true_and, and_true, false_and, and_false, not_true_eq_false, not_false_eq_true, or_self, true_or, or_true, false_or, or_false, ite_not, Decidable.not_not, decide_eq_true_eq, Bool.not_true, Bool.not_false, Bool.false_eq_true, Bool.not_eq_true, n10, n20, n21, n30, n31, n32, n40, n41, n42, n43, ↓reduceIte]⟩
theorem x_fate (hx : HXS E r G X p q n σ a kk nn τ) (hs : I32 s) (hx' : I32 x) (hw : I32 w) : ∃ G', lkX G G' X ∧ G' X 5 = (onS (decide ((¬ (0 ≤ w ∧ w ≤ 1)))) n s (ans (osZ (σ s.toNat) x w))).1 ∧ ∀ Q, RK MX9_fate 0 [.ref X, .int (zi s), .int (zi x), .int (zi w), jk] [] (0, 0) (E, zg G, zk L, r) Q = Q (E, zg G', zk L, r) (.int (zi (onS (decide ((¬ (0 ≤ w ∧ w ≤ 1)))) n s (ans (osZ (σ s.toNat) x w))).2)) := by
  obtain ⟨x0, ⟨x1, x2, x3, x4, x5⟩, xD, xP, xS, xT⟩ := id hx.1
  have h0 := hx.2.1.1.1
  have hgt := hx.2.2
  by_cases c1 : ¬ (0 ≤ w ∧ w ≤ 1)
  · have cb : onS (decide ((¬ (0 ≤ w ∧ w ≤ 1)))) n s (ans (osZ (σ s.toNat) x w)) = (1, -1) := if_pos (decide_eq_true (by omega))
    rw [cb]
    exact ⟨u2 G X 5 1, lkX_st hgt 1, u2_s _ _ _ _, fun Q => by simp (disch := first | assumption | exact c2_int _ | exact c2_ref _ | exact c2_jk | exact c2_null | omega | (apply rN1; assumption) | (apply rN2; assumption) | (apply rN3; assumption) | (apply rN4; assumption) | exact bI_r _ | exact bI_01 _) only [↓fX9_fate_0, ↓fX9_fate_1, ↓fX9_fate_2, ↓fX9_fate_3, ↓fX9_fate_6, ↓fX9_fate_9, ↓fX9_fate_10, ↓fX9_fate_11, ↓fX9_fate_14, ↓fX9_fate_15, ↓fX9_fate_16, ↓fX9_fate_19, ↓fX9_fate_20, ↓fX9_fate_23, ↓fX9_fate_23n, ↓fX9_fate_25, ↓fX9_fate_25n, ↓fX9_fate_27, ↓fX9_fate_27r, ↓fX9_fate_30, ↓fX9_fate_31, ↓fX9_fate_32, ↓fX9_fate_35, ↓fX9_fate_36, ↓fX9_fate_37, ↓fX9_fate_37n, ↓fX9_fate_39, ↓fX9_fate_40, ↓fX9_fate_41, ↓fX9_fate_44, ↓fX9_fate_47, ↓c9_within, bI_0, ↓c9_fail, c1, and_self, true_and, and_true, false_and, and_false, not_true_eq_false, not_false_eq_true, or_self, true_or, or_true, false_or, or_false, ite_not, Decidable.not_not, decide_eq_true_eq, Bool.not_true, Bool.not_false, Bool.false_eq_true, Bool.not_eq_true, n10, n20, n21, n30, n31, n32, n40, n41, n42, n43, ↓reduceIte]⟩
  · have c1 := Decidable.not_not.mp c1
    have cq : (decide ((¬ (0 ≤ w ∧ w ≤ 1)))) = false := decide_eq_false (by omega)
    have cb : onS (decide ((¬ (0 ≤ w ∧ w ≤ 1)))) n s (ans (osZ (σ s.toNat) x w)) = if 0 ≤ s ∧ s < n then (ans (osZ (σ s.toNat) x w)) else (2, -1) := if_neg (by rw [cq]; decide)
    rw [cb]
    by_cases c : 0 ≤ s ∧ s < n
    · rw [if_pos c]
      obtain ⟨hS, hR, hW, e1⟩ := HXS_sv (L := L) hx c
      have s0 := hS.1
      have hg := hR.1
      have e2 := fun Q => c3_ofStruck (L := L) (Q := Q) hS hg hx' hw
      rw [RS_os hR hW] at e2
      have e3 : I32 (osZ (σ s.toNat) x w) := by have := osZ_b (x := x) (w := w) hW; exact ⟨by omega, by omega⟩
      refine ⟨u2 G X 5 (ans (osZ (σ s.toNat) x w)).1, lkX_st hgt _, u2_s _ _ _ _, fun Q => ?_⟩
      simp (disch := first | assumption | exact c2_int _ | exact c2_ref _ | exact c2_jk | exact c2_null | omega | (apply rN1; assumption) | (apply rN2; assumption) | (apply rN3; assumption) | (apply rN4; assumption) | exact bI_r _ | exact bI_01 _) only [↓fX9_fate_0, ↓fX9_fate_1, ↓fX9_fate_2, ↓fX9_fate_3, ↓fX9_fate_6, ↓fX9_fate_9, ↓fX9_fate_10, ↓fX9_fate_11, ↓fX9_fate_14, ↓fX9_fate_15, ↓fX9_fate_16, ↓fX9_fate_19, ↓fX9_fate_20, ↓fX9_fate_23, ↓fX9_fate_23n, ↓fX9_fate_25, ↓fX9_fate_25n, ↓fX9_fate_27, ↓fX9_fate_27r, ↓fX9_fate_30, ↓fX9_fate_31, ↓fX9_fate_32, ↓fX9_fate_35, ↓fX9_fate_36, ↓fX9_fate_37, ↓fX9_fate_37n, ↓fX9_fate_39, ↓fX9_fate_40, ↓fX9_fate_41, ↓fX9_fate_44, ↓fX9_fate_47, ↓c9_within, bI_0, ↓e1, ↓e2, ↓c9_answer, c1, and_self, true_and, and_true, false_and, and_false, not_true_eq_false, not_false_eq_true, or_self, true_or, or_true, false_or, or_false, ite_not, Decidable.not_not, decide_eq_true_eq, Bool.not_true, Bool.not_false, Bool.false_eq_true, Bool.not_eq_true, n10, n20, n21, n30, n31, n32, n40, n41, n42, n43, ↓reduceIte]
      rfl
    · rw [if_neg c]
      have e1 := HXS_none (L := L) hx hs c
      exact ⟨u2 G X 5 2, lkX_st hgt 2, u2_s _ _ _ _, fun Q => by simp (disch := first | assumption | exact c2_int _ | exact c2_ref _ | exact c2_jk | exact c2_null | omega | (apply rN1; assumption) | (apply rN2; assumption) | (apply rN3; assumption) | (apply rN4; assumption) | exact bI_r _ | exact bI_01 _) only [↓fX9_fate_0, ↓fX9_fate_1, ↓fX9_fate_2, ↓fX9_fate_3, ↓fX9_fate_6, ↓fX9_fate_9, ↓fX9_fate_10, ↓fX9_fate_11, ↓fX9_fate_14, ↓fX9_fate_15, ↓fX9_fate_16, ↓fX9_fate_19, ↓fX9_fate_20, ↓fX9_fate_23, ↓fX9_fate_23n, ↓fX9_fate_25, ↓fX9_fate_25n, ↓fX9_fate_27, ↓fX9_fate_27r, ↓fX9_fate_30, ↓fX9_fate_31, ↓fX9_fate_32, ↓fX9_fate_35, ↓fX9_fate_36, ↓fX9_fate_37, ↓fX9_fate_37n, ↓fX9_fate_39, ↓fX9_fate_40, ↓fX9_fate_41, ↓fX9_fate_44, ↓fX9_fate_47, ↓c9_within, bI_0, ↓e1, ↓c9_fail, c1, and_self, true_and, and_true, false_and, and_false, not_true_eq_false, not_false_eq_true, or_self, true_or, or_true, false_or, or_false, ite_not, Decidable.not_not, decide_eq_true_eq, Bool.not_true, Bool.not_false, Bool.false_eq_true, Bool.not_eq_true, n10, n20, n21, n30, n31, n32, n40, n41, n42, n43, ↓reduceIte]⟩
theorem x_back (hx : HXS E r G X p q n σ a kk nn τ) (hs : I32 s) (hy : I32 y) (hk : I32 k) : ∃ G', lkX G G' X ∧ G' X 5 = (onS (decide ((y < 1) ∨ (k < 1))) n s (ans (lbZ (σ s.toNat) y y k))).1 ∧ ∀ Q, RK MX9_back 0 [.ref X, .int (zi s), .int (zi y), .int (zi k), jk] [] (0, 0) (E, zg G, zk L, r) Q = Q (E, zg G', zk L, r) (.int (zi (onS (decide ((y < 1) ∨ (k < 1))) n s (ans (lbZ (σ s.toNat) y y k))).2)) := by
  obtain ⟨x0, ⟨x1, x2, x3, x4, x5⟩, xD, xP, xS, xT⟩ := id hx.1
  have h0 := hx.2.1.1.1
  have hgt := hx.2.2
  by_cases c1 : y < 1
  · have cb : onS (decide ((y < 1) ∨ (k < 1))) n s (ans (lbZ (σ s.toNat) y y k)) = (1, -1) := if_pos (decide_eq_true (by omega))
    rw [cb]
    exact ⟨u2 G X 5 1, lkX_st hgt 1, u2_s _ _ _ _, fun Q => by simp (disch := first | assumption | exact c2_int _ | exact c2_ref _ | exact c2_jk | exact c2_null | omega | (apply rN1; assumption) | (apply rN2; assumption) | (apply rN3; assumption) | (apply rN4; assumption) | exact bI_r _ | exact bI_01 _) only [↓fX9_back_0, ↓fX9_back_1, ↓fX9_back_2, ↓fX9_back_5, ↓fX9_back_6, ↓fX9_back_7, ↓fX9_back_10, ↓fX9_back_11, ↓fX9_back_12, ↓fX9_back_15, ↓fX9_back_16, ↓fX9_back_17, ↓fX9_back_20, ↓fX9_back_21, ↓fX9_back_24, ↓fX9_back_24n, ↓fX9_back_26, ↓fX9_back_26n, ↓fX9_back_28, ↓fX9_back_28r, ↓fX9_back_31, ↓fX9_back_32, ↓fX9_back_33, ↓fX9_back_36, ↓fX9_back_37, ↓fX9_back_38, ↓fX9_back_38n, ↓fX9_back_40, ↓fX9_back_41, ↓fX9_back_42, ↓fX9_back_43, ↓fX9_back_46, ↓fX9_back_49, ↓c9_within, bI_0, ↓c9_fail, c1, and_self, true_and, and_true, false_and, and_false, not_true_eq_false, not_false_eq_true, or_self, true_or, or_true, false_or, or_false, ite_not, Decidable.not_not, decide_eq_true_eq, Bool.not_true, Bool.not_false, Bool.false_eq_true, Bool.not_eq_true, n10, n20, n21, n30, n31, n32, n40, n41, n42, n43, ↓reduceIte]⟩
  · by_cases c2 : k < 1
    · have cb : onS (decide ((y < 1) ∨ (k < 1))) n s (ans (lbZ (σ s.toNat) y y k)) = (1, -1) := if_pos (decide_eq_true (by omega))
      rw [cb]
      exact ⟨u2 G X 5 1, lkX_st hgt 1, u2_s _ _ _ _, fun Q => by simp (disch := first | assumption | exact c2_int _ | exact c2_ref _ | exact c2_jk | exact c2_null | omega | (apply rN1; assumption) | (apply rN2; assumption) | (apply rN3; assumption) | (apply rN4; assumption) | exact bI_r _ | exact bI_01 _) only [↓fX9_back_0, ↓fX9_back_1, ↓fX9_back_2, ↓fX9_back_5, ↓fX9_back_6, ↓fX9_back_7, ↓fX9_back_10, ↓fX9_back_11, ↓fX9_back_12, ↓fX9_back_15, ↓fX9_back_16, ↓fX9_back_17, ↓fX9_back_20, ↓fX9_back_21, ↓fX9_back_24, ↓fX9_back_24n, ↓fX9_back_26, ↓fX9_back_26n, ↓fX9_back_28, ↓fX9_back_28r, ↓fX9_back_31, ↓fX9_back_32, ↓fX9_back_33, ↓fX9_back_36, ↓fX9_back_37, ↓fX9_back_38, ↓fX9_back_38n, ↓fX9_back_40, ↓fX9_back_41, ↓fX9_back_42, ↓fX9_back_43, ↓fX9_back_46, ↓fX9_back_49, ↓c9_within, bI_0, ↓c9_fail, c1, c2, and_self, true_and, and_true, false_and, and_false, not_true_eq_false, not_false_eq_true, or_self, true_or, or_true, false_or, or_false, ite_not, Decidable.not_not, decide_eq_true_eq, Bool.not_true, Bool.not_false, Bool.false_eq_true, Bool.not_eq_true, n10, n20, n21, n30, n31, n32, n40, n41, n42, n43, ↓reduceIte]⟩
    · have cq : (decide ((y < 1) ∨ (k < 1))) = false := decide_eq_false (by omega)
      have cb : onS (decide ((y < 1) ∨ (k < 1))) n s (ans (lbZ (σ s.toNat) y y k)) = if 0 ≤ s ∧ s < n then (ans (lbZ (σ s.toNat) y y k)) else (2, -1) := if_neg (by rw [cq]; decide)
      rw [cb]
      by_cases c : 0 ≤ s ∧ s < n
      · rw [if_pos c]
        obtain ⟨hS, hR, hW, e1⟩ := HXS_sv (L := L) hx c
        have s0 := hS.1
        have hg := hR.1
        have e2 := fun Q => c3_ledBack (L := L) (Q := Q) hS hg hy hy hk
        rw [RS_lb hR hW (by omega) (by omega)] at e2
        have e3 : I32 (lbZ (σ s.toNat) y y k) := by have := lbZ_b (f := y) (e := y) (p := k) hW; exact ⟨by omega, by omega⟩
        refine ⟨u2 G X 5 (ans (lbZ (σ s.toNat) y y k)).1, lkX_st hgt _, u2_s _ _ _ _, fun Q => ?_⟩
        simp (disch := first | assumption | exact c2_int _ | exact c2_ref _ | exact c2_jk | exact c2_null | omega | (apply rN1; assumption) | (apply rN2; assumption) | (apply rN3; assumption) | (apply rN4; assumption) | exact bI_r _ | exact bI_01 _) only [↓fX9_back_0, ↓fX9_back_1, ↓fX9_back_2, ↓fX9_back_5, ↓fX9_back_6, ↓fX9_back_7, ↓fX9_back_10, ↓fX9_back_11, ↓fX9_back_12, ↓fX9_back_15, ↓fX9_back_16, ↓fX9_back_17, ↓fX9_back_20, ↓fX9_back_21, ↓fX9_back_24, ↓fX9_back_24n, ↓fX9_back_26, ↓fX9_back_26n, ↓fX9_back_28, ↓fX9_back_28r, ↓fX9_back_31, ↓fX9_back_32, ↓fX9_back_33, ↓fX9_back_36, ↓fX9_back_37, ↓fX9_back_38, ↓fX9_back_38n, ↓fX9_back_40, ↓fX9_back_41, ↓fX9_back_42, ↓fX9_back_43, ↓fX9_back_46, ↓fX9_back_49, ↓c9_within, bI_0, ↓e1, ↓e2, ↓c9_answer, c1, c2, and_self, true_and, and_true, false_and, and_false, not_true_eq_false, not_false_eq_true, or_self, true_or, or_true, false_or, or_false, ite_not, Decidable.not_not, decide_eq_true_eq, Bool.not_true, Bool.not_false, Bool.false_eq_true, Bool.not_eq_true, n10, n20, n21, n30, n31, n32, n40, n41, n42, n43, ↓reduceIte]
        rfl
      · rw [if_neg c]
        have e1 := HXS_none (L := L) hx hs c
        exact ⟨u2 G X 5 2, lkX_st hgt 2, u2_s _ _ _ _, fun Q => by simp (disch := first | assumption | exact c2_int _ | exact c2_ref _ | exact c2_jk | exact c2_null | omega | (apply rN1; assumption) | (apply rN2; assumption) | (apply rN3; assumption) | (apply rN4; assumption) | exact bI_r _ | exact bI_01 _) only [↓fX9_back_0, ↓fX9_back_1, ↓fX9_back_2, ↓fX9_back_5, ↓fX9_back_6, ↓fX9_back_7, ↓fX9_back_10, ↓fX9_back_11, ↓fX9_back_12, ↓fX9_back_15, ↓fX9_back_16, ↓fX9_back_17, ↓fX9_back_20, ↓fX9_back_21, ↓fX9_back_24, ↓fX9_back_24n, ↓fX9_back_26, ↓fX9_back_26n, ↓fX9_back_28, ↓fX9_back_28r, ↓fX9_back_31, ↓fX9_back_32, ↓fX9_back_33, ↓fX9_back_36, ↓fX9_back_37, ↓fX9_back_38, ↓fX9_back_38n, ↓fX9_back_40, ↓fX9_back_41, ↓fX9_back_42, ↓fX9_back_43, ↓fX9_back_46, ↓fX9_back_49, ↓c9_within, bI_0, ↓e1, ↓c9_fail, c1, c2, and_self, true_and, and_true, false_and, and_false, not_true_eq_false, not_false_eq_true, or_self, true_or, or_true, false_or, or_false, ite_not, Decidable.not_not, decide_eq_true_eq, Bool.not_true, Bool.not_false, Bool.false_eq_true, Bool.not_eq_true, n10, n20, n21, n30, n31, n32, n40, n41, n42, n43, ↓reduceIte]⟩
theorem x_ahead (hx : HXS E r G X p q n σ a kk nn τ) (hs : I32 s) (hy : I32 y) (hk : I32 k) : ∃ G', lkX G G' X ∧ G' X 5 = (onS (decide ((y < 1) ∨ (k < 1))) n s (ans (lnoZ (σ s.toNat) y k))).1 ∧ ∀ Q, RK MX9_ahead 0 [.ref X, .int (zi s), .int (zi y), .int (zi k), jk] [] (0, 0) (E, zg G, zk L, r) Q = Q (E, zg G', zk L, r) (.int (zi (onS (decide ((y < 1) ∨ (k < 1))) n s (ans (lnoZ (σ s.toNat) y k))).2)) := by
  obtain ⟨x0, ⟨x1, x2, x3, x4, x5⟩, xD, xP, xS, xT⟩ := id hx.1
  have h0 := hx.2.1.1.1
  have hgt := hx.2.2
  by_cases c1 : y < 1
  · have cb : onS (decide ((y < 1) ∨ (k < 1))) n s (ans (lnoZ (σ s.toNat) y k)) = (1, -1) := if_pos (decide_eq_true (by omega))
    rw [cb]
    exact ⟨u2 G X 5 1, lkX_st hgt 1, u2_s _ _ _ _, fun Q => by simp (disch := first | assumption | exact c2_int _ | exact c2_ref _ | exact c2_jk | exact c2_null | omega | (apply rN1; assumption) | (apply rN2; assumption) | (apply rN3; assumption) | (apply rN4; assumption) | exact bI_r _ | exact bI_01 _) only [↓fX9_ahead_0, ↓fX9_ahead_1, ↓fX9_ahead_2, ↓fX9_ahead_5, ↓fX9_ahead_6, ↓fX9_ahead_7, ↓fX9_ahead_10, ↓fX9_ahead_11, ↓fX9_ahead_12, ↓fX9_ahead_15, ↓fX9_ahead_16, ↓fX9_ahead_17, ↓fX9_ahead_20, ↓fX9_ahead_21, ↓fX9_ahead_24, ↓fX9_ahead_24n, ↓fX9_ahead_26, ↓fX9_ahead_26n, ↓fX9_ahead_28, ↓fX9_ahead_28r, ↓fX9_ahead_31, ↓fX9_ahead_32, ↓fX9_ahead_33, ↓fX9_ahead_36, ↓fX9_ahead_37, ↓fX9_ahead_38, ↓fX9_ahead_38n, ↓fX9_ahead_40, ↓fX9_ahead_41, ↓fX9_ahead_42, ↓fX9_ahead_45, ↓fX9_ahead_48, ↓c9_within, bI_0, ↓c9_fail, c1, and_self, true_and, and_true, false_and, and_false, not_true_eq_false, not_false_eq_true, or_self, true_or, or_true, false_or, or_false, ite_not, Decidable.not_not, decide_eq_true_eq, Bool.not_true, Bool.not_false, Bool.false_eq_true, Bool.not_eq_true, n10, n20, n21, n30, n31, n32, n40, n41, n42, n43, ↓reduceIte]⟩
  · by_cases c2 : k < 1
    · have cb : onS (decide ((y < 1) ∨ (k < 1))) n s (ans (lnoZ (σ s.toNat) y k)) = (1, -1) := if_pos (decide_eq_true (by omega))
      rw [cb]
      exact ⟨u2 G X 5 1, lkX_st hgt 1, u2_s _ _ _ _, fun Q => by simp (disch := first | assumption | exact c2_int _ | exact c2_ref _ | exact c2_jk | exact c2_null | omega | (apply rN1; assumption) | (apply rN2; assumption) | (apply rN3; assumption) | (apply rN4; assumption) | exact bI_r _ | exact bI_01 _) only [↓fX9_ahead_0, ↓fX9_ahead_1, ↓fX9_ahead_2, ↓fX9_ahead_5, ↓fX9_ahead_6, ↓fX9_ahead_7, ↓fX9_ahead_10, ↓fX9_ahead_11, ↓fX9_ahead_12, ↓fX9_ahead_15, ↓fX9_ahead_16, ↓fX9_ahead_17, ↓fX9_ahead_20, ↓fX9_ahead_21, ↓fX9_ahead_24, ↓fX9_ahead_24n, ↓fX9_ahead_26, ↓fX9_ahead_26n, ↓fX9_ahead_28, ↓fX9_ahead_28r, ↓fX9_ahead_31, ↓fX9_ahead_32, ↓fX9_ahead_33, ↓fX9_ahead_36, ↓fX9_ahead_37, ↓fX9_ahead_38, ↓fX9_ahead_38n, ↓fX9_ahead_40, ↓fX9_ahead_41, ↓fX9_ahead_42, ↓fX9_ahead_45, ↓fX9_ahead_48, ↓c9_within, bI_0, ↓c9_fail, c1, c2, and_self, true_and, and_true, false_and, and_false, not_true_eq_false, not_false_eq_true, or_self, true_or, or_true, false_or, or_false, ite_not, Decidable.not_not, decide_eq_true_eq, Bool.not_true, Bool.not_false, Bool.false_eq_true, Bool.not_eq_true, n10, n20, n21, n30, n31, n32, n40, n41, n42, n43, ↓reduceIte]⟩
    · have cq : (decide ((y < 1) ∨ (k < 1))) = false := decide_eq_false (by omega)
      have cb : onS (decide ((y < 1) ∨ (k < 1))) n s (ans (lnoZ (σ s.toNat) y k)) = if 0 ≤ s ∧ s < n then (ans (lnoZ (σ s.toNat) y k)) else (2, -1) := if_neg (by rw [cq]; decide)
      rw [cb]
      by_cases c : 0 ≤ s ∧ s < n
      · rw [if_pos c]
        obtain ⟨hS, hR, hW, e1⟩ := HXS_sv (L := L) hx c
        have s0 := hS.1
        have hg := hR.1
        have e2 := fun Q => c3_ledOn (L := L) (Q := Q) hS hg hy hk
        rw [RS_lno hR hW (by omega)] at e2
        have e3 : I32 (lnoZ (σ s.toNat) y k) := by have := lnoZ_b (e := y) (p := k) hW; exact ⟨by omega, by omega⟩
        refine ⟨u2 G X 5 (ans (lnoZ (σ s.toNat) y k)).1, lkX_st hgt _, u2_s _ _ _ _, fun Q => ?_⟩
        simp (disch := first | assumption | exact c2_int _ | exact c2_ref _ | exact c2_jk | exact c2_null | omega | (apply rN1; assumption) | (apply rN2; assumption) | (apply rN3; assumption) | (apply rN4; assumption) | exact bI_r _ | exact bI_01 _) only [↓fX9_ahead_0, ↓fX9_ahead_1, ↓fX9_ahead_2, ↓fX9_ahead_5, ↓fX9_ahead_6, ↓fX9_ahead_7, ↓fX9_ahead_10, ↓fX9_ahead_11, ↓fX9_ahead_12, ↓fX9_ahead_15, ↓fX9_ahead_16, ↓fX9_ahead_17, ↓fX9_ahead_20, ↓fX9_ahead_21, ↓fX9_ahead_24, ↓fX9_ahead_24n, ↓fX9_ahead_26, ↓fX9_ahead_26n, ↓fX9_ahead_28, ↓fX9_ahead_28r, ↓fX9_ahead_31, ↓fX9_ahead_32, ↓fX9_ahead_33, ↓fX9_ahead_36, ↓fX9_ahead_37, ↓fX9_ahead_38, ↓fX9_ahead_38n, ↓fX9_ahead_40, ↓fX9_ahead_41, ↓fX9_ahead_42, ↓fX9_ahead_45, ↓fX9_ahead_48, ↓c9_within, bI_0, ↓e1, ↓e2, ↓c9_answer, c1, c2, and_self, true_and, and_true, false_and, and_false, not_true_eq_false, not_false_eq_true, or_self, true_or, or_true, false_or, or_false, ite_not, Decidable.not_not, decide_eq_true_eq, Bool.not_true, Bool.not_false, Bool.false_eq_true, Bool.not_eq_true, n10, n20, n21, n30, n31, n32, n40, n41, n42, n43, ↓reduceIte]
        rfl
      · rw [if_neg c]
        have e1 := HXS_none (L := L) hx hs c
        exact ⟨u2 G X 5 2, lkX_st hgt 2, u2_s _ _ _ _, fun Q => by simp (disch := first | assumption | exact c2_int _ | exact c2_ref _ | exact c2_jk | exact c2_null | omega | (apply rN1; assumption) | (apply rN2; assumption) | (apply rN3; assumption) | (apply rN4; assumption) | exact bI_r _ | exact bI_01 _) only [↓fX9_ahead_0, ↓fX9_ahead_1, ↓fX9_ahead_2, ↓fX9_ahead_5, ↓fX9_ahead_6, ↓fX9_ahead_7, ↓fX9_ahead_10, ↓fX9_ahead_11, ↓fX9_ahead_12, ↓fX9_ahead_15, ↓fX9_ahead_16, ↓fX9_ahead_17, ↓fX9_ahead_20, ↓fX9_ahead_21, ↓fX9_ahead_24, ↓fX9_ahead_24n, ↓fX9_ahead_26, ↓fX9_ahead_26n, ↓fX9_ahead_28, ↓fX9_ahead_28r, ↓fX9_ahead_31, ↓fX9_ahead_32, ↓fX9_ahead_33, ↓fX9_ahead_36, ↓fX9_ahead_37, ↓fX9_ahead_38, ↓fX9_ahead_38n, ↓fX9_ahead_40, ↓fX9_ahead_41, ↓fX9_ahead_42, ↓fX9_ahead_45, ↓fX9_ahead_48, ↓c9_within, bI_0, ↓e1, ↓c9_fail, c1, c2, and_self, true_and, and_true, false_and, and_false, not_true_eq_false, not_false_eq_true, or_self, true_or, or_true, false_or, or_false, ite_not, Decidable.not_not, decide_eq_true_eq, Bool.not_true, Bool.not_false, Bool.false_eq_true, Bool.not_eq_true, n10, n20, n21, n30, n31, n32, n40, n41, n42, n43, ↓reduceIte]⟩
end BS
