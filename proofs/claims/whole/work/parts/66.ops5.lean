/-! Calls of the house that only look. -/
section BS
variable {E : AE} {G G' L : Nat → Nat → Int} {r : Nat → Nat → Option Nat} {h : AH} {Q : AH → Value → Prop} {X S n a cl : Nat} {v y s x d e b c w k o : Int} {p q : Nat → Nat} {σ τ : Nat → Nat → Int} {kk nn : Nat → Int} {ln : Nat → Nat} {lv : Nat → Nat → Int}
theorem lrL_b (g : Int → Int) (n by_ : Int) (hn : n ≤ 600) : ∀ (k : Nat) (b mo ln i : Int), 1 ≤ i → (1 ≤ b ∧ b ≤ 600) → 0 ≤ ln → ln < i → 1 ≤ lrL g n by_ k b mo ln i ∧ lrL g n by_ k b mo ln i ≤ 600 := by
  intro k
  induction k with
  | zero => intro b mo ln i h1 h2 h3 h4; exact h2
  | succ k ih =>
    intro b mo ln i h1 h2 h3 h4
    unfold lrL
    by_cases q : i ≤ n
    · rw [if_pos q]
      have q1 : 0 ≤ (if g (i - 1) = by_ then ln + 1 else 1) ∧ (if g (i - 1) = by_ then ln + 1 else 1) ≤ i ∧ 1 ≤ (if g (i - 1) = by_ then ln + 1 else 1) := by split <;> omega
      have a1 := ih (i - (if g (i - 1) = by_ then ln + 1 else 1) + 1) (if g (i - 1) = by_ then ln + 1 else 1) (if g (i - 1) = by_ then ln + 1 else 1) (i + 1) (by omega) (by omega) (by omega) (by omega)
      have a2 := ih b mo (if g (i - 1) = by_ then ln + 1 else 1) (i + 1) (by omega) h2 (by omega) (by omega)
      by_cases z : mo < (if g (i - 1) = by_ then ln + 1 else 1)
      · rw [if_pos z]
        exact a1
      · rw [if_neg z]
        exact a2
    · rw [if_neg q]
      exact h2
theorem lrZ_b {σ : Nat → Int} (w : WF σ) : 1 ≤ lrZ σ ∧ lrZ σ ≤ 600 := lrL_b _ _ _ (szS_b w).2 600 1 0 0 1 (by omega) (by omega) (by omega) (by omega)
theorem lpL_b (A : Int → Int) (P : Int → Bool) (n d : Int) (hA : ∀ p, -1 ≤ A p ∧ A p ≤ 100000) : ∀ (k : Nat) (i b mo : Int), (-1 ≤ b ∧ b ≤ 100000) → -1 ≤ lpL A P n d k i b mo ∧ lpL A P n d k i b mo ≤ 100000 := by
  intro k
  induction k with
  | zero => intro i b mo h; exact h
  | succ k ih =>
    intro i b mo h
    unfold lpL
    have hi := hA i
    have a1 := ih (i + 1) b mo h
    have a2 := ih (i + 1) (A i) (pgL P n d 600 1 (A i + d)) hi
    repeat' split
    all_goals omega
theorem lpZ_b {σ : Nat → Int} (w : WF σ) (d : Int) : -1 ≤ lpZ σ d ∧ lpZ σ d ≤ 100000 := lpL_b _ _ _ _ (nAS_b w) 600 1 _ _ (nAS_b w 1)
theorem clZ_b {σ : Nat → Int} (w' : WF σ) {w : Int} (hw : 2 ≤ w) : clZ σ w = -1 ∨ (1 ≤ clZ σ w ∧ clZ σ w ≤ 600 ∧ w ≤ szS σ) := by
  have := szS_b w'
  unfold clZ
  split
  · have := bsL_b (fun i b => decide (nAS σ (i + w - 1) - nAS σ i < nAS σ (b + w - 1) - nAS σ b)) (szS σ - w + 2) 600 2 1 (by omega) (by omega)
    omega
  · exact Or.inl rfl
theorem x_run (hx : HXS E r G X p q n σ a kk nn τ) (hs : I32 s) (hw : I32 w) : ∃ G', lkX G G' X ∧ G' X 5 = (onS (decide ((¬ (0 ≤ w ∧ w ≤ 1)))) n s (if w = 1 then (0, lrZ (σ s.toNat)) else (0, reZ (σ s.toNat) (lrZ (σ s.toNat)) - lrZ (σ s.toNat) + 1))).1 ∧ ∀ Q, RK MX9_run 0 [.ref X, .int (zi s), .int (zi w), jk, jk] [] (0, 0) (E, zg G, zk L, r) Q = Q (E, zg G', zk L, r) (.int (zi (onS (decide ((¬ (0 ≤ w ∧ w ≤ 1)))) n s (if w = 1 then (0, lrZ (σ s.toNat)) else (0, reZ (σ s.toNat) (lrZ (σ s.toNat)) - lrZ (σ s.toNat) + 1))).2)) := by
  obtain ⟨x0, ⟨x1, x2, x3, x4, x5⟩, xD, xP, xS, xT⟩ := id hx.1
  have h0 := hx.2.1.1.1
  have hgt := hx.2.2
  by_cases c1 : ¬ (0 ≤ w ∧ w ≤ 1)
  · have cb : onS (decide ((¬ (0 ≤ w ∧ w ≤ 1)))) n s (if w = 1 then (0, lrZ (σ s.toNat)) else (0, reZ (σ s.toNat) (lrZ (σ s.toNat)) - lrZ (σ s.toNat) + 1)) = (1, -1) := if_pos (decide_eq_true (by omega))
    rw [cb]
    exact ⟨u2 G X 5 1, lkX_st hgt 1, u2_s _ _ _ _, fun Q => by simp (disch := first | assumption | exact c2_int _ | exact c2_ref _ | exact c2_jk | exact c2_null | omega | (apply rN1; assumption) | (apply rN2; assumption) | (apply rN3; assumption) | (apply rN4; assumption) | exact bI_r _ | exact bI_01 _) only [↓fX9_run_0, ↓fX9_run_1, ↓fX9_run_2, ↓fX9_run_3, ↓fX9_run_6, ↓fX9_run_9, ↓fX9_run_10, ↓fX9_run_11, ↓fX9_run_14, ↓fX9_run_15, ↓fX9_run_16, ↓fX9_run_19, ↓fX9_run_20, ↓fX9_run_23, ↓fX9_run_23n, ↓fX9_run_24, ↓fX9_run_24n, ↓fX9_run_25, ↓fX9_run_25r, ↓fX9_run_28, ↓fX9_run_29, ↓fX9_run_30, ↓fX9_run_33, ↓fX9_run_34, ↓fX9_run_34n, ↓fX9_run_35, ↓fX9_run_38, ↓fX9_run_40, ↓fX9_run_41, ↓fX9_run_42, ↓fX9_run_43, ↓fX9_run_46, ↓fX9_run_48, ↓fX9_run_51, ↓fX9_run_51n, ↓fX9_run_52, ↓fX9_run_54, ↓fX9_run_57, ↓fX9_run_59, ↓fX9_run_60, ↓fX9_run_61, ↓fX9_run_62, ↓fX9_run_65, ↓c9_within, bI_0, ↓c9_fail, c1, and_self, true_and, and_true, false_and, and_false, not_true_eq_false, not_false_eq_true, or_self, true_or, or_true, false_or, or_false, ite_not, Decidable.not_not, decide_eq_true_eq, Bool.not_true, Bool.not_false, Bool.false_eq_true, Bool.not_eq_true, n10, n20, n21, n30, n31, n32, n40, n41, n42, n43, ↓reduceIte]⟩
  · have c1 := Decidable.not_not.mp c1
    have cq : (decide ((¬ (0 ≤ w ∧ w ≤ 1)))) = false := decide_eq_false (by omega)
    have cb : onS (decide ((¬ (0 ≤ w ∧ w ≤ 1)))) n s (if w = 1 then (0, lrZ (σ s.toNat)) else (0, reZ (σ s.toNat) (lrZ (σ s.toNat)) - lrZ (σ s.toNat) + 1)) = if 0 ≤ s ∧ s < n then (if w = 1 then (0, lrZ (σ s.toNat)) else (0, reZ (σ s.toNat) (lrZ (σ s.toNat)) - lrZ (σ s.toNat) + 1)) else (2, -1) := if_neg (by rw [cq]; decide)
    rw [cb]
    by_cases c : 0 ≤ s ∧ s < n
    · rw [if_pos c]
      obtain ⟨hS, hR, hW, e1⟩ := HXS_sv (L := L) hx c
      have s0 := hS.1
      have hg := hR.1
      have pb := lrZ_b hW
      have e2 := fun Q => c8_longestRunPlace (L := L) (Q := Q) hS hg
      rw [RS_lr hR hW] at e2
      have e4 := fun Q => c8_runEnd (L := L) (Q := Q) hS hg (p := lrZ (σ s.toNat)) (by omega)
      have e5 : reL (gA G (svA X p s)) (G (svA X p s) 13) (G (svA X p s) 2) 600 (lrZ (σ s.toNat)) = reZ (σ s.toNat) (lrZ (σ s.toNat)) := by unfold reZ; rw [RS_gA hR hW, RS_sz hR hW, hR.2.2.1.2.2.1]
      rw [e5] at e4
      by_cases w1 : w = 1
      · refine ⟨u2 G X 5 0, lkX_st hgt _, ?_, fun Q => ?_⟩
        · rw [u2_s, if_pos w1]
        · rw [if_pos w1]
          have c1 : 0 ≤ (1 : Int) ∧ (1 : Int) ≤ 1 := by omega
          subst w1
          simp (disch := first | assumption | exact c2_int _ | exact c2_ref _ | exact c2_jk | exact c2_null | omega | (apply rN1; assumption) | (apply rN2; assumption) | (apply rN3; assumption) | (apply rN4; assumption) | exact bI_r _ | exact bI_01 _) only [↓fX9_run_0, ↓fX9_run_1, ↓fX9_run_2, ↓fX9_run_3, ↓fX9_run_6, ↓fX9_run_9, ↓fX9_run_10, ↓fX9_run_11, ↓fX9_run_14, ↓fX9_run_15, ↓fX9_run_16, ↓fX9_run_19, ↓fX9_run_20, ↓fX9_run_23, ↓fX9_run_23n, ↓fX9_run_24, ↓fX9_run_24n, ↓fX9_run_25, ↓fX9_run_25r, ↓fX9_run_28, ↓fX9_run_29, ↓fX9_run_30, ↓fX9_run_33, ↓fX9_run_34, ↓fX9_run_34n, ↓fX9_run_35, ↓fX9_run_38, ↓fX9_run_40, ↓fX9_run_41, ↓fX9_run_42, ↓fX9_run_43, ↓fX9_run_46, ↓fX9_run_48, ↓fX9_run_51, ↓fX9_run_51n, ↓fX9_run_52, ↓fX9_run_54, ↓fX9_run_57, ↓fX9_run_59, ↓fX9_run_60, ↓fX9_run_61, ↓fX9_run_62, ↓fX9_run_65, ↓c9_within, bI_0, ↓e1, ↓e2, ↓c9_succeed, c1, and_self, true_and, and_true, false_and, and_false, not_true_eq_false, not_false_eq_true, or_self, true_or, or_true, false_or, or_false, ite_not, Decidable.not_not, decide_eq_true_eq, Bool.not_true, Bool.not_false, Bool.false_eq_true, Bool.not_eq_true, n10, n20, n21, n30, n31, n32, n40, n41, n42, n43, ↓reduceIte]
      · refine ⟨u2 G X 5 0, lkX_st hgt _, ?_, fun Q => ?_⟩
        · rw [u2_s, if_neg w1]
        · rw [if_neg w1]
          simp (disch := first | assumption | exact c2_int _ | exact c2_ref _ | exact c2_jk | exact c2_null | omega | (apply rN1; assumption) | (apply rN2; assumption) | (apply rN3; assumption) | (apply rN4; assumption) | exact bI_r _ | exact bI_01 _) only [↓fX9_run_0, ↓fX9_run_1, ↓fX9_run_2, ↓fX9_run_3, ↓fX9_run_6, ↓fX9_run_9, ↓fX9_run_10, ↓fX9_run_11, ↓fX9_run_14, ↓fX9_run_15, ↓fX9_run_16, ↓fX9_run_19, ↓fX9_run_20, ↓fX9_run_23, ↓fX9_run_23n, ↓fX9_run_24, ↓fX9_run_24n, ↓fX9_run_25, ↓fX9_run_25r, ↓fX9_run_28, ↓fX9_run_29, ↓fX9_run_30, ↓fX9_run_33, ↓fX9_run_34, ↓fX9_run_34n, ↓fX9_run_35, ↓fX9_run_38, ↓fX9_run_40, ↓fX9_run_41, ↓fX9_run_42, ↓fX9_run_43, ↓fX9_run_46, ↓fX9_run_48, ↓fX9_run_51, ↓fX9_run_51n, ↓fX9_run_52, ↓fX9_run_54, ↓fX9_run_57, ↓fX9_run_59, ↓fX9_run_60, ↓fX9_run_61, ↓fX9_run_62, ↓fX9_run_65, ↓c9_within, bI_0, ↓e1, ↓e2, ↓e4, ↓c9_succeed, w1, c1, and_self, true_and, and_true, false_and, and_false, not_true_eq_false, not_false_eq_true, or_self, true_or, or_true, false_or, or_false, ite_not, Decidable.not_not, decide_eq_true_eq, Bool.not_true, Bool.not_false, Bool.false_eq_true, Bool.not_eq_true, n10, n20, n21, n30, n31, n32, n40, n41, n42, n43, ↓reduceIte]
    · rw [if_neg c]
      have e1 := HXS_none (L := L) hx hs c
      exact ⟨u2 G X 5 2, lkX_st hgt 2, u2_s _ _ _ _, fun Q => by simp (disch := first | assumption | exact c2_int _ | exact c2_ref _ | exact c2_jk | exact c2_null | omega | (apply rN1; assumption) | (apply rN2; assumption) | (apply rN3; assumption) | (apply rN4; assumption) | exact bI_r _ | exact bI_01 _) only [↓fX9_run_0, ↓fX9_run_1, ↓fX9_run_2, ↓fX9_run_3, ↓fX9_run_6, ↓fX9_run_9, ↓fX9_run_10, ↓fX9_run_11, ↓fX9_run_14, ↓fX9_run_15, ↓fX9_run_16, ↓fX9_run_19, ↓fX9_run_20, ↓fX9_run_23, ↓fX9_run_23n, ↓fX9_run_24, ↓fX9_run_24n, ↓fX9_run_25, ↓fX9_run_25r, ↓fX9_run_28, ↓fX9_run_29, ↓fX9_run_30, ↓fX9_run_33, ↓fX9_run_34, ↓fX9_run_34n, ↓fX9_run_35, ↓fX9_run_38, ↓fX9_run_40, ↓fX9_run_41, ↓fX9_run_42, ↓fX9_run_43, ↓fX9_run_46, ↓fX9_run_48, ↓fX9_run_51, ↓fX9_run_51n, ↓fX9_run_52, ↓fX9_run_54, ↓fX9_run_57, ↓fX9_run_59, ↓fX9_run_60, ↓fX9_run_61, ↓fX9_run_62, ↓fX9_run_65, ↓c9_within, bI_0, ↓e1, ↓c9_fail, c1, and_self, true_and, and_true, false_and, and_false, not_true_eq_false, not_false_eq_true, or_self, true_or, or_true, false_or, or_false, ite_not, Decidable.not_not, decide_eq_true_eq, Bool.not_true, Bool.not_false, Bool.false_eq_true, Bool.not_eq_true, n10, n20, n21, n30, n31, n32, n40, n41, n42, n43, ↓reduceIte]⟩
theorem x_progression (hx : HXS E r G X p q n σ a kk nn τ) (hs : I32 s) (hd : I32 d) (hw : I32 w) : ∃ G', lkX G G' X ∧ G' X 5 = (onS (decide ((d < 1) ∨ (¬ (0 ≤ w ∧ w ≤ 1)))) n s (if w = 1 then (0, lpZ (σ s.toNat) d) else (0, plZ (σ s.toNat) (lpZ (σ s.toNat) d) d))).1 ∧ ∀ Q, RK MX9_progression 0 [.ref X, .int (zi s), .int (zi d), .int (zi w), jk, jk] [] (0, 0) (E, zg G, zk L, r) Q = Q (E, zg G', zk L, r) (.int (zi (onS (decide ((d < 1) ∨ (¬ (0 ≤ w ∧ w ≤ 1)))) n s (if w = 1 then (0, lpZ (σ s.toNat) d) else (0, plZ (σ s.toNat) (lpZ (σ s.toNat) d) d))).2)) := by
  obtain ⟨x0, ⟨x1, x2, x3, x4, x5⟩, xD, xP, xS, xT⟩ := id hx.1
  have h0 := hx.2.1.1.1
  have hgt := hx.2.2
  by_cases c1 : d < 1
  · have cb : onS (decide ((d < 1) ∨ (¬ (0 ≤ w ∧ w ≤ 1)))) n s (if w = 1 then (0, lpZ (σ s.toNat) d) else (0, plZ (σ s.toNat) (lpZ (σ s.toNat) d) d)) = (1, -1) := if_pos (decide_eq_true (by omega))
    rw [cb]
    exact ⟨u2 G X 5 1, lkX_st hgt 1, u2_s _ _ _ _, fun Q => by simp (disch := first | assumption | exact c2_int _ | exact c2_ref _ | exact c2_jk | exact c2_null | omega | (apply rN1; assumption) | (apply rN2; assumption) | (apply rN3; assumption) | (apply rN4; assumption) | exact bI_r _ | exact bI_01 _) only [↓fX9_progression_0, ↓fX9_progression_1, ↓fX9_progression_2, ↓fX9_progression_5, ↓fX9_progression_6, ↓fX9_progression_7, ↓fX9_progression_8, ↓fX9_progression_11, ↓fX9_progression_14, ↓fX9_progression_15, ↓fX9_progression_16, ↓fX9_progression_19, ↓fX9_progression_20, ↓fX9_progression_21, ↓fX9_progression_24, ↓fX9_progression_25, ↓fX9_progression_28, ↓fX9_progression_28n, ↓fX9_progression_30, ↓fX9_progression_30n, ↓fX9_progression_32, ↓fX9_progression_32r, ↓fX9_progression_35, ↓fX9_progression_36, ↓fX9_progression_37, ↓fX9_progression_40, ↓fX9_progression_41, ↓fX9_progression_41n, ↓fX9_progression_43, ↓fX9_progression_44, ↓fX9_progression_47, ↓fX9_progression_49, ↓fX9_progression_50, ↓fX9_progression_51, ↓fX9_progression_52, ↓fX9_progression_55, ↓fX9_progression_57, ↓fX9_progression_60, ↓fX9_progression_60n, ↓fX9_progression_62, ↓fX9_progression_64, ↓fX9_progression_65, ↓fX9_progression_68, ↓fX9_progression_71, ↓c9_within, bI_0, ↓c9_fail, c1, and_self, true_and, and_true, false_and, and_false, not_true_eq_false, not_false_eq_true, or_self, true_or, or_true, false_or, or_false, ite_not, Decidable.not_not, decide_eq_true_eq, Bool.not_true, Bool.not_false, Bool.false_eq_true, Bool.not_eq_true, n10, n20, n21, n30, n31, n32, n40, n41, n42, n43, ↓reduceIte]⟩
  · by_cases c2 : ¬ (0 ≤ w ∧ w ≤ 1)
    · have cb : onS (decide ((d < 1) ∨ (¬ (0 ≤ w ∧ w ≤ 1)))) n s (if w = 1 then (0, lpZ (σ s.toNat) d) else (0, plZ (σ s.toNat) (lpZ (σ s.toNat) d) d)) = (1, -1) := if_pos (decide_eq_true (by omega))
      rw [cb]
      exact ⟨u2 G X 5 1, lkX_st hgt 1, u2_s _ _ _ _, fun Q => by simp (disch := first | assumption | exact c2_int _ | exact c2_ref _ | exact c2_jk | exact c2_null | omega | (apply rN1; assumption) | (apply rN2; assumption) | (apply rN3; assumption) | (apply rN4; assumption) | exact bI_r _ | exact bI_01 _) only [↓fX9_progression_0, ↓fX9_progression_1, ↓fX9_progression_2, ↓fX9_progression_5, ↓fX9_progression_6, ↓fX9_progression_7, ↓fX9_progression_8, ↓fX9_progression_11, ↓fX9_progression_14, ↓fX9_progression_15, ↓fX9_progression_16, ↓fX9_progression_19, ↓fX9_progression_20, ↓fX9_progression_21, ↓fX9_progression_24, ↓fX9_progression_25, ↓fX9_progression_28, ↓fX9_progression_28n, ↓fX9_progression_30, ↓fX9_progression_30n, ↓fX9_progression_32, ↓fX9_progression_32r, ↓fX9_progression_35, ↓fX9_progression_36, ↓fX9_progression_37, ↓fX9_progression_40, ↓fX9_progression_41, ↓fX9_progression_41n, ↓fX9_progression_43, ↓fX9_progression_44, ↓fX9_progression_47, ↓fX9_progression_49, ↓fX9_progression_50, ↓fX9_progression_51, ↓fX9_progression_52, ↓fX9_progression_55, ↓fX9_progression_57, ↓fX9_progression_60, ↓fX9_progression_60n, ↓fX9_progression_62, ↓fX9_progression_64, ↓fX9_progression_65, ↓fX9_progression_68, ↓fX9_progression_71, ↓c9_within, bI_0, ↓c9_fail, c1, c2, and_self, true_and, and_true, false_and, and_false, not_true_eq_false, not_false_eq_true, or_self, true_or, or_true, false_or, or_false, ite_not, Decidable.not_not, decide_eq_true_eq, Bool.not_true, Bool.not_false, Bool.false_eq_true, Bool.not_eq_true, n10, n20, n21, n30, n31, n32, n40, n41, n42, n43, ↓reduceIte]⟩
    · have c2 := Decidable.not_not.mp c2
      have cq : (decide ((d < 1) ∨ (¬ (0 ≤ w ∧ w ≤ 1)))) = false := decide_eq_false (by omega)
      have cb : onS (decide ((d < 1) ∨ (¬ (0 ≤ w ∧ w ≤ 1)))) n s (if w = 1 then (0, lpZ (σ s.toNat) d) else (0, plZ (σ s.toNat) (lpZ (σ s.toNat) d) d)) = if 0 ≤ s ∧ s < n then (if w = 1 then (0, lpZ (σ s.toNat) d) else (0, plZ (σ s.toNat) (lpZ (σ s.toNat) d) d)) else (2, -1) := if_neg (by rw [cq]; decide)
      rw [cb]
      by_cases c : 0 ≤ s ∧ s < n
      · rw [if_pos c]
        obtain ⟨hS, hR, hW, e1⟩ := HXS_sv (L := L) hx c
        have s0 := hS.1
        have hg := hR.1
        have pb := lpZ_b hW d
        have e2 := fun Q => c0_longestProgressionStart (L := L) (Q := Q) hS hg hd
        rw [RS_lp hR hW] at e2
        have e4 := fun Q => c0_progressionLength (L := L) (Q := Q) hS hg hd (x := lpZ (σ s.toNat) d) ⟨by omega, by omega⟩
        rw [RS_pl hR hW] at e4
        by_cases w1 : w = 1
        · refine ⟨u2 G X 5 0, lkX_st hgt _, ?_, fun Q => ?_⟩
          · rw [u2_s, if_pos w1]
          · rw [if_pos w1]
            have c2 : 0 ≤ (1 : Int) ∧ (1 : Int) ≤ 1 := by omega
            subst w1
            simp (disch := first | assumption | exact c2_int _ | exact c2_ref _ | exact c2_jk | exact c2_null | omega | (apply rN1; assumption) | (apply rN2; assumption) | (apply rN3; assumption) | (apply rN4; assumption) | exact bI_r _ | exact bI_01 _) only [↓fX9_progression_0, ↓fX9_progression_1, ↓fX9_progression_2, ↓fX9_progression_5, ↓fX9_progression_6, ↓fX9_progression_7, ↓fX9_progression_8, ↓fX9_progression_11, ↓fX9_progression_14, ↓fX9_progression_15, ↓fX9_progression_16, ↓fX9_progression_19, ↓fX9_progression_20, ↓fX9_progression_21, ↓fX9_progression_24, ↓fX9_progression_25, ↓fX9_progression_28, ↓fX9_progression_28n, ↓fX9_progression_30, ↓fX9_progression_30n, ↓fX9_progression_32, ↓fX9_progression_32r, ↓fX9_progression_35, ↓fX9_progression_36, ↓fX9_progression_37, ↓fX9_progression_40, ↓fX9_progression_41, ↓fX9_progression_41n, ↓fX9_progression_43, ↓fX9_progression_44, ↓fX9_progression_47, ↓fX9_progression_49, ↓fX9_progression_50, ↓fX9_progression_51, ↓fX9_progression_52, ↓fX9_progression_55, ↓fX9_progression_57, ↓fX9_progression_60, ↓fX9_progression_60n, ↓fX9_progression_62, ↓fX9_progression_64, ↓fX9_progression_65, ↓fX9_progression_68, ↓fX9_progression_71, ↓c9_within, bI_0, ↓e1, ↓e2, ↓c9_succeed, c1, c2, and_self, true_and, and_true, false_and, and_false, not_true_eq_false, not_false_eq_true, or_self, true_or, or_true, false_or, or_false, ite_not, Decidable.not_not, decide_eq_true_eq, Bool.not_true, Bool.not_false, Bool.false_eq_true, Bool.not_eq_true, n10, n20, n21, n30, n31, n32, n40, n41, n42, n43, ↓reduceIte]
        · refine ⟨u2 G X 5 0, lkX_st hgt _, ?_, fun Q => ?_⟩
          · rw [u2_s, if_neg w1]
          · rw [if_neg w1]
            simp (disch := first | assumption | exact c2_int _ | exact c2_ref _ | exact c2_jk | exact c2_null | omega | (apply rN1; assumption) | (apply rN2; assumption) | (apply rN3; assumption) | (apply rN4; assumption) | exact bI_r _ | exact bI_01 _) only [↓fX9_progression_0, ↓fX9_progression_1, ↓fX9_progression_2, ↓fX9_progression_5, ↓fX9_progression_6, ↓fX9_progression_7, ↓fX9_progression_8, ↓fX9_progression_11, ↓fX9_progression_14, ↓fX9_progression_15, ↓fX9_progression_16, ↓fX9_progression_19, ↓fX9_progression_20, ↓fX9_progression_21, ↓fX9_progression_24, ↓fX9_progression_25, ↓fX9_progression_28, ↓fX9_progression_28n, ↓fX9_progression_30, ↓fX9_progression_30n, ↓fX9_progression_32, ↓fX9_progression_32r, ↓fX9_progression_35, ↓fX9_progression_36, ↓fX9_progression_37, ↓fX9_progression_40, ↓fX9_progression_41, ↓fX9_progression_41n, ↓fX9_progression_43, ↓fX9_progression_44, ↓fX9_progression_47, ↓fX9_progression_49, ↓fX9_progression_50, ↓fX9_progression_51, ↓fX9_progression_52, ↓fX9_progression_55, ↓fX9_progression_57, ↓fX9_progression_60, ↓fX9_progression_60n, ↓fX9_progression_62, ↓fX9_progression_64, ↓fX9_progression_65, ↓fX9_progression_68, ↓fX9_progression_71, ↓c9_within, bI_0, ↓e1, ↓e2, ↓e4, ↓c9_succeed, w1, c1, c2, and_self, true_and, and_true, false_and, and_false, not_true_eq_false, not_false_eq_true, or_self, true_or, or_true, false_or, or_false, ite_not, Decidable.not_not, decide_eq_true_eq, Bool.not_true, Bool.not_false, Bool.false_eq_true, Bool.not_eq_true, n10, n20, n21, n30, n31, n32, n40, n41, n42, n43, ↓reduceIte]
      · rw [if_neg c]
        have e1 := HXS_none (L := L) hx hs c
        exact ⟨u2 G X 5 2, lkX_st hgt 2, u2_s _ _ _ _, fun Q => by simp (disch := first | assumption | exact c2_int _ | exact c2_ref _ | exact c2_jk | exact c2_null | omega | (apply rN1; assumption) | (apply rN2; assumption) | (apply rN3; assumption) | (apply rN4; assumption) | exact bI_r _ | exact bI_01 _) only [↓fX9_progression_0, ↓fX9_progression_1, ↓fX9_progression_2, ↓fX9_progression_5, ↓fX9_progression_6, ↓fX9_progression_7, ↓fX9_progression_8, ↓fX9_progression_11, ↓fX9_progression_14, ↓fX9_progression_15, ↓fX9_progression_16, ↓fX9_progression_19, ↓fX9_progression_20, ↓fX9_progression_21, ↓fX9_progression_24, ↓fX9_progression_25, ↓fX9_progression_28, ↓fX9_progression_28n, ↓fX9_progression_30, ↓fX9_progression_30n, ↓fX9_progression_32, ↓fX9_progression_32r, ↓fX9_progression_35, ↓fX9_progression_36, ↓fX9_progression_37, ↓fX9_progression_40, ↓fX9_progression_41, ↓fX9_progression_41n, ↓fX9_progression_43, ↓fX9_progression_44, ↓fX9_progression_47, ↓fX9_progression_49, ↓fX9_progression_50, ↓fX9_progression_51, ↓fX9_progression_52, ↓fX9_progression_55, ↓fX9_progression_57, ↓fX9_progression_60, ↓fX9_progression_60n, ↓fX9_progression_62, ↓fX9_progression_64, ↓fX9_progression_65, ↓fX9_progression_68, ↓fX9_progression_71, ↓c9_within, bI_0, ↓e1, ↓c9_fail, c1, c2, and_self, true_and, and_true, false_and, and_false, not_true_eq_false, not_false_eq_true, or_self, true_or, or_true, false_or, or_false, ite_not, Decidable.not_not, decide_eq_true_eq, Bool.not_true, Bool.not_false, Bool.false_eq_true, Bool.not_eq_true, n10, n20, n21, n30, n31, n32, n40, n41, n42, n43, ↓reduceIte]⟩
theorem x_rests (hx : HXS E r G X p q n σ a kk nn τ) (hs : I32 s) (hy : I32 y) (hk : I32 k) : ∃ G', lkX G G' X ∧ G' X 5 = (onS (decide ((¬ (1 ≤ y ∧ y ≤ 999)) ∨ (¬ (-1 ≤ k ∧ k ≤ y - 1)))) n s ((0, raZ (σ s.toNat) y k))).1 ∧ ∀ Q, RK MX9_rests 0 [.ref X, .int (zi s), .int (zi y), .int (zi k), jk] [] (0, 0) (E, zg G, zk L, r) Q = Q (E, zg G', zk L, r) (.int (zi (onS (decide ((¬ (1 ≤ y ∧ y ≤ 999)) ∨ (¬ (-1 ≤ k ∧ k ≤ y - 1)))) n s ((0, raZ (σ s.toNat) y k))).2)) := by
  obtain ⟨x0, ⟨x1, x2, x3, x4, x5⟩, xD, xP, xS, xT⟩ := id hx.1
  have h0 := hx.2.1.1.1
  have hgt := hx.2.2
  by_cases c1 : ¬ (1 ≤ y ∧ y ≤ 999)
  · have cb : onS (decide ((¬ (1 ≤ y ∧ y ≤ 999)) ∨ (¬ (-1 ≤ k ∧ k ≤ y - 1)))) n s ((0, raZ (σ s.toNat) y k)) = (1, -1) := if_pos (decide_eq_true (by omega))
    rw [cb]
    exact ⟨u2 G X 5 1, lkX_st hgt 1, u2_s _ _ _ _, fun Q => by simp (disch := first | assumption | exact c2_int _ | exact c2_ref _ | exact c2_jk | exact c2_null | omega | (apply rN1; assumption) | (apply rN2; assumption) | (apply rN3; assumption) | (apply rN4; assumption) | exact bI_r _ | exact bI_01 _) only [↓fX9_rests_0, ↓fX9_rests_1, ↓fX9_rests_2, ↓fX9_rests_5, ↓fX9_rests_8, ↓fX9_rests_11, ↓fX9_rests_12, ↓fX9_rests_13, ↓fX9_rests_14, ↓fX9_rests_15, ↓fX9_rests_16, ↓fX9_rests_19, ↓fX9_rests_22, ↓fX9_rests_23, ↓fX9_rests_24, ↓fX9_rests_27, ↓fX9_rests_28, ↓fX9_rests_29, ↓fX9_rests_32, ↓fX9_rests_33, ↓fX9_rests_36, ↓fX9_rests_36n, ↓fX9_rests_38, ↓fX9_rests_38n, ↓fX9_rests_40, ↓fX9_rests_40r, ↓fX9_rests_43, ↓fX9_rests_44, ↓fX9_rests_45, ↓fX9_rests_48, ↓fX9_rests_49, ↓fX9_rests_50, ↓fX9_rests_50n, ↓fX9_rests_52, ↓fX9_rests_53, ↓fX9_rests_54, ↓fX9_rests_55, ↓fX9_rests_58, ↓fX9_rests_61, ↓fX9_rests_64, ↓c9_within, bI_0, ↓c9_fail, c1, and_self, true_and, and_true, false_and, and_false, not_true_eq_false, not_false_eq_true, or_self, true_or, or_true, false_or, or_false, ite_not, Decidable.not_not, decide_eq_true_eq, Bool.not_true, Bool.not_false, Bool.false_eq_true, Bool.not_eq_true, n10, n20, n21, n30, n31, n32, n40, n41, n42, n43, ↓reduceIte]⟩
  · have c1 := Decidable.not_not.mp c1
    by_cases c2 : ¬ (-1 ≤ k ∧ k ≤ y - 1)
    · have cb : onS (decide ((¬ (1 ≤ y ∧ y ≤ 999)) ∨ (¬ (-1 ≤ k ∧ k ≤ y - 1)))) n s ((0, raZ (σ s.toNat) y k)) = (1, -1) := if_pos (decide_eq_true (by omega))
      rw [cb]
      exact ⟨u2 G X 5 1, lkX_st hgt 1, u2_s _ _ _ _, fun Q => by simp (disch := first | assumption | exact c2_int _ | exact c2_ref _ | exact c2_jk | exact c2_null | omega | (apply rN1; assumption) | (apply rN2; assumption) | (apply rN3; assumption) | (apply rN4; assumption) | exact bI_r _ | exact bI_01 _) only [↓fX9_rests_0, ↓fX9_rests_1, ↓fX9_rests_2, ↓fX9_rests_5, ↓fX9_rests_8, ↓fX9_rests_11, ↓fX9_rests_12, ↓fX9_rests_13, ↓fX9_rests_14, ↓fX9_rests_15, ↓fX9_rests_16, ↓fX9_rests_19, ↓fX9_rests_22, ↓fX9_rests_23, ↓fX9_rests_24, ↓fX9_rests_27, ↓fX9_rests_28, ↓fX9_rests_29, ↓fX9_rests_32, ↓fX9_rests_33, ↓fX9_rests_36, ↓fX9_rests_36n, ↓fX9_rests_38, ↓fX9_rests_38n, ↓fX9_rests_40, ↓fX9_rests_40r, ↓fX9_rests_43, ↓fX9_rests_44, ↓fX9_rests_45, ↓fX9_rests_48, ↓fX9_rests_49, ↓fX9_rests_50, ↓fX9_rests_50n, ↓fX9_rests_52, ↓fX9_rests_53, ↓fX9_rests_54, ↓fX9_rests_55, ↓fX9_rests_58, ↓fX9_rests_61, ↓fX9_rests_64, ↓c9_within, bI_0, ↓c9_fail, c1, c2, and_self, true_and, and_true, false_and, and_false, not_true_eq_false, not_false_eq_true, or_self, true_or, or_true, false_or, or_false, ite_not, Decidable.not_not, decide_eq_true_eq, Bool.not_true, Bool.not_false, Bool.false_eq_true, Bool.not_eq_true, n10, n20, n21, n30, n31, n32, n40, n41, n42, n43, ↓reduceIte]⟩
    · have c2 := Decidable.not_not.mp c2
      have cq : (decide ((¬ (1 ≤ y ∧ y ≤ 999)) ∨ (¬ (-1 ≤ k ∧ k ≤ y - 1)))) = false := decide_eq_false (by omega)
      have cb : onS (decide ((¬ (1 ≤ y ∧ y ≤ 999)) ∨ (¬ (-1 ≤ k ∧ k ≤ y - 1)))) n s ((0, raZ (σ s.toNat) y k)) = if 0 ≤ s ∧ s < n then ((0, raZ (σ s.toNat) y k)) else (2, -1) := if_neg (by rw [cq]; decide)
      rw [cb]
      by_cases c : 0 ≤ s ∧ s < n
      · rw [if_pos c]
        obtain ⟨hS, hR, hW, e1⟩ := HXS_sv (L := L) hx c
        have s0 := hS.1
        have hg := hR.1
        have e2 := fun Q => c0_restsBy (L := L) (Q := Q) hS hg xT (by unfold ofS svA; have := (hx.2.1.2.1.1 s.toNat (by have := hx.2.1.2.2.2.1.2; omega)).2; omega) c1 (c := k) (by omega)
        rw [RS_ra hR hW] at e2
        refine ⟨u2 (tyF G (X + 129) (rsF G (svA X p s) y) (G (svA X p s) 13).toNat) X 5 0, lkX_sc (fun q hq => tyF_q hq) hgt _, u2_s _ _ _ _, fun Q => ?_⟩
        simp (disch := first | assumption | exact c2_int _ | exact c2_ref _ | exact c2_jk | exact c2_null | omega | (apply rN1; assumption) | (apply rN2; assumption) | (apply rN3; assumption) | (apply rN4; assumption) | exact bI_r _ | exact bI_01 _) only [↓fX9_rests_0, ↓fX9_rests_1, ↓fX9_rests_2, ↓fX9_rests_5, ↓fX9_rests_8, ↓fX9_rests_11, ↓fX9_rests_12, ↓fX9_rests_13, ↓fX9_rests_14, ↓fX9_rests_15, ↓fX9_rests_16, ↓fX9_rests_19, ↓fX9_rests_22, ↓fX9_rests_23, ↓fX9_rests_24, ↓fX9_rests_27, ↓fX9_rests_28, ↓fX9_rests_29, ↓fX9_rests_32, ↓fX9_rests_33, ↓fX9_rests_36, ↓fX9_rests_36n, ↓fX9_rests_38, ↓fX9_rests_38n, ↓fX9_rests_40, ↓fX9_rests_40r, ↓fX9_rests_43, ↓fX9_rests_44, ↓fX9_rests_45, ↓fX9_rests_48, ↓fX9_rests_49, ↓fX9_rests_50, ↓fX9_rests_50n, ↓fX9_rests_52, ↓fX9_rests_53, ↓fX9_rests_54, ↓fX9_rests_55, ↓fX9_rests_58, ↓fX9_rests_61, ↓fX9_rests_64, ↓c9_within, bI_0, ↓e1, ↓e2, ↓c9_succeed, c1, c2, and_self, true_and, and_true, false_and, and_false, not_true_eq_false, not_false_eq_true, or_self, true_or, or_true, false_or, or_false, ite_not, Decidable.not_not, decide_eq_true_eq, Bool.not_true, Bool.not_false, Bool.false_eq_true, Bool.not_eq_true, n10, n20, n21, n30, n31, n32, n40, n41, n42, n43, ↓reduceIte]
      · rw [if_neg c]
        have e1 := HXS_none (L := L) hx hs c
        exact ⟨u2 G X 5 2, lkX_st hgt 2, u2_s _ _ _ _, fun Q => by simp (disch := first | assumption | exact c2_int _ | exact c2_ref _ | exact c2_jk | exact c2_null | omega | (apply rN1; assumption) | (apply rN2; assumption) | (apply rN3; assumption) | (apply rN4; assumption) | exact bI_r _ | exact bI_01 _) only [↓fX9_rests_0, ↓fX9_rests_1, ↓fX9_rests_2, ↓fX9_rests_5, ↓fX9_rests_8, ↓fX9_rests_11, ↓fX9_rests_12, ↓fX9_rests_13, ↓fX9_rests_14, ↓fX9_rests_15, ↓fX9_rests_16, ↓fX9_rests_19, ↓fX9_rests_22, ↓fX9_rests_23, ↓fX9_rests_24, ↓fX9_rests_27, ↓fX9_rests_28, ↓fX9_rests_29, ↓fX9_rests_32, ↓fX9_rests_33, ↓fX9_rests_36, ↓fX9_rests_36n, ↓fX9_rests_38, ↓fX9_rests_38n, ↓fX9_rests_40, ↓fX9_rests_40r, ↓fX9_rests_43, ↓fX9_rests_44, ↓fX9_rests_45, ↓fX9_rests_48, ↓fX9_rests_49, ↓fX9_rests_50, ↓fX9_rests_50n, ↓fX9_rests_52, ↓fX9_rests_53, ↓fX9_rests_54, ↓fX9_rests_55, ↓fX9_rests_58, ↓fX9_rests_61, ↓fX9_rests_64, ↓c9_within, bI_0, ↓e1, ↓c9_fail, c1, c2, and_self, true_and, and_true, false_and, and_false, not_true_eq_false, not_false_eq_true, or_self, true_or, or_true, false_or, or_false, ite_not, Decidable.not_not, decide_eq_true_eq, Bool.not_true, Bool.not_false, Bool.false_eq_true, Bool.not_eq_true, n10, n20, n21, n30, n31, n32, n40, n41, n42, n43, ↓reduceIte]⟩
theorem x_ring (hx : HXS E r G X p q n σ a kk nn τ) (hs : I32 s) (hd : I32 d) (hk : I32 k) : ∃ G', lkX G G' X ∧ G' X 5 = (onS (decide ((d < 1) ∨ (k < -1))) n s (ans (rgZ (σ s.toNat) d (if k = -1 then szS (σ s.toNat) - 1 else k)))).1 ∧ ∀ Q, RK MX9_ring 0 [.ref X, .int (zi s), .int (zi d), .int (zi k), jk, jk] [] (0, 0) (E, zg G, zk L, r) Q = Q (E, zg G', zk L, r) (.int (zi (onS (decide ((d < 1) ∨ (k < -1))) n s (ans (rgZ (σ s.toNat) d (if k = -1 then szS (σ s.toNat) - 1 else k)))).2)) := by
  obtain ⟨x0, ⟨x1, x2, x3, x4, x5⟩, xD, xP, xS, xT⟩ := id hx.1
  have h0 := hx.2.1.1.1
  have hgt := hx.2.2
  by_cases c1 : d < 1
  · have cb : onS (decide ((d < 1) ∨ (k < -1))) n s (ans (rgZ (σ s.toNat) d (if k = -1 then szS (σ s.toNat) - 1 else k))) = (1, -1) := if_pos (decide_eq_true (by omega))
    rw [cb]
    exact ⟨u2 G X 5 1, lkX_st hgt 1, u2_s _ _ _ _, fun Q => by simp (disch := first | assumption | exact c2_int _ | exact c2_ref _ | exact c2_jk | exact c2_null | omega | (apply rN1; assumption) | (apply rN2; assumption) | (apply rN3; assumption) | (apply rN4; assumption) | exact bI_r _ | exact bI_01 _) only [↓fX9_ring_0, ↓fX9_ring_1, ↓fX9_ring_2, ↓fX9_ring_5, ↓fX9_ring_6, ↓fX9_ring_7, ↓fX9_ring_10, ↓fX9_ring_11, ↓fX9_ring_12, ↓fX9_ring_15, ↓fX9_ring_16, ↓fX9_ring_17, ↓fX9_ring_20, ↓fX9_ring_21, ↓fX9_ring_24, ↓fX9_ring_24n, ↓fX9_ring_26, ↓fX9_ring_26n, ↓fX9_ring_28, ↓fX9_ring_28r, ↓fX9_ring_31, ↓fX9_ring_32, ↓fX9_ring_33, ↓fX9_ring_36, ↓fX9_ring_37, ↓fX9_ring_38, ↓fX9_ring_39, ↓fX9_ring_42, ↓fX9_ring_42n, ↓fX9_ring_44, ↓fX9_ring_47, ↓fX9_ring_48, ↓fX9_ring_49, ↓fX9_ring_52, ↓fX9_ring_53, ↓fX9_ring_55, ↓fX9_ring_56, ↓fX9_ring_56n, ↓fX9_ring_58, ↓fX9_ring_59, ↓fX9_ring_61, ↓fX9_ring_64, ↓fX9_ring_67, ↓c9_within, bI_0, ↓c9_fail, c1, and_self, true_and, and_true, false_and, and_false, not_true_eq_false, not_false_eq_true, or_self, true_or, or_true, false_or, or_false, ite_not, Decidable.not_not, decide_eq_true_eq, Bool.not_true, Bool.not_false, Bool.false_eq_true, Bool.not_eq_true, n10, n20, n21, n30, n31, n32, n40, n41, n42, n43, ↓reduceIte]⟩
  · by_cases c2 : k < -1
    · have cb : onS (decide ((d < 1) ∨ (k < -1))) n s (ans (rgZ (σ s.toNat) d (if k = -1 then szS (σ s.toNat) - 1 else k))) = (1, -1) := if_pos (decide_eq_true (by omega))
      rw [cb]
      exact ⟨u2 G X 5 1, lkX_st hgt 1, u2_s _ _ _ _, fun Q => by simp (disch := first | assumption | exact c2_int _ | exact c2_ref _ | exact c2_jk | exact c2_null | omega | (apply rN1; assumption) | (apply rN2; assumption) | (apply rN3; assumption) | (apply rN4; assumption) | exact bI_r _ | exact bI_01 _) only [↓fX9_ring_0, ↓fX9_ring_1, ↓fX9_ring_2, ↓fX9_ring_5, ↓fX9_ring_6, ↓fX9_ring_7, ↓fX9_ring_10, ↓fX9_ring_11, ↓fX9_ring_12, ↓fX9_ring_15, ↓fX9_ring_16, ↓fX9_ring_17, ↓fX9_ring_20, ↓fX9_ring_21, ↓fX9_ring_24, ↓fX9_ring_24n, ↓fX9_ring_26, ↓fX9_ring_26n, ↓fX9_ring_28, ↓fX9_ring_28r, ↓fX9_ring_31, ↓fX9_ring_32, ↓fX9_ring_33, ↓fX9_ring_36, ↓fX9_ring_37, ↓fX9_ring_38, ↓fX9_ring_39, ↓fX9_ring_42, ↓fX9_ring_42n, ↓fX9_ring_44, ↓fX9_ring_47, ↓fX9_ring_48, ↓fX9_ring_49, ↓fX9_ring_52, ↓fX9_ring_53, ↓fX9_ring_55, ↓fX9_ring_56, ↓fX9_ring_56n, ↓fX9_ring_58, ↓fX9_ring_59, ↓fX9_ring_61, ↓fX9_ring_64, ↓fX9_ring_67, ↓c9_within, bI_0, ↓c9_fail, c1, c2, and_self, true_and, and_true, false_and, and_false, not_true_eq_false, not_false_eq_true, or_self, true_or, or_true, false_or, or_false, ite_not, Decidable.not_not, decide_eq_true_eq, Bool.not_true, Bool.not_false, Bool.false_eq_true, Bool.not_eq_true, n10, n20, n21, n30, n31, n32, n40, n41, n42, n43, ↓reduceIte]⟩
    · have cq : (decide ((d < 1) ∨ (k < -1))) = false := decide_eq_false (by omega)
      have cb : onS (decide ((d < 1) ∨ (k < -1))) n s (ans (rgZ (σ s.toNat) d (if k = -1 then szS (σ s.toNat) - 1 else k))) = if 0 ≤ s ∧ s < n then (ans (rgZ (σ s.toNat) d (if k = -1 then szS (σ s.toNat) - 1 else k))) else (2, -1) := if_neg (by rw [cq]; decide)
      rw [cb]
      by_cases c : 0 ≤ s ∧ s < n
      · rw [if_pos c]
        obtain ⟨hS, hR, hW, e1⟩ := HXS_sv (L := L) hx c
        have s0 := hS.1
        have hg := hR.1
        have g13 := RS_sz hR hW
        have hz := szS_b hW
        by_cases z : k = -1
        · have e2 := fun Q => c8_struckFromRing (L := L) (Q := Q) (turn := szS (σ s.toNat) - 1) hS hg (g := d) (by omega) (by omega)
          rw [RS_rg hR hW] at e2
          have e3 : I32 (rgZ (σ s.toNat) d (szS (σ s.toNat) - 1)) := by have := rgZ_b (g := d) (t := szS (σ s.toNat) - 1) hW; exact ⟨by omega, by omega⟩
          have ez : (if k = -1 then szS (σ s.toNat) - 1 else k) = szS (σ s.toNat) - 1 := if_pos z
          rw [ez]
          subst z
          refine ⟨u2 G X 5 (ans (rgZ (σ s.toNat) d (szS (σ s.toNat) - 1))).1, lkX_st hgt _, u2_s _ _ _ _, fun Q => ?_⟩
          simp (disch := first | assumption | exact c2_int _ | exact c2_ref _ | exact c2_jk | exact c2_null | omega | (apply rN1; assumption) | (apply rN2; assumption) | (apply rN3; assumption) | (apply rN4; assumption) | exact bI_r _ | exact bI_01 _) only [↓fX9_ring_0, ↓fX9_ring_1, ↓fX9_ring_2, ↓fX9_ring_5, ↓fX9_ring_6, ↓fX9_ring_7, ↓fX9_ring_10, ↓fX9_ring_11, ↓fX9_ring_12, ↓fX9_ring_15, ↓fX9_ring_16, ↓fX9_ring_17, ↓fX9_ring_20, ↓fX9_ring_21, ↓fX9_ring_24, ↓fX9_ring_24n, ↓fX9_ring_26, ↓fX9_ring_26n, ↓fX9_ring_28, ↓fX9_ring_28r, ↓fX9_ring_31, ↓fX9_ring_32, ↓fX9_ring_33, ↓fX9_ring_36, ↓fX9_ring_37, ↓fX9_ring_38, ↓fX9_ring_39, ↓fX9_ring_42, ↓fX9_ring_42n, ↓fX9_ring_44, ↓fX9_ring_47, ↓fX9_ring_48, ↓fX9_ring_49, ↓fX9_ring_52, ↓fX9_ring_53, ↓fX9_ring_55, ↓fX9_ring_56, ↓fX9_ring_56n, ↓fX9_ring_58, ↓fX9_ring_59, ↓fX9_ring_61, ↓fX9_ring_64, ↓fX9_ring_67, ↓c9_within, bI_0, ↓e1, ↓e2, ↓c9_answer, g13, c1, c2, and_self, true_and, and_true, false_and, and_false, not_true_eq_false, not_false_eq_true, or_self, true_or, or_true, false_or, or_false, ite_not, Decidable.not_not, decide_eq_true_eq, Bool.not_true, Bool.not_false, Bool.false_eq_true, Bool.not_eq_true, n10, n20, n21, n30, n31, n32, n40, n41, n42, n43, ↓reduceIte]
          rfl
        · have e2 := fun Q => c8_struckFromRing (L := L) (Q := Q) (turn := k) hS hg (g := d) (by omega) (by omega)
          rw [RS_rg hR hW] at e2
          have e3 : I32 (rgZ (σ s.toNat) d k) := by have := rgZ_b (g := d) (t := k) hW; exact ⟨by omega, by omega⟩
          have ez : (if k = -1 then szS (σ s.toNat) - 1 else k) = k := if_neg z
          rw [ez]
          refine ⟨u2 G X 5 (ans (rgZ (σ s.toNat) d k)).1, lkX_st hgt _, u2_s _ _ _ _, fun Q => ?_⟩
          simp (disch := first | assumption | exact c2_int _ | exact c2_ref _ | exact c2_jk | exact c2_null | omega | (apply rN1; assumption) | (apply rN2; assumption) | (apply rN3; assumption) | (apply rN4; assumption) | exact bI_r _ | exact bI_01 _) only [↓fX9_ring_0, ↓fX9_ring_1, ↓fX9_ring_2, ↓fX9_ring_5, ↓fX9_ring_6, ↓fX9_ring_7, ↓fX9_ring_10, ↓fX9_ring_11, ↓fX9_ring_12, ↓fX9_ring_15, ↓fX9_ring_16, ↓fX9_ring_17, ↓fX9_ring_20, ↓fX9_ring_21, ↓fX9_ring_24, ↓fX9_ring_24n, ↓fX9_ring_26, ↓fX9_ring_26n, ↓fX9_ring_28, ↓fX9_ring_28r, ↓fX9_ring_31, ↓fX9_ring_32, ↓fX9_ring_33, ↓fX9_ring_36, ↓fX9_ring_37, ↓fX9_ring_38, ↓fX9_ring_39, ↓fX9_ring_42, ↓fX9_ring_42n, ↓fX9_ring_44, ↓fX9_ring_47, ↓fX9_ring_48, ↓fX9_ring_49, ↓fX9_ring_52, ↓fX9_ring_53, ↓fX9_ring_55, ↓fX9_ring_56, ↓fX9_ring_56n, ↓fX9_ring_58, ↓fX9_ring_59, ↓fX9_ring_61, ↓fX9_ring_64, ↓fX9_ring_67, ↓c9_within, bI_0, ↓e1, ↓e2, ↓c9_answer, g13, z, c1, c2, and_self, true_and, and_true, false_and, and_false, not_true_eq_false, not_false_eq_true, or_self, true_or, or_true, false_or, or_false, ite_not, Decidable.not_not, decide_eq_true_eq, Bool.not_true, Bool.not_false, Bool.false_eq_true, Bool.not_eq_true, n10, n20, n21, n30, n31, n32, n40, n41, n42, n43, ↓reduceIte]
          rfl
      · rw [if_neg c]
        have e1 := HXS_none (L := L) hx hs c
        exact ⟨u2 G X 5 2, lkX_st hgt 2, u2_s _ _ _ _, fun Q => by simp (disch := first | assumption | exact c2_int _ | exact c2_ref _ | exact c2_jk | exact c2_null | omega | (apply rN1; assumption) | (apply rN2; assumption) | (apply rN3; assumption) | (apply rN4; assumption) | exact bI_r _ | exact bI_01 _) only [↓fX9_ring_0, ↓fX9_ring_1, ↓fX9_ring_2, ↓fX9_ring_5, ↓fX9_ring_6, ↓fX9_ring_7, ↓fX9_ring_10, ↓fX9_ring_11, ↓fX9_ring_12, ↓fX9_ring_15, ↓fX9_ring_16, ↓fX9_ring_17, ↓fX9_ring_20, ↓fX9_ring_21, ↓fX9_ring_24, ↓fX9_ring_24n, ↓fX9_ring_26, ↓fX9_ring_26n, ↓fX9_ring_28, ↓fX9_ring_28r, ↓fX9_ring_31, ↓fX9_ring_32, ↓fX9_ring_33, ↓fX9_ring_36, ↓fX9_ring_37, ↓fX9_ring_38, ↓fX9_ring_39, ↓fX9_ring_42, ↓fX9_ring_42n, ↓fX9_ring_44, ↓fX9_ring_47, ↓fX9_ring_48, ↓fX9_ring_49, ↓fX9_ring_52, ↓fX9_ring_53, ↓fX9_ring_55, ↓fX9_ring_56, ↓fX9_ring_56n, ↓fX9_ring_58, ↓fX9_ring_59, ↓fX9_ring_61, ↓fX9_ring_64, ↓fX9_ring_67, ↓c9_within, bI_0, ↓e1, ↓c9_fail, c1, c2, and_self, true_and, and_true, false_and, and_false, not_true_eq_false, not_false_eq_true, or_self, true_or, or_true, false_or, or_false, ite_not, Decidable.not_not, decide_eq_true_eq, Bool.not_true, Bool.not_false, Bool.false_eq_true, Bool.not_eq_true, n10, n20, n21, n30, n31, n32, n40, n41, n42, n43, ↓reduceIte]⟩
theorem x_chain (hx : HXS E r G X p q n σ a kk nn τ) (hs : I32 s) (hx' : I32 x) (hw : I32 w) : ∃ G', lkX G G' X ∧ G' X 5 = (onS (decide ((¬ (0 ≤ w ∧ w ≤ 2)))) n s (ans (chZ (σ s.toNat) x w))).1 ∧ ∀ Q, RK MX9_chain 0 [.ref X, .int (zi s), .int (zi x), .int (zi w), jk] [] (0, 0) (E, zg G, zk L, r) Q = Q (E, zg G', zk L, r) (.int (zi (onS (decide ((¬ (0 ≤ w ∧ w ≤ 2)))) n s (ans (chZ (σ s.toNat) x w))).2)) := by
  obtain ⟨x0, ⟨x1, x2, x3, x4, x5⟩, xD, xP, xS, xT⟩ := id hx.1
  have h0 := hx.2.1.1.1
  have hgt := hx.2.2
  by_cases c1 : ¬ (0 ≤ w ∧ w ≤ 2)
  · have cb : onS (decide ((¬ (0 ≤ w ∧ w ≤ 2)))) n s (ans (chZ (σ s.toNat) x w)) = (1, -1) := if_pos (decide_eq_true (by omega))
    rw [cb]
    exact ⟨u2 G X 5 1, lkX_st hgt 1, u2_s _ _ _ _, fun Q => by simp (disch := first | assumption | exact c2_int _ | exact c2_ref _ | exact c2_jk | exact c2_null | omega | (apply rN1; assumption) | (apply rN2; assumption) | (apply rN3; assumption) | (apply rN4; assumption) | exact bI_r _ | exact bI_01 _) only [↓fX9_chain_0, ↓fX9_chain_1, ↓fX9_chain_2, ↓fX9_chain_3, ↓fX9_chain_6, ↓fX9_chain_9, ↓fX9_chain_10, ↓fX9_chain_11, ↓fX9_chain_14, ↓fX9_chain_15, ↓fX9_chain_16, ↓fX9_chain_19, ↓fX9_chain_20, ↓fX9_chain_23, ↓fX9_chain_23n, ↓fX9_chain_25, ↓fX9_chain_25n, ↓fX9_chain_27, ↓fX9_chain_27r, ↓fX9_chain_30, ↓fX9_chain_31, ↓fX9_chain_32, ↓fX9_chain_35, ↓fX9_chain_36, ↓fX9_chain_37, ↓fX9_chain_37n, ↓fX9_chain_39, ↓fX9_chain_40, ↓fX9_chain_41, ↓fX9_chain_42, ↓fX9_chain_45, ↓fX9_chain_48, ↓fX9_chain_51, ↓c9_within, bI_0, ↓c9_fail, c1, and_self, true_and, and_true, false_and, and_false, not_true_eq_false, not_false_eq_true, or_self, true_or, or_true, false_or, or_false, ite_not, Decidable.not_not, decide_eq_true_eq, Bool.not_true, Bool.not_false, Bool.false_eq_true, Bool.not_eq_true, n10, n20, n21, n30, n31, n32, n40, n41, n42, n43, ↓reduceIte]⟩
  · have c1 := Decidable.not_not.mp c1
    have cq : (decide ((¬ (0 ≤ w ∧ w ≤ 2)))) = false := decide_eq_false (by omega)
    have cb : onS (decide ((¬ (0 ≤ w ∧ w ≤ 2)))) n s (ans (chZ (σ s.toNat) x w)) = if 0 ≤ s ∧ s < n then (ans (chZ (σ s.toNat) x w)) else (2, -1) := if_neg (by rw [cq]; decide)
    rw [cb]
    by_cases c : 0 ≤ s ∧ s < n
    · rw [if_pos c]
      obtain ⟨hS, hR, hW, e1⟩ := HXS_sv (L := L) hx c
      have s0 := hS.1
      have hg := hR.1
      obtain ⟨G1, f1, e2⟩ := c8_chainFrom (L := L) hS hg xT (by unfold ofS svA; have := (hx.2.1.2.1.1 s.toNat (by have := hx.2.1.2.2.2.1.2; omega)).2; omega) c1 hx'
      rw [RS_ch hR hW] at e2
      have e3 := chZ_b (w := w) hW hx'
      refine ⟨u2 G1 X 5 (ans (chZ (σ s.toNat) x w)).1, lkX_sc f1 hgt _, u2_s _ _ _ _, fun Q => ?_⟩
      simp (disch := first | assumption | exact c2_int _ | exact c2_ref _ | exact c2_jk | exact c2_null | omega | (apply rN1; assumption) | (apply rN2; assumption) | (apply rN3; assumption) | (apply rN4; assumption) | exact bI_r _ | exact bI_01 _) only [↓fX9_chain_0, ↓fX9_chain_1, ↓fX9_chain_2, ↓fX9_chain_3, ↓fX9_chain_6, ↓fX9_chain_9, ↓fX9_chain_10, ↓fX9_chain_11, ↓fX9_chain_14, ↓fX9_chain_15, ↓fX9_chain_16, ↓fX9_chain_19, ↓fX9_chain_20, ↓fX9_chain_23, ↓fX9_chain_23n, ↓fX9_chain_25, ↓fX9_chain_25n, ↓fX9_chain_27, ↓fX9_chain_27r, ↓fX9_chain_30, ↓fX9_chain_31, ↓fX9_chain_32, ↓fX9_chain_35, ↓fX9_chain_36, ↓fX9_chain_37, ↓fX9_chain_37n, ↓fX9_chain_39, ↓fX9_chain_40, ↓fX9_chain_41, ↓fX9_chain_42, ↓fX9_chain_45, ↓fX9_chain_48, ↓fX9_chain_51, ↓c9_within, bI_0, ↓e1, ↓e2, ↓c9_answer, c1, and_self, true_and, and_true, false_and, and_false, not_true_eq_false, not_false_eq_true, or_self, true_or, or_true, false_or, or_false, ite_not, Decidable.not_not, decide_eq_true_eq, Bool.not_true, Bool.not_false, Bool.false_eq_true, Bool.not_eq_true, n10, n20, n21, n30, n31, n32, n40, n41, n42, n43, ↓reduceIte]
      rfl
    · rw [if_neg c]
      have e1 := HXS_none (L := L) hx hs c
      exact ⟨u2 G X 5 2, lkX_st hgt 2, u2_s _ _ _ _, fun Q => by simp (disch := first | assumption | exact c2_int _ | exact c2_ref _ | exact c2_jk | exact c2_null | omega | (apply rN1; assumption) | (apply rN2; assumption) | (apply rN3; assumption) | (apply rN4; assumption) | exact bI_r _ | exact bI_01 _) only [↓fX9_chain_0, ↓fX9_chain_1, ↓fX9_chain_2, ↓fX9_chain_3, ↓fX9_chain_6, ↓fX9_chain_9, ↓fX9_chain_10, ↓fX9_chain_11, ↓fX9_chain_14, ↓fX9_chain_15, ↓fX9_chain_16, ↓fX9_chain_19, ↓fX9_chain_20, ↓fX9_chain_23, ↓fX9_chain_23n, ↓fX9_chain_25, ↓fX9_chain_25n, ↓fX9_chain_27, ↓fX9_chain_27r, ↓fX9_chain_30, ↓fX9_chain_31, ↓fX9_chain_32, ↓fX9_chain_35, ↓fX9_chain_36, ↓fX9_chain_37, ↓fX9_chain_37n, ↓fX9_chain_39, ↓fX9_chain_40, ↓fX9_chain_41, ↓fX9_chain_42, ↓fX9_chain_45, ↓fX9_chain_48, ↓fX9_chain_51, ↓c9_within, bI_0, ↓e1, ↓c9_fail, c1, and_self, true_and, and_true, false_and, and_false, not_true_eq_false, not_false_eq_true, or_self, true_or, or_true, false_or, or_false, ite_not, Decidable.not_not, decide_eq_true_eq, Bool.not_true, Bool.not_false, Bool.false_eq_true, Bool.not_eq_true, n10, n20, n21, n30, n31, n32, n40, n41, n42, n43, ↓reduceIte]⟩
end BS
