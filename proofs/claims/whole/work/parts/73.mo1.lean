/-! Calls of the reference that only look. -/
/-- what the reference holds of sieves, of lists -/
def MD (E : AE) (r : Nat → Nat → Option Nat) (G : Nat → Nat → Int) (m n : Nat) (σ : Nat → Nat → Int) : Prop := shM E r m ∧ (G m 6 = n ∧ n ≤ 4) ∧ ∀ s, s < n → SL G m (s : Int) (σ s) ∧ WF (σ s)
def LM (G : Nat → Nat → Int) (m cl : Nat) (ln : Nat → Nat) (lv : Nat → Nat → Int) : Prop := (G m 8 = cl ∧ cl ≤ 3) ∧ ∀ t, t < cl → (1 ≤ ln t ∧ ln t ≤ 10) ∧ G (m + 5) (11 * t) = ln t ∧ ∀ j, j < ln t → G (m + 5) (11 * t + 1 + j) = lv t j ∧ 0 ≤ lv t j ∧ lv t j ≤ 9999
section BM0
variable {E : AE} {G G1 G2 G' L : Nat → Nat → Int} {r : Nat → Nat → Option Nat} {h : AH} {Q : AH → Value → Prop} {m M n cl : Nat} {σ : Nat → Nat → Int} {σ1 : Nat → Int} {P : Int → Bool} {s o y x w i p v lo hi t b d e c f g k : Int} {ln : Nat → Nat} {lv : Nat → Nat → Int}
theorem m_is0 (hm : shM E r m) : RK MX10_is 0 [.ref m, .int (zi 0)] [] (0, 0) (E, zg G, zk L, r) Q = Q (E, zg (iG G m 0), zk L, r) (.int (zi 1)) := by
  rw [m_is hm (by decide), bI_p rfl]
theorem m_isN (hm : shM E r m) (hy : I32 y) (hn : ¬ y = 0) : RK MX10_is 0 [.ref m, .int (zi y)] [] (0, 0) (E, zg G, zk L, r) Q = Q (E, zg (iG G m y), zk L, r) (.int (zi 0)) := by
  rw [m_is hm hy, bI_n hn]
theorem m_isS1 (hM : MD E r G m n σ) (c : 0 ≤ s ∧ s < n) : RK MX10_isSieve 0 [.ref m, .int (zi s)] [] (0, 0) (E, zg G, zk L, r) Q = Q (E, zg G, zk L, r) (.int (zi 1)) := by
  have h6 := hM.2.1
  rw [m_isSieve hM.1 (by omega) (by omega), bI_p (by omega)]
theorem m_isS0 (hM : MD E r G m n σ) (hs : I32 s) (c : ¬ (0 ≤ s ∧ s < n)) : RK MX10_isSieve 0 [.ref m, .int (zi s)] [] (0, 0) (E, zg G, zk L, r) Q = Q (E, zg G, zk L, r) (.int (zi 0)) := by
  have h6 := hM.2.1
  rw [m_isSieve hM.1 hs (by omega), bI_n (by omega)]
theorem m_isL1 (hm : shM E r m) (hl : LM G m cl ln lv) (c : 0 ≤ s ∧ s < cl) : RK MX10_isList 0 [.ref m, .int (zi s)] [] (0, 0) (E, zg G, zk L, r) Q = Q (E, zg G, zk L, r) (.int (zi 1)) := by
  have m0 := hm.1
  have h6 := hl.1
  have e : (0 ≤ s ∧ s ≤ G m 8 - 1) := by omega
  simp (disch := first | assumption | exact c2_int _ | exact c2_ref _ | exact c2_jk | exact c2_null | omega | exact bI_r _ | exact bI_01 _) only [↓fX10_isList_0, ↓fX10_isList_1, ↓fX10_isList_2, ↓fX10_isList_3, ↓fX10_isList_4, ↓fX10_isList_7, ↓fX10_isList_8, ↓fX10_isList_9, ↓fX10_isList_10, ↓fX10_isList_13, ↓m_isIn]
  rw [bI_p e]
theorem m_isL0 (hm : shM E r m) (hl : LM G m cl ln lv) (hs : I32 s) (c : ¬ (0 ≤ s ∧ s < cl)) : RK MX10_isList 0 [.ref m, .int (zi s)] [] (0, 0) (E, zg G, zk L, r) Q = Q (E, zg G, zk L, r) (.int (zi 0)) := by
  have m0 := hm.1
  have h6 := hl.1
  have e : ¬ (0 ≤ s ∧ s ≤ G m 8 - 1) := by omega
  simp (disch := first | assumption | exact c2_int _ | exact c2_ref _ | exact c2_jk | exact c2_null | omega | exact bI_r _ | exact bI_01 _) only [↓fX10_isList_0, ↓fX10_isList_1, ↓fX10_isList_2, ↓fX10_isList_3, ↓fX10_isList_4, ↓fX10_isList_7, ↓fX10_isList_8, ↓fX10_isList_9, ↓fX10_isList_10, ↓fX10_isList_13, ↓m_isIn]
  rw [bI_n e]
theorem LM_at (hl : LM G m cl ln lv) (c : 0 ≤ s ∧ s < cl) : (1 ≤ ln s.toNat ∧ ln s.toNat ≤ 10) ∧ G (m + 5) (11 * s.toNat) = ln s.toNat ∧ ∀ j, j < ln s.toNat → G (m + 5) (11 * s.toNat + 1 + j) = lv s.toNat j ∧ 0 ≤ lv s.toNat j ∧ lv s.toNat j ≤ 9999 := hl.2 s.toNat (by omega)
theorem m_now (hm : shM E r m) (hs : 0 ≤ s ∧ s ≤ 4) (hl : SL G m s σ1) (hW : WF σ1) : ∃ G2, SL G2 m s σ1 ∧ LAS G2 m σ1 ∧ G2 m 12 = szS σ1 ∧ G2 m 0 = 0 ∧ lkM G G2 m ∧ (∀ o τ, SL G m o τ → SL G2 m o τ) ∧ ∀ Q, RK MX10_laysNow 0 [.ref m, .int (zi s)] [] (0, 0) (E, zg (iG G m 0), zk L, r) Q = Q (E, zg G2, zk L, r) .null :=
  ⟨lyG (iG G m 0) m (hbS σ1) (σ1 3).toNat, SL_ly (SL_i hl), lyG_LAP, lyG_12, (lyG_j (by decide)).trans iG_0, lkM_i.trans lkM_ly, fun o τ h => SL_ly (SL_i h), fun Q => m_laysNow hm hs (SL_i hl) hW⟩
end BM0
section BM
variable {E : AE} {G G1 G2 G' L : Nat → Nat → Int} {r : Nat → Nat → Option Nat} {h : AH} {Q : AH → Value → Prop} {m M n cl : Nat} {σ : Nat → Nat → Int} {P : Int → Bool} {s o y x w i p v lo hi t b d e c f g k : Int} {ln : Nat → Nat} {lv : Nat → Nat → Int}
theorem y_number (hM : MD E r G m n σ) (hs : I32 s) (hy : I32 y) : ∃ G', lkM G G' m ∧ G' m 0 = (onS (decide ((y < 1))) n s (ans (nAS (σ s.toNat) y))).1 ∧ ∀ Q, RK MX10_number 0 [.ref m, .int (zi s), .int (zi y)] [] (0, 0) (E, zg G, zk L, r) Q = Q (E, zg G', zk L, r) (.int (zi (onS (decide ((y < 1))) n s (ans (nAS (σ s.toNat) y))).2)) := by
  have hm := hM.1
  have m0 := hm.1
  have h6 := hM.2.1
  by_cases c1 : y < 1
  · have cb : onS (decide ((y < 1))) n s (ans (nAS (σ s.toNat) y)) = (1, -1) := if_pos (decide_eq_true (by omega))
    rw [cb]
    exact ⟨iG G m 1, lkM_i, iG_0, fun Q => by simp (disch := first | assumption | exact c2_int _ | exact c2_ref _ | exact c2_jk | exact c2_null | omega | exact bI_r _ | exact bI_01 _) only [↓fX10_number_0, ↓fX10_number_1, ↓fX10_number_2, ↓fX10_number_3, ↓fX10_number_4, ↓fX10_number_5, ↓fX10_number_8, ↓fX10_number_9, ↓fX10_number_12, ↓fX10_number_13, ↓fX10_number_16, ↓fX10_number_19, ↓fX10_number_22, ↓fX10_number_23, ↓fX10_number_24, ↓fX10_number_25, ↓fX10_number_26, ↓fX10_number_29, ↓fX10_number_30, ↓fX10_number_31, ↓fX10_number_34, ↓fX10_number_37, ↓fX10_number_38, ↓fX10_number_39, ↓fX10_number_40, ↓fX10_number_43, ↓fX10_number_46, ↓fX10_number_47, ↓fX10_number_48, ↓fX10_number_51, ↓fX10_whyPlace_0, ↓fX10_whyPlace_1, ↓fX10_whyPlace_4, ↓fX10_whyPlace_5, ↓fX10_whyPlace_8, ↓fX10_whyPlace_9, ↓fX10_whyPlace_10, ↓fX10_whyPlace_13, ↓fX10_whyPlace_16, ↓fX10_whyPlace_17, ↓fX10_whyPlace_20, ↓fX10_whyPlace_21, ↓m_isIn, bI_0, ↓m_isN, c1, and_self, true_and, and_true, false_and, and_false, not_true_eq_false, not_false_eq_true, or_self, true_or, or_true, false_or, or_false, ite_not, Decidable.not_not, decide_eq_true_eq, Bool.not_true, Bool.not_false, Bool.false_eq_true, Bool.not_eq_true, n10, n20, n21, n30, n31, n32, n40, n41, n42, n43, ↓reduceIte]⟩
  · have cq : (decide ((y < 1))) = false := decide_eq_false (by omega)
    have cb : onS (decide ((y < 1))) n s (ans (nAS (σ s.toNat) y)) = if 0 ≤ s ∧ s < n then (ans (nAS (σ s.toNat) y)) else (2, -1) := if_neg (by rw [cq]; decide)
    rw [cb]
    by_cases c : 0 ≤ s ∧ s < n
    · rw [if_pos c]
      obtain ⟨hl, hW⟩ := hM.2.2 s.toNat (by omega)
      rw [Int.toNat_of_nonneg c.1] at hl
      have hz := szS_b hW
      have eS := fun Q => m_isS1 (L := L) (Q := Q) hM c
      obtain ⟨G2, hl2, ha, h12, h20, lk2, tr, eN⟩ := m_now (L := L) hm (show 0 ≤ s ∧ s ≤ 4 by omega) hl hW
      have hs4 : 0 ≤ s ∧ s ≤ 4 := by omega
      by_cases z : y ≤ szS (σ s.toNat)
      · have hn := nAS_0 hW (p := y) (by omega)
        rw [ans_y hn.1]
        refine ⟨G2, lk2, h20, fun Q => ?_⟩
        simp (disch := first | assumption | exact c2_int _ | exact c2_ref _ | exact c2_jk | exact c2_null | omega | exact bI_r _ | exact bI_01 _) only [↓fX10_number_0, ↓fX10_number_1, ↓fX10_number_2, ↓fX10_number_3, ↓fX10_number_4, ↓fX10_number_5, ↓fX10_number_8, ↓fX10_number_9, ↓fX10_number_12, ↓fX10_number_13, ↓fX10_number_16, ↓fX10_number_19, ↓fX10_number_22, ↓fX10_number_23, ↓fX10_number_24, ↓fX10_number_25, ↓fX10_number_26, ↓fX10_number_29, ↓fX10_number_30, ↓fX10_number_31, ↓fX10_number_34, ↓fX10_number_37, ↓fX10_number_38, ↓fX10_number_39, ↓fX10_number_40, ↓fX10_number_43, ↓fX10_number_46, ↓fX10_number_47, ↓fX10_number_48, ↓fX10_number_51, ↓fX10_whyPlace_0, ↓fX10_whyPlace_1, ↓fX10_whyPlace_4, ↓fX10_whyPlace_5, ↓fX10_whyPlace_8, ↓fX10_whyPlace_9, ↓fX10_whyPlace_10, ↓fX10_whyPlace_13, ↓fX10_whyPlace_16, ↓fX10_whyPlace_17, ↓fX10_whyPlace_20, ↓fX10_whyPlace_21, ↓m_isIn, bI_0, ↓eS, ↓m_is0, ↓eN, ↓m_at, h12, z, c1, and_self, true_and, and_true, false_and, and_false, not_true_eq_false, not_false_eq_true, or_self, true_or, or_true, false_or, or_false, ite_not, Decidable.not_not, decide_eq_true_eq, Bool.not_true, Bool.not_false, Bool.false_eq_true, Bool.not_eq_true, n10, n20, n21, n30, n31, n32, n40, n41, n42, n43, ↓reduceIte]
      · rw [nAS_no (by omega), ans_n]
        refine ⟨u2 G2 m 0 5, (lk2.trans lkM_0), u2_s _ _ _ _, fun Q => ?_⟩
        simp (disch := first | assumption | exact c2_int _ | exact c2_ref _ | exact c2_jk | exact c2_null | omega | exact bI_r _ | exact bI_01 _) only [↓fX10_number_0, ↓fX10_number_1, ↓fX10_number_2, ↓fX10_number_3, ↓fX10_number_4, ↓fX10_number_5, ↓fX10_number_8, ↓fX10_number_9, ↓fX10_number_12, ↓fX10_number_13, ↓fX10_number_16, ↓fX10_number_19, ↓fX10_number_22, ↓fX10_number_23, ↓fX10_number_24, ↓fX10_number_25, ↓fX10_number_26, ↓fX10_number_29, ↓fX10_number_30, ↓fX10_number_31, ↓fX10_number_34, ↓fX10_number_37, ↓fX10_number_38, ↓fX10_number_39, ↓fX10_number_40, ↓fX10_number_43, ↓fX10_number_46, ↓fX10_number_47, ↓fX10_number_48, ↓fX10_number_51, ↓fX10_whyPlace_0, ↓fX10_whyPlace_1, ↓fX10_whyPlace_4, ↓fX10_whyPlace_5, ↓fX10_whyPlace_8, ↓fX10_whyPlace_9, ↓fX10_whyPlace_10, ↓fX10_whyPlace_13, ↓fX10_whyPlace_16, ↓fX10_whyPlace_17, ↓fX10_whyPlace_20, ↓fX10_whyPlace_21, ↓m_isIn, bI_0, ↓eS, ↓m_is0, ↓eN, h12, z, ↓m_refuse, c1, and_self, true_and, and_true, false_and, and_false, not_true_eq_false, not_false_eq_true, or_self, true_or, or_true, false_or, or_false, ite_not, Decidable.not_not, decide_eq_true_eq, Bool.not_true, Bool.not_false, Bool.false_eq_true, Bool.not_eq_true, n10, n20, n21, n30, n31, n32, n40, n41, n42, n43, ↓reduceIte]
    · rw [if_neg c]
      have eS := fun Q => m_isS0 (L := L) (Q := Q) hM hs c
      exact ⟨iG G m 2, lkM_i, iG_0, fun Q => by simp (disch := first | assumption | exact c2_int _ | exact c2_ref _ | exact c2_jk | exact c2_null | omega | exact bI_r _ | exact bI_01 _) only [↓fX10_number_0, ↓fX10_number_1, ↓fX10_number_2, ↓fX10_number_3, ↓fX10_number_4, ↓fX10_number_5, ↓fX10_number_8, ↓fX10_number_9, ↓fX10_number_12, ↓fX10_number_13, ↓fX10_number_16, ↓fX10_number_19, ↓fX10_number_22, ↓fX10_number_23, ↓fX10_number_24, ↓fX10_number_25, ↓fX10_number_26, ↓fX10_number_29, ↓fX10_number_30, ↓fX10_number_31, ↓fX10_number_34, ↓fX10_number_37, ↓fX10_number_38, ↓fX10_number_39, ↓fX10_number_40, ↓fX10_number_43, ↓fX10_number_46, ↓fX10_number_47, ↓fX10_number_48, ↓fX10_number_51, ↓fX10_whyPlace_0, ↓fX10_whyPlace_1, ↓fX10_whyPlace_4, ↓fX10_whyPlace_5, ↓fX10_whyPlace_8, ↓fX10_whyPlace_9, ↓fX10_whyPlace_10, ↓fX10_whyPlace_13, ↓fX10_whyPlace_16, ↓fX10_whyPlace_17, ↓fX10_whyPlace_20, ↓fX10_whyPlace_21, ↓m_isIn, bI_0, ↓eS, ↓m_isN, c1, and_self, true_and, and_true, false_and, and_false, not_true_eq_false, not_false_eq_true, or_self, true_or, or_true, false_or, or_false, ite_not, Decidable.not_not, decide_eq_true_eq, Bool.not_true, Bool.not_false, Bool.false_eq_true, Bool.not_eq_true, n10, n20, n21, n30, n31, n32, n40, n41, n42, n43, ↓reduceIte]⟩
theorem y_gap (hM : MD E r G m n σ) (hs : I32 s) (hy : I32 y) : ∃ G', lkM G G' m ∧ G' m 0 = (onS (decide ((y < 1))) n s (ans (gAS (σ s.toNat) y))).1 ∧ ∀ Q, RK MX10_gap 0 [.ref m, .int (zi s), .int (zi y)] [] (0, 0) (E, zg G, zk L, r) Q = Q (E, zg G', zk L, r) (.int (zi (onS (decide ((y < 1))) n s (ans (gAS (σ s.toNat) y))).2)) := by
  have hm := hM.1
  have m0 := hm.1
  have h6 := hM.2.1
  by_cases c1 : y < 1
  · have cb : onS (decide ((y < 1))) n s (ans (gAS (σ s.toNat) y)) = (1, -1) := if_pos (decide_eq_true (by omega))
    rw [cb]
    exact ⟨iG G m 1, lkM_i, iG_0, fun Q => by simp (disch := first | assumption | exact c2_int _ | exact c2_ref _ | exact c2_jk | exact c2_null | omega | exact bI_r _ | exact bI_01 _) only [↓fX10_gap_0, ↓fX10_gap_1, ↓fX10_gap_2, ↓fX10_gap_3, ↓fX10_gap_4, ↓fX10_gap_5, ↓fX10_gap_8, ↓fX10_gap_9, ↓fX10_gap_12, ↓fX10_gap_13, ↓fX10_gap_16, ↓fX10_gap_19, ↓fX10_gap_22, ↓fX10_gap_23, ↓fX10_gap_24, ↓fX10_gap_25, ↓fX10_gap_26, ↓fX10_gap_29, ↓fX10_gap_30, ↓fX10_gap_31, ↓fX10_gap_34, ↓fX10_gap_37, ↓fX10_gap_38, ↓fX10_gap_39, ↓fX10_gap_40, ↓fX10_gap_43, ↓fX10_gap_46, ↓fX10_gap_47, ↓fX10_gap_48, ↓fX10_gap_51, ↓fX10_whyPlace_0, ↓fX10_whyPlace_1, ↓fX10_whyPlace_4, ↓fX10_whyPlace_5, ↓fX10_whyPlace_8, ↓fX10_whyPlace_9, ↓fX10_whyPlace_10, ↓fX10_whyPlace_13, ↓fX10_whyPlace_16, ↓fX10_whyPlace_17, ↓fX10_whyPlace_20, ↓fX10_whyPlace_21, ↓m_isIn, bI_0, ↓m_isN, c1, and_self, true_and, and_true, false_and, and_false, not_true_eq_false, not_false_eq_true, or_self, true_or, or_true, false_or, or_false, ite_not, Decidable.not_not, decide_eq_true_eq, Bool.not_true, Bool.not_false, Bool.false_eq_true, Bool.not_eq_true, n10, n20, n21, n30, n31, n32, n40, n41, n42, n43, ↓reduceIte]⟩
  · have cq : (decide ((y < 1))) = false := decide_eq_false (by omega)
    have cb : onS (decide ((y < 1))) n s (ans (gAS (σ s.toNat) y)) = if 0 ≤ s ∧ s < n then (ans (gAS (σ s.toNat) y)) else (2, -1) := if_neg (by rw [cq]; decide)
    rw [cb]
    by_cases c : 0 ≤ s ∧ s < n
    · rw [if_pos c]
      obtain ⟨hl, hW⟩ := hM.2.2 s.toNat (by omega)
      rw [Int.toNat_of_nonneg c.1] at hl
      have hz := szS_b hW
      have eS := fun Q => m_isS1 (L := L) (Q := Q) hM c
      obtain ⟨G2, hl2, ha, h12, h20, lk2, tr, eN⟩ := m_now (L := L) hm (show 0 ≤ s ∧ s ≤ 4 by omega) hl hW
      have hs4 : 0 ≤ s ∧ s ≤ 4 := by omega
      by_cases z : y < szS (σ s.toNat)
      · have hn : gAS (σ s.toNat) y = nAS (σ s.toNat) (y + 1) - nAS (σ s.toNat) y := if_pos (by omega)
        have hn1 := nAS_lt hW (p := y) (q := y + 1) (by omega) (by omega) (by omega)
        have w2 := hW.2.2.1
        rw [ans_y (v := gAS (σ s.toNat) y) (by omega)]
        refine ⟨G2, lk2, h20, fun Q => ?_⟩
        simp (disch := first | assumption | exact c2_int _ | exact c2_ref _ | exact c2_jk | exact c2_null | omega | exact bI_r _ | exact bI_01 _) only [↓fX10_gap_0, ↓fX10_gap_1, ↓fX10_gap_2, ↓fX10_gap_3, ↓fX10_gap_4, ↓fX10_gap_5, ↓fX10_gap_8, ↓fX10_gap_9, ↓fX10_gap_12, ↓fX10_gap_13, ↓fX10_gap_16, ↓fX10_gap_19, ↓fX10_gap_22, ↓fX10_gap_23, ↓fX10_gap_24, ↓fX10_gap_25, ↓fX10_gap_26, ↓fX10_gap_29, ↓fX10_gap_30, ↓fX10_gap_31, ↓fX10_gap_34, ↓fX10_gap_37, ↓fX10_gap_38, ↓fX10_gap_39, ↓fX10_gap_40, ↓fX10_gap_43, ↓fX10_gap_46, ↓fX10_gap_47, ↓fX10_gap_48, ↓fX10_gap_51, ↓fX10_whyPlace_0, ↓fX10_whyPlace_1, ↓fX10_whyPlace_4, ↓fX10_whyPlace_5, ↓fX10_whyPlace_8, ↓fX10_whyPlace_9, ↓fX10_whyPlace_10, ↓fX10_whyPlace_13, ↓fX10_whyPlace_16, ↓fX10_whyPlace_17, ↓fX10_whyPlace_20, ↓fX10_whyPlace_21, ↓m_isIn, bI_0, ↓eS, ↓m_is0, ↓eN, ↓m_gapAt, h12, z, c1, and_self, true_and, and_true, false_and, and_false, not_true_eq_false, not_false_eq_true, or_self, true_or, or_true, false_or, or_false, ite_not, Decidable.not_not, decide_eq_true_eq, Bool.not_true, Bool.not_false, Bool.false_eq_true, Bool.not_eq_true, n10, n20, n21, n30, n31, n32, n40, n41, n42, n43, ↓reduceIte]
      · rw [gAS_no (by omega), ans_n]
        refine ⟨u2 G2 m 0 5, (lk2.trans lkM_0), u2_s _ _ _ _, fun Q => ?_⟩
        simp (disch := first | assumption | exact c2_int _ | exact c2_ref _ | exact c2_jk | exact c2_null | omega | exact bI_r _ | exact bI_01 _) only [↓fX10_gap_0, ↓fX10_gap_1, ↓fX10_gap_2, ↓fX10_gap_3, ↓fX10_gap_4, ↓fX10_gap_5, ↓fX10_gap_8, ↓fX10_gap_9, ↓fX10_gap_12, ↓fX10_gap_13, ↓fX10_gap_16, ↓fX10_gap_19, ↓fX10_gap_22, ↓fX10_gap_23, ↓fX10_gap_24, ↓fX10_gap_25, ↓fX10_gap_26, ↓fX10_gap_29, ↓fX10_gap_30, ↓fX10_gap_31, ↓fX10_gap_34, ↓fX10_gap_37, ↓fX10_gap_38, ↓fX10_gap_39, ↓fX10_gap_40, ↓fX10_gap_43, ↓fX10_gap_46, ↓fX10_gap_47, ↓fX10_gap_48, ↓fX10_gap_51, ↓fX10_whyPlace_0, ↓fX10_whyPlace_1, ↓fX10_whyPlace_4, ↓fX10_whyPlace_5, ↓fX10_whyPlace_8, ↓fX10_whyPlace_9, ↓fX10_whyPlace_10, ↓fX10_whyPlace_13, ↓fX10_whyPlace_16, ↓fX10_whyPlace_17, ↓fX10_whyPlace_20, ↓fX10_whyPlace_21, ↓m_isIn, bI_0, ↓eS, ↓m_is0, ↓eN, h12, z, ↓m_refuse, c1, and_self, true_and, and_true, false_and, and_false, not_true_eq_false, not_false_eq_true, or_self, true_or, or_true, false_or, or_false, ite_not, Decidable.not_not, decide_eq_true_eq, Bool.not_true, Bool.not_false, Bool.false_eq_true, Bool.not_eq_true, n10, n20, n21, n30, n31, n32, n40, n41, n42, n43, ↓reduceIte]
    · rw [if_neg c]
      have eS := fun Q => m_isS0 (L := L) (Q := Q) hM hs c
      exact ⟨iG G m 2, lkM_i, iG_0, fun Q => by simp (disch := first | assumption | exact c2_int _ | exact c2_ref _ | exact c2_jk | exact c2_null | omega | exact bI_r _ | exact bI_01 _) only [↓fX10_gap_0, ↓fX10_gap_1, ↓fX10_gap_2, ↓fX10_gap_3, ↓fX10_gap_4, ↓fX10_gap_5, ↓fX10_gap_8, ↓fX10_gap_9, ↓fX10_gap_12, ↓fX10_gap_13, ↓fX10_gap_16, ↓fX10_gap_19, ↓fX10_gap_22, ↓fX10_gap_23, ↓fX10_gap_24, ↓fX10_gap_25, ↓fX10_gap_26, ↓fX10_gap_29, ↓fX10_gap_30, ↓fX10_gap_31, ↓fX10_gap_34, ↓fX10_gap_37, ↓fX10_gap_38, ↓fX10_gap_39, ↓fX10_gap_40, ↓fX10_gap_43, ↓fX10_gap_46, ↓fX10_gap_47, ↓fX10_gap_48, ↓fX10_gap_51, ↓fX10_whyPlace_0, ↓fX10_whyPlace_1, ↓fX10_whyPlace_4, ↓fX10_whyPlace_5, ↓fX10_whyPlace_8, ↓fX10_whyPlace_9, ↓fX10_whyPlace_10, ↓fX10_whyPlace_13, ↓fX10_whyPlace_16, ↓fX10_whyPlace_17, ↓fX10_whyPlace_20, ↓fX10_whyPlace_21, ↓m_isIn, bI_0, ↓eS, ↓m_isN, c1, and_self, true_and, and_true, false_and, and_false, not_true_eq_false, not_false_eq_true, or_self, true_or, or_true, false_or, or_false, ite_not, Decidable.not_not, decide_eq_true_eq, Bool.not_true, Bool.not_false, Bool.false_eq_true, Bool.not_eq_true, n10, n20, n21, n30, n31, n32, n40, n41, n42, n43, ↓reduceIte]⟩
theorem y_balance (hM : MD E r G m n σ) (hs : I32 s) (hy : I32 y) : ∃ G', lkM G G' m ∧ G' m 0 = (onS (decide ((y < 1))) n s (if nAS (σ s.toNat) y = -1 then (5, -1) else (0, nAS (σ s.toNat) y - (σ s.toNat 1 + σ s.toNat 2 * (y - 1))))).1 ∧ ∀ Q, RK MX10_balance 0 [.ref m, .int (zi s), .int (zi y)] [] (0, 0) (E, zg G, zk L, r) Q = Q (E, zg G', zk L, r) (.int (zi (onS (decide ((y < 1))) n s (if nAS (σ s.toNat) y = -1 then (5, -1) else (0, nAS (σ s.toNat) y - (σ s.toNat 1 + σ s.toNat 2 * (y - 1))))).2)) := by
  have hm := hM.1
  have m0 := hm.1
  have h6 := hM.2.1
  by_cases c1 : y < 1
  · have cb : onS (decide ((y < 1))) n s (if nAS (σ s.toNat) y = -1 then (5, -1) else (0, nAS (σ s.toNat) y - (σ s.toNat 1 + σ s.toNat 2 * (y - 1)))) = (1, -1) := if_pos (decide_eq_true (by omega))
    rw [cb]
    exact ⟨iG G m 1, lkM_i, iG_0, fun Q => by simp (disch := first | assumption | exact c2_int _ | exact c2_ref _ | exact c2_jk | exact c2_null | omega | exact bI_r _ | exact bI_01 _) only [↓fX10_balance_0, ↓fX10_balance_1, ↓fX10_balance_2, ↓fX10_balance_3, ↓fX10_balance_4, ↓fX10_balance_5, ↓fX10_balance_8, ↓fX10_balance_9, ↓fX10_balance_12, ↓fX10_balance_13, ↓fX10_balance_16, ↓fX10_balance_19, ↓fX10_balance_22, ↓fX10_balance_23, ↓fX10_balance_24, ↓fX10_balance_25, ↓fX10_balance_26, ↓fX10_balance_29, ↓fX10_balance_30, ↓fX10_balance_31, ↓fX10_balance_34, ↓fX10_balance_37, ↓fX10_balance_38, ↓fX10_balance_39, ↓fX10_balance_40, ↓fX10_balance_43, ↓fX10_balance_44, ↓fX10_balance_45, ↓fX10_balance_46, ↓fX10_balance_47, ↓fX10_balance_48, ↓fX10_balance_51, ↓fX10_balance_52, ↓fX10_balance_55, ↓fX10_balance_56, ↓fX10_balance_57, ↓fX10_balance_60, ↓fX10_whyPlace_0, ↓fX10_whyPlace_1, ↓fX10_whyPlace_4, ↓fX10_whyPlace_5, ↓fX10_whyPlace_8, ↓fX10_whyPlace_9, ↓fX10_whyPlace_10, ↓fX10_whyPlace_13, ↓fX10_whyPlace_16, ↓fX10_whyPlace_17, ↓fX10_whyPlace_20, ↓fX10_whyPlace_21, ↓m_isIn, bI_0, ↓m_isN, c1, and_self, true_and, and_true, false_and, and_false, not_true_eq_false, not_false_eq_true, or_self, true_or, or_true, false_or, or_false, ite_not, Decidable.not_not, decide_eq_true_eq, Bool.not_true, Bool.not_false, Bool.false_eq_true, Bool.not_eq_true, n10, n20, n21, n30, n31, n32, n40, n41, n42, n43, ↓reduceIte]⟩
  · have cq : (decide ((y < 1))) = false := decide_eq_false (by omega)
    have cb : onS (decide ((y < 1))) n s (if nAS (σ s.toNat) y = -1 then (5, -1) else (0, nAS (σ s.toNat) y - (σ s.toNat 1 + σ s.toNat 2 * (y - 1)))) = if 0 ≤ s ∧ s < n then (if nAS (σ s.toNat) y = -1 then (5, -1) else (0, nAS (σ s.toNat) y - (σ s.toNat 1 + σ s.toNat 2 * (y - 1)))) else (2, -1) := if_neg (by rw [cq]; decide)
    rw [cb]
    by_cases c : 0 ≤ s ∧ s < n
    · rw [if_pos c]
      obtain ⟨hl, hW⟩ := hM.2.2 s.toNat (by omega)
      rw [Int.toNat_of_nonneg c.1] at hl
      have hz := szS_b hW
      have eS := fun Q => m_isS1 (L := L) (Q := Q) hM c
      obtain ⟨G2, hl2, ha, h12, h20, lk2, tr, eN⟩ := m_now (L := L) hm (show 0 ≤ s ∧ s ≤ 4 by omega) hl hW
      have hs4 : 0 ≤ s ∧ s ≤ 4 := by omega
      by_cases z : y ≤ szS (σ s.toNat)
      · have hn := nAS_0 hW (p := y) (by omega)
        rw [if_neg (show ¬ nAS (σ s.toNat) y = -1 by omega)]
        refine ⟨G2, lk2, h20, fun Q => ?_⟩
        simp (disch := first | assumption | exact c2_int _ | exact c2_ref _ | exact c2_jk | exact c2_null | omega | exact bI_r _ | exact bI_01 _) only [↓fX10_balance_0, ↓fX10_balance_1, ↓fX10_balance_2, ↓fX10_balance_3, ↓fX10_balance_4, ↓fX10_balance_5, ↓fX10_balance_8, ↓fX10_balance_9, ↓fX10_balance_12, ↓fX10_balance_13, ↓fX10_balance_16, ↓fX10_balance_19, ↓fX10_balance_22, ↓fX10_balance_23, ↓fX10_balance_24, ↓fX10_balance_25, ↓fX10_balance_26, ↓fX10_balance_29, ↓fX10_balance_30, ↓fX10_balance_31, ↓fX10_balance_34, ↓fX10_balance_37, ↓fX10_balance_38, ↓fX10_balance_39, ↓fX10_balance_40, ↓fX10_balance_43, ↓fX10_balance_44, ↓fX10_balance_45, ↓fX10_balance_46, ↓fX10_balance_47, ↓fX10_balance_48, ↓fX10_balance_51, ↓fX10_balance_52, ↓fX10_balance_55, ↓fX10_balance_56, ↓fX10_balance_57, ↓fX10_balance_60, ↓fX10_whyPlace_0, ↓fX10_whyPlace_1, ↓fX10_whyPlace_4, ↓fX10_whyPlace_5, ↓fX10_whyPlace_8, ↓fX10_whyPlace_9, ↓fX10_whyPlace_10, ↓fX10_whyPlace_13, ↓fX10_whyPlace_16, ↓fX10_whyPlace_17, ↓fX10_whyPlace_20, ↓fX10_whyPlace_21, ↓m_isIn, bI_0, ↓eS, ↓m_is0, ↓eN, ↓m_at, ↓m_numberAt, h12, z, c1, and_self, true_and, and_true, false_and, and_false, not_true_eq_false, not_false_eq_true, or_self, true_or, or_true, false_or, or_false, ite_not, Decidable.not_not, decide_eq_true_eq, Bool.not_true, Bool.not_false, Bool.false_eq_true, Bool.not_eq_true, n10, n20, n21, n30, n31, n32, n40, n41, n42, n43, ↓reduceIte]
      · rw [if_pos (nAS_no (by omega))]
        refine ⟨u2 G2 m 0 5, (lk2.trans lkM_0), u2_s _ _ _ _, fun Q => ?_⟩
        simp (disch := first | assumption | exact c2_int _ | exact c2_ref _ | exact c2_jk | exact c2_null | omega | exact bI_r _ | exact bI_01 _) only [↓fX10_balance_0, ↓fX10_balance_1, ↓fX10_balance_2, ↓fX10_balance_3, ↓fX10_balance_4, ↓fX10_balance_5, ↓fX10_balance_8, ↓fX10_balance_9, ↓fX10_balance_12, ↓fX10_balance_13, ↓fX10_balance_16, ↓fX10_balance_19, ↓fX10_balance_22, ↓fX10_balance_23, ↓fX10_balance_24, ↓fX10_balance_25, ↓fX10_balance_26, ↓fX10_balance_29, ↓fX10_balance_30, ↓fX10_balance_31, ↓fX10_balance_34, ↓fX10_balance_37, ↓fX10_balance_38, ↓fX10_balance_39, ↓fX10_balance_40, ↓fX10_balance_43, ↓fX10_balance_44, ↓fX10_balance_45, ↓fX10_balance_46, ↓fX10_balance_47, ↓fX10_balance_48, ↓fX10_balance_51, ↓fX10_balance_52, ↓fX10_balance_55, ↓fX10_balance_56, ↓fX10_balance_57, ↓fX10_balance_60, ↓fX10_whyPlace_0, ↓fX10_whyPlace_1, ↓fX10_whyPlace_4, ↓fX10_whyPlace_5, ↓fX10_whyPlace_8, ↓fX10_whyPlace_9, ↓fX10_whyPlace_10, ↓fX10_whyPlace_13, ↓fX10_whyPlace_16, ↓fX10_whyPlace_17, ↓fX10_whyPlace_20, ↓fX10_whyPlace_21, ↓m_isIn, bI_0, ↓eS, ↓m_is0, ↓eN, h12, z, ↓m_refuse, c1, and_self, true_and, and_true, false_and, and_false, not_true_eq_false, not_false_eq_true, or_self, true_or, or_true, false_or, or_false, ite_not, Decidable.not_not, decide_eq_true_eq, Bool.not_true, Bool.not_false, Bool.false_eq_true, Bool.not_eq_true, n10, n20, n21, n30, n31, n32, n40, n41, n42, n43, ↓reduceIte]
    · rw [if_neg c]
      have eS := fun Q => m_isS0 (L := L) (Q := Q) hM hs c
      exact ⟨iG G m 2, lkM_i, iG_0, fun Q => by simp (disch := first | assumption | exact c2_int _ | exact c2_ref _ | exact c2_jk | exact c2_null | omega | exact bI_r _ | exact bI_01 _) only [↓fX10_balance_0, ↓fX10_balance_1, ↓fX10_balance_2, ↓fX10_balance_3, ↓fX10_balance_4, ↓fX10_balance_5, ↓fX10_balance_8, ↓fX10_balance_9, ↓fX10_balance_12, ↓fX10_balance_13, ↓fX10_balance_16, ↓fX10_balance_19, ↓fX10_balance_22, ↓fX10_balance_23, ↓fX10_balance_24, ↓fX10_balance_25, ↓fX10_balance_26, ↓fX10_balance_29, ↓fX10_balance_30, ↓fX10_balance_31, ↓fX10_balance_34, ↓fX10_balance_37, ↓fX10_balance_38, ↓fX10_balance_39, ↓fX10_balance_40, ↓fX10_balance_43, ↓fX10_balance_44, ↓fX10_balance_45, ↓fX10_balance_46, ↓fX10_balance_47, ↓fX10_balance_48, ↓fX10_balance_51, ↓fX10_balance_52, ↓fX10_balance_55, ↓fX10_balance_56, ↓fX10_balance_57, ↓fX10_balance_60, ↓fX10_whyPlace_0, ↓fX10_whyPlace_1, ↓fX10_whyPlace_4, ↓fX10_whyPlace_5, ↓fX10_whyPlace_8, ↓fX10_whyPlace_9, ↓fX10_whyPlace_10, ↓fX10_whyPlace_13, ↓fX10_whyPlace_16, ↓fX10_whyPlace_17, ↓fX10_whyPlace_20, ↓fX10_whyPlace_21, ↓m_isIn, bI_0, ↓eS, ↓m_isN, c1, and_self, true_and, and_true, false_and, and_false, not_true_eq_false, not_false_eq_true, or_self, true_or, or_true, false_or, or_false, ite_not, Decidable.not_not, decide_eq_true_eq, Bool.not_true, Bool.not_false, Bool.false_eq_true, Bool.not_eq_true, n10, n20, n21, n30, n31, n32, n40, n41, n42, n43, ↓reduceIte]⟩
theorem y_half (hM : MD E r G m n σ) (hs : I32 s) : ∃ G', lkM G G' m ∧ G' m 0 = (onS (false) n s ((0, nAS (σ s.toNat) ((szS (σ s.toNat) + 1) / 2)))).1 ∧ ∀ Q, RK MX10_half 0 [.ref m, .int (zi s)] [] (0, 0) (E, zg G, zk L, r) Q = Q (E, zg G', zk L, r) (.int (zi (onS (false) n s ((0, nAS (σ s.toNat) ((szS (σ s.toNat) + 1) / 2)))).2)) := by
  have hm := hM.1
  have m0 := hm.1
  have h6 := hM.2.1
  have cb : onS (false) n s ((0, nAS (σ s.toNat) ((szS (σ s.toNat) + 1) / 2))) = if 0 ≤ s ∧ s < n then ((0, nAS (σ s.toNat) ((szS (σ s.toNat) + 1) / 2))) else (2, -1) := if_neg (by decide)
  rw [cb]
  by_cases c : 0 ≤ s ∧ s < n
  · rw [if_pos c]
    obtain ⟨hl, hW⟩ := hM.2.2 s.toNat (by omega)
    rw [Int.toNat_of_nonneg c.1] at hl
    have hz := szS_b hW
    have eS := fun Q => m_isS1 (L := L) (Q := Q) hM c
    obtain ⟨G2, hl2, ha, h12, h20, lk2, tr, eN⟩ := m_now (L := L) hm (show 0 ≤ s ∧ s ≤ 4 by omega) hl hW
    have hs4 : 0 ≤ s ∧ s ≤ 4 := by omega
    refine ⟨G2, lk2, h20, fun Q => ?_⟩
    simp (disch := first | assumption | exact c2_int _ | exact c2_ref _ | exact c2_jk | exact c2_null | omega | exact bI_r _ | exact bI_01 _) only [↓fX10_half_0, ↓fX10_half_1, ↓fX10_half_2, ↓fX10_half_3, ↓fX10_half_6, ↓fX10_half_9, ↓fX10_half_10, ↓fX10_half_13, ↓fX10_half_14, ↓fX10_half_17, ↓fX10_half_20, ↓fX10_half_21, ↓fX10_half_22, ↓fX10_half_23, ↓fX10_half_24, ↓fX10_half_27, ↓fX10_half_28, ↓fX10_half_29, ↓fX10_half_30, ↓fX10_half_33, ↓fX10_half_34, ↓fX10_half_35, ↓fX10_half_36, ↓fX10_half_37, ↓fX10_half_40, ↓m_isIn, bI_0, ↓eS, ↓m_is0, ↓eN, ↓m_at, h12, and_self, true_and, and_true, false_and, and_false, not_true_eq_false, not_false_eq_true, or_self, true_or, or_true, false_or, or_false, ite_not, Decidable.not_not, decide_eq_true_eq, Bool.not_true, Bool.not_false, Bool.false_eq_true, Bool.not_eq_true, n10, n20, n21, n30, n31, n32, n40, n41, n42, n43, ↓reduceIte]
  · rw [if_neg c]
    have eS := fun Q => m_isS0 (L := L) (Q := Q) hM hs c
    exact ⟨iG G m 2, lkM_i, iG_0, fun Q => by simp (disch := first | assumption | exact c2_int _ | exact c2_ref _ | exact c2_jk | exact c2_null | omega | exact bI_r _ | exact bI_01 _) only [↓fX10_half_0, ↓fX10_half_1, ↓fX10_half_2, ↓fX10_half_3, ↓fX10_half_6, ↓fX10_half_9, ↓fX10_half_10, ↓fX10_half_13, ↓fX10_half_14, ↓fX10_half_17, ↓fX10_half_20, ↓fX10_half_21, ↓fX10_half_22, ↓fX10_half_23, ↓fX10_half_24, ↓fX10_half_27, ↓fX10_half_28, ↓fX10_half_29, ↓fX10_half_30, ↓fX10_half_33, ↓fX10_half_34, ↓fX10_half_35, ↓fX10_half_36, ↓fX10_half_37, ↓fX10_half_40, ↓m_isIn, bI_0, ↓eS, ↓m_isN, and_self, true_and, and_true, false_and, and_false, not_true_eq_false, not_false_eq_true, or_self, true_or, or_true, false_or, or_false, ite_not, Decidable.not_not, decide_eq_true_eq, Bool.not_true, Bool.not_false, Bool.false_eq_true, Bool.not_eq_true, n10, n20, n21, n30, n31, n32, n40, n41, n42, n43, ↓reduceIte]⟩
theorem y_gapsOf (hM : MD E r G m n σ) (hs : I32 s) (hy : I32 y) : ∃ G', lkM G G' m ∧ G' m 0 = (onS (false) n s ((0, cgZ (σ s.toNat) y))).1 ∧ ∀ Q, RK MX10_gapsOf 0 [.ref m, .int (zi s), .int (zi y)] [] (0, 0) (E, zg G, zk L, r) Q = Q (E, zg G', zk L, r) (.int (zi (onS (false) n s ((0, cgZ (σ s.toNat) y))).2)) := by
  have hm := hM.1
  have m0 := hm.1
  have h6 := hM.2.1
  have cb : onS (false) n s ((0, cgZ (σ s.toNat) y)) = if 0 ≤ s ∧ s < n then ((0, cgZ (σ s.toNat) y)) else (2, -1) := if_neg (by decide)
  rw [cb]
  by_cases c : 0 ≤ s ∧ s < n
  · rw [if_pos c]
    obtain ⟨hl, hW⟩ := hM.2.2 s.toNat (by omega)
    rw [Int.toNat_of_nonneg c.1] at hl
    have hz := szS_b hW
    have eS := fun Q => m_isS1 (L := L) (Q := Q) hM c
    obtain ⟨G2, hl2, ha, h12, h20, lk2, tr, eN⟩ := m_now (L := L) hm (show 0 ≤ s ∧ s ≤ 4 by omega) hl hW
    have hs4 : 0 ≤ s ∧ s ≤ 4 := by omega
    refine ⟨G2, lk2, h20, fun Q => ?_⟩
    simp (disch := first | assumption | exact c2_int _ | exact c2_ref _ | exact c2_jk | exact c2_null | omega | exact bI_r _ | exact bI_01 _) only [↓fX10_gapsOf_0, ↓fX10_gapsOf_1, ↓fX10_gapsOf_2, ↓fX10_gapsOf_3, ↓fX10_gapsOf_6, ↓fX10_gapsOf_9, ↓fX10_gapsOf_10, ↓fX10_gapsOf_13, ↓fX10_gapsOf_14, ↓fX10_gapsOf_17, ↓fX10_gapsOf_20, ↓fX10_gapsOf_21, ↓fX10_gapsOf_22, ↓fX10_gapsOf_23, ↓fX10_gapsOf_24, ↓fX10_gapsOf_27, ↓fX10_gapsOf_28, ↓fX10_gapsOf_29, ↓fX10_gapsOf_30, ↓fX10_gapsOf_33, ↓m_isIn, bI_0, ↓eS, ↓m_is0, ↓eN, ↓m_gapsBy, h12, and_self, true_and, and_true, false_and, and_false, not_true_eq_false, not_false_eq_true, or_self, true_or, or_true, false_or, or_false, ite_not, Decidable.not_not, decide_eq_true_eq, Bool.not_true, Bool.not_false, Bool.false_eq_true, Bool.not_eq_true, n10, n20, n21, n30, n31, n32, n40, n41, n42, n43, ↓reduceIte]
  · rw [if_neg c]
    have eS := fun Q => m_isS0 (L := L) (Q := Q) hM hs c
    exact ⟨iG G m 2, lkM_i, iG_0, fun Q => by simp (disch := first | assumption | exact c2_int _ | exact c2_ref _ | exact c2_jk | exact c2_null | omega | exact bI_r _ | exact bI_01 _) only [↓fX10_gapsOf_0, ↓fX10_gapsOf_1, ↓fX10_gapsOf_2, ↓fX10_gapsOf_3, ↓fX10_gapsOf_6, ↓fX10_gapsOf_9, ↓fX10_gapsOf_10, ↓fX10_gapsOf_13, ↓fX10_gapsOf_14, ↓fX10_gapsOf_17, ↓fX10_gapsOf_20, ↓fX10_gapsOf_21, ↓fX10_gapsOf_22, ↓fX10_gapsOf_23, ↓fX10_gapsOf_24, ↓fX10_gapsOf_27, ↓fX10_gapsOf_28, ↓fX10_gapsOf_29, ↓fX10_gapsOf_30, ↓fX10_gapsOf_33, ↓m_isIn, bI_0, ↓eS, ↓m_isN, and_self, true_and, and_true, false_and, and_false, not_true_eq_false, not_false_eq_true, or_self, true_or, or_true, false_or, or_false, ite_not, Decidable.not_not, decide_eq_true_eq, Bool.not_true, Bool.not_false, Bool.false_eq_true, Bool.not_eq_true, n10, n20, n21, n30, n31, n32, n40, n41, n42, n43, ↓reduceIte]⟩
theorem y_upTo (hM : MD E r G m n σ) (hs : I32 s) (hy : I32 y) : ∃ G', lkM G G' m ∧ G' m 0 = (onS (false) n s ((0, cuZ (σ s.toNat) y))).1 ∧ ∀ Q, RK MX10_upTo 0 [.ref m, .int (zi s), .int (zi y)] [] (0, 0) (E, zg G, zk L, r) Q = Q (E, zg G', zk L, r) (.int (zi (onS (false) n s ((0, cuZ (σ s.toNat) y))).2)) := by
  have hm := hM.1
  have m0 := hm.1
  have h6 := hM.2.1
  have cb : onS (false) n s ((0, cuZ (σ s.toNat) y)) = if 0 ≤ s ∧ s < n then ((0, cuZ (σ s.toNat) y)) else (2, -1) := if_neg (by decide)
  rw [cb]
  by_cases c : 0 ≤ s ∧ s < n
  · rw [if_pos c]
    obtain ⟨hl, hW⟩ := hM.2.2 s.toNat (by omega)
    rw [Int.toNat_of_nonneg c.1] at hl
    have hz := szS_b hW
    have eS := fun Q => m_isS1 (L := L) (Q := Q) hM c
    obtain ⟨G2, hl2, ha, h12, h20, lk2, tr, eN⟩ := m_now (L := L) hm (show 0 ≤ s ∧ s ≤ 4 by omega) hl hW
    have hs4 : 0 ≤ s ∧ s ≤ 4 := by omega
    have ec := cu_ct (d := y) hW
    refine ⟨G2, lk2, h20, fun Q => ?_⟩
    simp (disch := first | assumption | exact c2_int _ | exact c2_ref _ | exact c2_jk | exact c2_null | omega | exact bI_r _ | exact bI_01 _) only [↓fX10_upTo_0, ↓fX10_upTo_1, ↓fX10_upTo_2, ↓fX10_upTo_3, ↓fX10_upTo_6, ↓fX10_upTo_9, ↓fX10_upTo_10, ↓fX10_upTo_13, ↓fX10_upTo_14, ↓fX10_upTo_17, ↓fX10_upTo_20, ↓fX10_upTo_21, ↓fX10_upTo_22, ↓fX10_upTo_23, ↓fX10_upTo_24, ↓fX10_upTo_27, ↓fX10_upTo_28, ↓fX10_upTo_29, ↓fX10_upTo_30, ↓fX10_upTo_33, ↓m_isIn, bI_0, ↓eS, ↓m_is0, ↓eN, ↓m_handUpTo, h12, ec, and_self, true_and, and_true, false_and, and_false, not_true_eq_false, not_false_eq_true, or_self, true_or, or_true, false_or, or_false, ite_not, Decidable.not_not, decide_eq_true_eq, Bool.not_true, Bool.not_false, Bool.false_eq_true, Bool.not_eq_true, n10, n20, n21, n30, n31, n32, n40, n41, n42, n43, ↓reduceIte]
  · rw [if_neg c]
    have eS := fun Q => m_isS0 (L := L) (Q := Q) hM hs c
    exact ⟨iG G m 2, lkM_i, iG_0, fun Q => by simp (disch := first | assumption | exact c2_int _ | exact c2_ref _ | exact c2_jk | exact c2_null | omega | exact bI_r _ | exact bI_01 _) only [↓fX10_upTo_0, ↓fX10_upTo_1, ↓fX10_upTo_2, ↓fX10_upTo_3, ↓fX10_upTo_6, ↓fX10_upTo_9, ↓fX10_upTo_10, ↓fX10_upTo_13, ↓fX10_upTo_14, ↓fX10_upTo_17, ↓fX10_upTo_20, ↓fX10_upTo_21, ↓fX10_upTo_22, ↓fX10_upTo_23, ↓fX10_upTo_24, ↓fX10_upTo_27, ↓fX10_upTo_28, ↓fX10_upTo_29, ↓fX10_upTo_30, ↓fX10_upTo_33, ↓m_isIn, bI_0, ↓eS, ↓m_isN, and_self, true_and, and_true, false_and, and_false, not_true_eq_false, not_false_eq_true, or_self, true_or, or_true, false_or, or_false, ite_not, Decidable.not_not, decide_eq_true_eq, Bool.not_true, Bool.not_false, Bool.false_eq_true, Bool.not_eq_true, n10, n20, n21, n30, n31, n32, n40, n41, n42, n43, ↓reduceIte]⟩
theorem y_sums (hM : MD E r G m n σ) (hs : I32 s) (hy : I32 y) : ∃ G', lkM G G' m ∧ G' m 0 = (onS (false) n s ((0, wtZ (σ s.toNat) y))).1 ∧ ∀ Q, RK MX10_sums 0 [.ref m, .int (zi s), .int (zi y)] [] (0, 0) (E, zg G, zk L, r) Q = Q (E, zg G', zk L, r) (.int (zi (onS (false) n s ((0, wtZ (σ s.toNat) y))).2)) := by
  have hm := hM.1
  have m0 := hm.1
  have h6 := hM.2.1
  have cb : onS (false) n s ((0, wtZ (σ s.toNat) y)) = if 0 ≤ s ∧ s < n then ((0, wtZ (σ s.toNat) y)) else (2, -1) := if_neg (by decide)
  rw [cb]
  by_cases c : 0 ≤ s ∧ s < n
  · rw [if_pos c]
    obtain ⟨hl, hW⟩ := hM.2.2 s.toNat (by omega)
    rw [Int.toNat_of_nonneg c.1] at hl
    have hz := szS_b hW
    have eS := fun Q => m_isS1 (L := L) (Q := Q) hM c
    obtain ⟨G2, hl2, ha, h12, h20, lk2, tr, eN⟩ := m_now (L := L) hm (show 0 ≤ s ∧ s ≤ 4 by omega) hl hW
    have hs4 : 0 ≤ s ∧ s ≤ 4 := by omega
    refine ⟨G2, lk2, h20, fun Q => ?_⟩
    simp (disch := first | assumption | exact c2_int _ | exact c2_ref _ | exact c2_jk | exact c2_null | omega | exact bI_r _ | exact bI_01 _) only [↓fX10_sums_0, ↓fX10_sums_1, ↓fX10_sums_2, ↓fX10_sums_3, ↓fX10_sums_6, ↓fX10_sums_9, ↓fX10_sums_10, ↓fX10_sums_13, ↓fX10_sums_14, ↓fX10_sums_17, ↓fX10_sums_20, ↓fX10_sums_21, ↓fX10_sums_22, ↓fX10_sums_23, ↓fX10_sums_24, ↓fX10_sums_27, ↓fX10_sums_28, ↓fX10_sums_29, ↓fX10_sums_30, ↓fX10_sums_33, ↓m_isIn, bI_0, ↓eS, ↓m_is0, ↓eN, ↓m_waysTo, h12, and_self, true_and, and_true, false_and, and_false, not_true_eq_false, not_false_eq_true, or_self, true_or, or_true, false_or, or_false, ite_not, Decidable.not_not, decide_eq_true_eq, Bool.not_true, Bool.not_false, Bool.false_eq_true, Bool.not_eq_true, n10, n20, n21, n30, n31, n32, n40, n41, n42, n43, ↓reduceIte]
  · rw [if_neg c]
    have eS := fun Q => m_isS0 (L := L) (Q := Q) hM hs c
    exact ⟨iG G m 2, lkM_i, iG_0, fun Q => by simp (disch := first | assumption | exact c2_int _ | exact c2_ref _ | exact c2_jk | exact c2_null | omega | exact bI_r _ | exact bI_01 _) only [↓fX10_sums_0, ↓fX10_sums_1, ↓fX10_sums_2, ↓fX10_sums_3, ↓fX10_sums_6, ↓fX10_sums_9, ↓fX10_sums_10, ↓fX10_sums_13, ↓fX10_sums_14, ↓fX10_sums_17, ↓fX10_sums_20, ↓fX10_sums_21, ↓fX10_sums_22, ↓fX10_sums_23, ↓fX10_sums_24, ↓fX10_sums_27, ↓fX10_sums_28, ↓fX10_sums_29, ↓fX10_sums_30, ↓fX10_sums_33, ↓m_isIn, bI_0, ↓eS, ↓m_isN, and_self, true_and, and_true, false_and, and_false, not_true_eq_false, not_false_eq_true, or_self, true_or, or_true, false_or, or_false, ite_not, Decidable.not_not, decide_eq_true_eq, Bool.not_true, Bool.not_false, Bool.false_eq_true, Bool.not_eq_true, n10, n20, n21, n30, n31, n32, n40, n41, n42, n43, ↓reduceIte]⟩
theorem y_rank (hM : MD E r G m n σ) (hs : I32 s) (hx : I32 x) : ∃ G', lkM G G' m ∧ G' m 0 = (onS (false) n s (ans (poZ (σ s.toNat) x))).1 ∧ ∀ Q, RK MX10_rank 0 [.ref m, .int (zi s), .int (zi x)] [] (0, 0) (E, zg G, zk L, r) Q = Q (E, zg G', zk L, r) (.int (zi (onS (false) n s (ans (poZ (σ s.toNat) x))).2)) := by
  have hm := hM.1
  have m0 := hm.1
  have h6 := hM.2.1
  have cb : onS (false) n s (ans (poZ (σ s.toNat) x)) = if 0 ≤ s ∧ s < n then (ans (poZ (σ s.toNat) x)) else (2, -1) := if_neg (by decide)
  rw [cb]
  by_cases c : 0 ≤ s ∧ s < n
  · rw [if_pos c]
    obtain ⟨hl, hW⟩ := hM.2.2 s.toNat (by omega)
    rw [Int.toNat_of_nonneg c.1] at hl
    have hz := szS_b hW
    have eS := fun Q => m_isS1 (L := L) (Q := Q) hM c
    obtain ⟨G2, hl2, ha, h12, h20, lk2, tr, eN⟩ := m_now (L := L) hm (show 0 ≤ s ∧ s ≤ 4 by omega) hl hW
    have hs4 : 0 ≤ s ∧ s ≤ 4 := by omega
    have po := poZ_pl (x := x) hW
    have ib := iXS_b hW x
    by_cases z : hasS (σ s.toNat) x = true
    · rw [if_pos z] at po
      have w3 := hW.2.2.2.1
      have pb : 0 ≤ poZ (σ s.toNat) x := by
                rw [po]
                unfold plN
                split
                · have := ctN_b (hbS (σ s.toNat)) (iXS (σ s.toNat) x).toNat
                  omega
                · rename_i q
                  obtain ⟨i, i1, i2, i3, -⟩ := hasS_ix hW z
                  rw [i3] at q
                  exact absurd ⟨by omega, by omega, i2⟩ q
      rw [ans_y pb, po]
      have pl := fun Q => m_placeOf (L := L) (Q := Q) (s := s) (i := iXS (σ s.toNat) x) hm ha (by omega) ⟨by omega, by omega⟩ (by omega)
      refine ⟨G2, lk2, h20, fun Q => ?_⟩
      simp (disch := first | assumption | exact c2_int _ | exact c2_ref _ | exact c2_jk | exact c2_null | omega | exact bI_r _ | exact bI_01 _) only [↓fX10_rank_0, ↓fX10_rank_1, ↓fX10_rank_2, ↓fX10_rank_3, ↓fX10_rank_6, ↓fX10_rank_9, ↓fX10_rank_10, ↓fX10_rank_13, ↓fX10_rank_14, ↓fX10_rank_17, ↓fX10_rank_20, ↓fX10_rank_21, ↓fX10_rank_22, ↓fX10_rank_23, ↓fX10_rank_24, ↓fX10_rank_27, ↓fX10_rank_28, ↓fX10_rank_29, ↓fX10_rank_30, ↓fX10_rank_33, ↓fX10_rank_36, ↓fX10_rank_37, ↓fX10_rank_38, ↓fX10_rank_39, ↓fX10_rank_40, ↓fX10_rank_41, ↓fX10_rank_44, ↓fX10_rank_47, ↓fX10_rank_50, ↓fX10_rank_51, ↓fX10_rank_52, ↓fX10_rank_55, ↓m_isIn, bI_0, ↓eS, ↓m_is0, ↓eN, ↓m_isThere, ↓m_indexOf, ↓pl, h12, z, and_self, true_and, and_true, false_and, and_false, not_true_eq_false, not_false_eq_true, or_self, true_or, or_true, false_or, or_false, ite_not, Decidable.not_not, decide_eq_true_eq, Bool.not_true, Bool.not_false, Bool.false_eq_true, Bool.not_eq_true, n10, n20, n21, n30, n31, n32, n40, n41, n42, n43, ↓reduceIte]
    · rw [if_neg z] at po
      rw [po, ans_n]
      refine ⟨u2 G2 m 0 5, (lk2.trans lkM_0), u2_s _ _ _ _, fun Q => ?_⟩
      simp (disch := first | assumption | exact c2_int _ | exact c2_ref _ | exact c2_jk | exact c2_null | omega | exact bI_r _ | exact bI_01 _) only [↓fX10_rank_0, ↓fX10_rank_1, ↓fX10_rank_2, ↓fX10_rank_3, ↓fX10_rank_6, ↓fX10_rank_9, ↓fX10_rank_10, ↓fX10_rank_13, ↓fX10_rank_14, ↓fX10_rank_17, ↓fX10_rank_20, ↓fX10_rank_21, ↓fX10_rank_22, ↓fX10_rank_23, ↓fX10_rank_24, ↓fX10_rank_27, ↓fX10_rank_28, ↓fX10_rank_29, ↓fX10_rank_30, ↓fX10_rank_33, ↓fX10_rank_36, ↓fX10_rank_37, ↓fX10_rank_38, ↓fX10_rank_39, ↓fX10_rank_40, ↓fX10_rank_41, ↓fX10_rank_44, ↓fX10_rank_47, ↓fX10_rank_50, ↓fX10_rank_51, ↓fX10_rank_52, ↓fX10_rank_55, ↓m_isIn, bI_0, ↓eS, ↓m_is0, ↓eN, ↓m_isThere, h12, z, ↓m_refuse, and_self, true_and, and_true, false_and, and_false, not_true_eq_false, not_false_eq_true, or_self, true_or, or_true, false_or, or_false, ite_not, Decidable.not_not, decide_eq_true_eq, Bool.not_true, Bool.not_false, Bool.false_eq_true, Bool.not_eq_true, n10, n20, n21, n30, n31, n32, n40, n41, n42, n43, ↓reduceIte]
  · rw [if_neg c]
    have eS := fun Q => m_isS0 (L := L) (Q := Q) hM hs c
    exact ⟨iG G m 2, lkM_i, iG_0, fun Q => by simp (disch := first | assumption | exact c2_int _ | exact c2_ref _ | exact c2_jk | exact c2_null | omega | exact bI_r _ | exact bI_01 _) only [↓fX10_rank_0, ↓fX10_rank_1, ↓fX10_rank_2, ↓fX10_rank_3, ↓fX10_rank_6, ↓fX10_rank_9, ↓fX10_rank_10, ↓fX10_rank_13, ↓fX10_rank_14, ↓fX10_rank_17, ↓fX10_rank_20, ↓fX10_rank_21, ↓fX10_rank_22, ↓fX10_rank_23, ↓fX10_rank_24, ↓fX10_rank_27, ↓fX10_rank_28, ↓fX10_rank_29, ↓fX10_rank_30, ↓fX10_rank_33, ↓fX10_rank_36, ↓fX10_rank_37, ↓fX10_rank_38, ↓fX10_rank_39, ↓fX10_rank_40, ↓fX10_rank_41, ↓fX10_rank_44, ↓fX10_rank_47, ↓fX10_rank_50, ↓fX10_rank_51, ↓fX10_rank_52, ↓fX10_rank_55, ↓m_isIn, bI_0, ↓eS, ↓m_isN, and_self, true_and, and_true, false_and, and_false, not_true_eq_false, not_false_eq_true, or_self, true_or, or_true, false_or, or_false, ite_not, Decidable.not_not, decide_eq_true_eq, Bool.not_true, Bool.not_false, Bool.false_eq_true, Bool.not_eq_true, n10, n20, n21, n30, n31, n32, n40, n41, n42, n43, ↓reduceIte]⟩
end BM
