/-! longer, make, drop, undo, many, status, fault, out of the reference. -/
section BM
variable {E : AE} {G G1 G2 G' L : Nat → Nat → Int} {r : Nat → Nat → Option Nat} {h : AH} {Q : AH → Value → Prop} {m M n cl ln1 a : Nat} {σ τ : Nat → Nat → Int} {σ1 ρ : Nat → Int} {N : Nat → Nat} {Sg : Nat → Nat → Nat → Int} {s o y x w i p v lo hi t b d e c f g k : Int} {lv1 : Nat → Int} {ln : Nat → Nat} {lv : Nat → Nat → Int}
/-- a slot's cells from b on below n made 0 -/
def z0F (ρ : Nat → Int) (b n : Nat) : Nat → Int := fun k => if b ≤ k ∧ k < n then 0 else ρ k
theorem z0_step {b n : Nat} (h : b ≤ n) : upF (z0F ρ b n) n 0 = z0F ρ b (n + 1) := by
  funext k
  simp only [upF, z0F]
  by_cases c : k = n
  · rw [if_pos c, if_pos (by omega)]
  · rw [if_neg c]
    by_cases c2 : b ≤ k ∧ k < n
    · rw [if_pos c2, if_pos (by omega)]
    · rw [if_neg c2, if_neg (by omega)]
theorem z0_0 {b : Nat} : z0F ρ b b = ρ := by
  funext k
  exact if_neg fun z => by omega
theorem SL_cg {ρ' : Nat → Int} (hl : SL G m s ρ) (h : ∀ k, k < 1824 → ρ k = ρ' k) : SL G m s ρ' := fun k hk => (hl k hk).trans (h k hk)
theorem anew_loop (hm : shM E r m) (hs : 0 ≤ s ∧ s ≤ 4) {K : Nat} (hK : K = 1824) : ∀ (k n' : Nat), K - n' ≤ k → n' ≤ K → 20 ≤ n' → RK MX10_anew 3 [.ref m, .int (zi s), .int (zi (n' : Int))] [] (0, 0) (E, zg (wsG G m s (z0F ρ 20 n')), zk L, r) Q = RK MX10_anew 29 [.ref m, .int (zi s), .int (zi (K : Int))] [] (0, 0) (E, zg (wsG G m s (z0F ρ 20 K)), zk L, r) Q := by
  have m0 := hm.1
  obtain ⟨ka1, la1, ra1⟩ := hm.2.1
  have stop : RK MX10_anew 3 [.ref m, .int (zi s), .int (zi (K : Int))] [] (0, 0) (E, zg (wsG G m s (z0F ρ 20 K)), zk L, r) Q = RK MX10_anew 29 [.ref m, .int (zi s), .int (zi (K : Int))] [] (0, 0) (E, zg (wsG G m s (z0F ρ 20 K)), zk L, r) Q := by
    have h6 : ¬ (K : Int) < 1824 := by omega
    simp (disch := first | assumption | exact c2_int _ | exact c2_ref _ | exact c2_jk | exact c2_null | omega | exact bI_r _ | exact bI_01 _) only [↓fX10_anew_0, ↓fX10_anew_2, ↓fX10_anew_3, ↓fX10_anew_4, ↓fX10_anew_7, ↓fX10_anew_10, ↓fX10_anew_11, ↓fX10_anew_14, ↓fX10_anew_17, ↓fX10_anew_18, ↓fX10_anew_19, ↓fX10_anew_20, ↓fX10_anew_21, ↓fX10_anew_22, ↓fX10_anew_23, ↓fX10_anew_26, ↓fX10_anew_30, ↓fX10_anew_33, ↓fX10_anew_36, ↓fX10_anew_37, ↓fX10_anew_38, ↓fX10_anew_39, ↓fX10_anew_40, ↓fX10_anew_41, ↓fX10_anew_42, ↓fX10_anew_43, ↓fX10_anew_46, ↓fX10_anew_49, ↓fX10_anew_50, ↓fX10_anew_51, ↓fX10_anew_52, ↓fX10_anew_53, ↓fX10_anew_54, ↓fX10_anew_55, ↓fX10_anew_56, ↓fX10_anew_59, ↓fX10_anew_62, ↓fX10_anew_63, ↓fX10_anew_64, ↓fX10_anew_66, ↓fX10_anew_67, ↓fX10_anew_68, ↓fX10_anew_69, h6, and_self, true_and, and_true, false_and, and_false, not_true_eq_false, not_false_eq_true, or_self, true_or, or_true, false_or, or_false, ite_not, Decidable.not_not, decide_eq_true_eq, Bool.not_true, Bool.not_false, Bool.false_eq_true, Bool.not_eq_true, n10, n20, n21, n30, n31, n32, n40, n41, n42, n43, ↓reduceIte]
  intro k
  induction k with
  | zero =>
    intro n' h1 h2 h3
    have en : n' = K := by omega
    rw [en]
    exact stop
  | succ k ih =>
    intro n' h1 h2 h3
    by_cases h6 : (n' : Int) < 1824
    · have ew := ws_up (G := G) (m := m) (ρ := z0F ρ 20 n') (v := 0) hs.1 (k := n') (by omega) (q := (1824 * s + (n' : Int)).toNat) (by omega)
      rw [z0_step h3] at ew
      have ih' := ih (n' + 1) (by omega) (by omega) (by omega)
      rw [← ew, Int.natCast_add] at ih'
      have ih'' : RK MX10_anew 3 [.ref m, .int (zi s), .int (zi ((n' : Int) + 1))] [] (0, 0) _ Q = _ := ih'
      rw [fX10_anew_3]
      simp (disch := first | assumption | exact c2_int _ | exact c2_ref _ | exact c2_jk | exact c2_null | omega | exact bI_r _ | exact bI_01 _) only [↓fX10_anew_0, ↓fX10_anew_2, ↓fX10_anew_4, ↓fX10_anew_7, ↓fX10_anew_10, ↓fX10_anew_11, ↓fX10_anew_14, ↓fX10_anew_17, ↓fX10_anew_18, ↓fX10_anew_19, ↓fX10_anew_20, ↓fX10_anew_21, ↓fX10_anew_22, ↓fX10_anew_23, ↓fX10_anew_26, ↓fX10_anew_30, ↓fX10_anew_33, ↓fX10_anew_36, ↓fX10_anew_37, ↓fX10_anew_38, ↓fX10_anew_39, ↓fX10_anew_40, ↓fX10_anew_41, ↓fX10_anew_42, ↓fX10_anew_43, ↓fX10_anew_46, ↓fX10_anew_49, ↓fX10_anew_50, ↓fX10_anew_51, ↓fX10_anew_52, ↓fX10_anew_53, ↓fX10_anew_54, ↓fX10_anew_55, ↓fX10_anew_56, ↓fX10_anew_59, ↓fX10_anew_62, ↓fX10_anew_63, ↓fX10_anew_64, ↓fX10_anew_66, ↓fX10_anew_67, ↓fX10_anew_68, ↓fX10_anew_69, h6, and_self, true_and, and_true, false_and, and_false, not_true_eq_false, not_false_eq_true, or_self, true_or, or_true, false_or, or_false, ite_not, Decidable.not_not, decide_eq_true_eq, Bool.not_true, Bool.not_false, Bool.false_eq_true, Bool.not_eq_true, n10, n20, n21, n30, n31, n32, n40, n41, n42, n43, ↓reduceIte]
      exact ih''
    · have en : n' = K := by omega
      rw [en]
      exact stop
theorem m_anew (hm : shM E r m) (hs : 0 ≤ s ∧ s ≤ 4) (hl : SL G m s ρ) : ∃ G2, KW G G2 m s ∧ SL G2 m s (bgS ρ (ρ 3)) ∧ ∀ Q, RK MX10_anew 0 [.ref m, .int (zi s), jk] [] (0, 0) (E, zg G, zk L, r) Q = Q (E, zg G2, zk L, r) .null := by
  have m0 := hm.1
  obtain ⟨ka1, la1, ra1⟩ := hm.2.1
  obtain ⟨K, hK⟩ : ∃ K : Nat, K = 1824 := ⟨_, rfl⟩
  have lp := fun Q => anew_loop (G := G) (L := L) (ρ := ρ) (Q := Q) hm hs hK K 20 (by omega) (by omega) (by omega)
  rw [z0_0, ws_id hs.1 hl] at lp
  have u4 := ws_up (G := G) (m := m) (ρ := z0F ρ 20 K) (v := 0) hs.1 (k := 4) (by decide) (q := (1824 * s + 4).toNat) (by omega)
  have u5 := ws_up (G := G) (m := m) (ρ := upF (z0F ρ 20 K) 4 0) (v := 0) hs.1 (k := 5) (by decide) (q := (1824 * s + 5).toNat) (by omega)
  have u6 := ws_up (G := G) (m := m) (ρ := upF (upF (z0F ρ 20 K) 4 0) 5 0) (v := 0) hs.1 (k := 6) (by decide) (q := (1824 * s + 6).toNat) (by omega)
  refine ⟨wsG G m s (upF (upF (upF (z0F ρ 20 K) 4 0) 5 0) 6 0), KW_ws, SL_cg (ws_SL hs.1) fun k hk => ?_, fun Q => ?_⟩
  · simp only [upF, z0F, bgS]
    by_cases k3 : k = 3
    · subst k3
      rw [if_neg (by decide), if_neg (by decide), if_neg (by decide), if_neg (by omega), if_pos rfl]
    · rw [if_neg k3]
      by_cases k6 : k = 6
      · rw [if_pos k6, if_pos (by omega)]
      · rw [if_neg k6]
        by_cases k5 : k = 5
        · rw [if_pos k5, if_pos (by omega)]
        · rw [if_neg k5]
          by_cases k4 : k = 4
          · rw [if_pos k4, if_pos (by omega)]
          · rw [if_neg k4, if_neg (show ¬ (k = 4 ∨ k = 5 ∨ k = 6) by omega)]
            by_cases k20 : 20 ≤ k
            · rw [if_pos (by omega), if_pos k20]
            · rw [if_neg (fun z => k20 z.1), if_neg k20]
  · have lp' : ∀ Q, RK MX10_anew 3 [.ref m, .int (zi s), .int (zi 20)] [] (0, 0) (E, zg G, zk L, r) Q = _ := lp
    simp (disch := first | assumption | exact c2_int _ | exact c2_ref _ | exact c2_jk | exact c2_null | omega | exact bI_r _ | exact bI_01 _) only [↓fX10_anew_0, ↓fX10_anew_2, ↓fX10_anew_4, ↓fX10_anew_7, ↓fX10_anew_10, ↓fX10_anew_11, ↓fX10_anew_14, ↓fX10_anew_17, ↓fX10_anew_18, ↓fX10_anew_19, ↓fX10_anew_20, ↓fX10_anew_21, ↓fX10_anew_22, ↓fX10_anew_23, ↓fX10_anew_26, ↓fX10_anew_30, ↓fX10_anew_33, ↓fX10_anew_36, ↓fX10_anew_37, ↓fX10_anew_38, ↓fX10_anew_39, ↓fX10_anew_40, ↓fX10_anew_41, ↓fX10_anew_42, ↓fX10_anew_43, ↓fX10_anew_46, ↓fX10_anew_49, ↓fX10_anew_50, ↓fX10_anew_51, ↓fX10_anew_52, ↓fX10_anew_53, ↓fX10_anew_54, ↓fX10_anew_55, ↓fX10_anew_56, ↓fX10_anew_59, ↓fX10_anew_62, ↓fX10_anew_63, ↓fX10_anew_64, ↓fX10_anew_66, ↓fX10_anew_67, ↓fX10_anew_68, ↓fX10_anew_69, ↓lp', and_self, true_and, and_true, false_and, and_false, not_true_eq_false, not_false_eq_true, or_self, true_or, or_true, false_or, or_false, ite_not, Decidable.not_not, decide_eq_true_eq, Bool.not_true, Bool.not_false, Bool.false_eq_true, Bool.not_eq_true, n10, n20, n21, n30, n31, n32, n40, n41, n42, n43, ↓reduceIte]
    rw [fX10_anew_29]
    simp (disch := first | assumption | exact c2_int _ | exact c2_ref _ | exact c2_jk | exact c2_null | omega | exact bI_r _ | exact bI_01 _) only [↓fX10_anew_0, ↓fX10_anew_2, ↓fX10_anew_4, ↓fX10_anew_7, ↓fX10_anew_10, ↓fX10_anew_11, ↓fX10_anew_14, ↓fX10_anew_17, ↓fX10_anew_18, ↓fX10_anew_19, ↓fX10_anew_20, ↓fX10_anew_21, ↓fX10_anew_22, ↓fX10_anew_23, ↓fX10_anew_26, ↓fX10_anew_30, ↓fX10_anew_33, ↓fX10_anew_36, ↓fX10_anew_37, ↓fX10_anew_38, ↓fX10_anew_39, ↓fX10_anew_40, ↓fX10_anew_41, ↓fX10_anew_42, ↓fX10_anew_43, ↓fX10_anew_46, ↓fX10_anew_49, ↓fX10_anew_50, ↓fX10_anew_51, ↓fX10_anew_52, ↓fX10_anew_53, ↓fX10_anew_54, ↓fX10_anew_55, ↓fX10_anew_56, ↓fX10_anew_59, ↓fX10_anew_62, ↓fX10_anew_63, ↓fX10_anew_64, ↓fX10_anew_66, ↓fX10_anew_67, ↓fX10_anew_68, ↓fX10_anew_69, u4, u5, u6, and_self, true_and, and_true, false_and, and_false, not_true_eq_false, not_false_eq_true, or_self, true_or, or_true, false_or, or_false, ite_not, Decidable.not_not, decide_eq_true_eq, Bool.not_true, Bool.not_false, Bool.false_eq_true, Bool.not_eq_true, n10, n20, n21, n30, n31, n32, n40, n41, n42, n43, ↓reduceIte]
theorem longer_loop (hm : shM E r m) (hs : 0 ≤ s ∧ s ≤ 4) {w : Int} {l2 : Value} (hw : w ≤ 700) : ∀ (k : Nat) (σ : Nat → Int) (G : Nat → Nat → Int), SL G m s σ → WF σ → w - σ 4 = k → ∃ G2, KW G G2 m s ∧ SL G2 m s (smS k σ).1 ∧ ∀ Q, RK MX10_longer 83 [.ref m, .int (zi s), l2, .int (zi w)] [] (0, 0) (E, zg G, zk L, r) Q = RK MX10_longer 104 [.ref m, .int (zi s), l2, .int (zi w)] [] (0, 0) (E, zg G2, zk L, r) Q := by
  have m0 := hm.1
  intro k
  induction k with
  | zero =>
    intro σ G hl hW h1
    have h6 : ¬ σ 4 < w := by omega
    have w5 := WF_5 hW
    have w4 := hW.2.2.2.2.1
    refine ⟨G, KW.rf _ _ _, hl, fun Q => ?_⟩
    simp (disch := first | assumption | exact c2_int _ | exact c2_ref _ | exact c2_jk | exact c2_null | omega | exact bI_r _ | exact bI_01 _) only [↓fX10_longer_0, ↓fX10_longer_1, ↓fX10_longer_2, ↓fX10_longer_3, ↓fX10_longer_6, ↓fX10_longer_9, ↓fX10_longer_12, ↓fX10_longer_15, ↓fX10_longer_16, ↓fX10_longer_19, ↓fX10_longer_20, ↓fX10_longer_21, ↓fX10_longer_24, ↓fX10_longer_27, ↓fX10_longer_28, ↓fX10_longer_31, ↓fX10_longer_32, ↓fX10_longer_33, ↓fX10_longer_34, ↓fX10_longer_37, ↓fX10_longer_38, ↓fX10_longer_41, ↓fX10_longer_42, ↓fX10_longer_45, ↓fX10_longer_46, ↓fX10_longer_49, ↓fX10_longer_52, ↓fX10_longer_53, ↓fX10_longer_54, ↓fX10_longer_55, ↓fX10_longer_58, ↓fX10_longer_59, ↓fX10_longer_60, ↓fX10_longer_61, ↓fX10_longer_64, ↓fX10_longer_65, ↓fX10_longer_66, ↓fX10_longer_69, ↓fX10_longer_72, ↓fX10_longer_73, ↓fX10_longer_74, ↓fX10_longer_75, ↓fX10_longer_76, ↓fX10_longer_77, ↓fX10_longer_78, ↓fX10_longer_79, ↓fX10_longer_80, ↓fX10_longer_83, ↓fX10_longer_84, ↓fX10_longer_85, ↓fX10_longer_86, ↓fX10_longer_89, ↓fX10_longer_90, ↓fX10_longer_93, ↓fX10_longer_94, ↓fX10_longer_95, ↓fX10_longer_98, ↓fX10_longer_101, ↓fX10_longer_105, ↓fX10_longer_106, ↓fX10_longer_109, ↓fX10_longer_110, ↓fX10_longer_113, ↓m_of, Int.reduceToNat, h6, and_self, true_and, and_true, false_and, and_false, not_true_eq_false, not_false_eq_true, or_self, true_or, or_true, false_or, or_false, ite_not, Decidable.not_not, decide_eq_true_eq, Bool.not_true, Bool.not_false, Bool.false_eq_true, Bool.not_eq_true, n10, n20, n21, n30, n31, n32, n40, n41, n42, n43, ↓reduceIte]
  | succ k ih =>
    intro σ G hl hW h1
    have h6 : σ 4 < w := by omega
    have w5 := WF_5 hW
    have w4 := hW.2.2.2.2.1
    by_cases hn : ngS σ = -1
    · have es : smS (k + 1) σ = (σ, 0) := by rw [smS, if_pos hn]
      rw [es]
      obtain ⟨G2, k2, hl2, -, e⟩ := m_rounds0 (L := L) hm hs hl hW hn
      have m1 : (-1 : Int) < 0 := by decide
      refine ⟨G2, k2, hl2, fun Q => ?_⟩
      rw [fX10_longer_83]
      simp (disch := first | assumption | exact c2_int _ | exact c2_ref _ | exact c2_jk | exact c2_null | omega | exact bI_r _ | exact bI_01 _) only [↓fX10_longer_0, ↓fX10_longer_1, ↓fX10_longer_2, ↓fX10_longer_3, ↓fX10_longer_6, ↓fX10_longer_9, ↓fX10_longer_12, ↓fX10_longer_15, ↓fX10_longer_16, ↓fX10_longer_19, ↓fX10_longer_20, ↓fX10_longer_21, ↓fX10_longer_24, ↓fX10_longer_27, ↓fX10_longer_28, ↓fX10_longer_31, ↓fX10_longer_32, ↓fX10_longer_33, ↓fX10_longer_34, ↓fX10_longer_37, ↓fX10_longer_38, ↓fX10_longer_41, ↓fX10_longer_42, ↓fX10_longer_45, ↓fX10_longer_46, ↓fX10_longer_49, ↓fX10_longer_52, ↓fX10_longer_53, ↓fX10_longer_54, ↓fX10_longer_55, ↓fX10_longer_58, ↓fX10_longer_59, ↓fX10_longer_60, ↓fX10_longer_61, ↓fX10_longer_64, ↓fX10_longer_65, ↓fX10_longer_66, ↓fX10_longer_69, ↓fX10_longer_72, ↓fX10_longer_73, ↓fX10_longer_74, ↓fX10_longer_75, ↓fX10_longer_76, ↓fX10_longer_77, ↓fX10_longer_78, ↓fX10_longer_79, ↓fX10_longer_80, ↓fX10_longer_84, ↓fX10_longer_85, ↓fX10_longer_86, ↓fX10_longer_89, ↓fX10_longer_90, ↓fX10_longer_93, ↓fX10_longer_94, ↓fX10_longer_95, ↓fX10_longer_98, ↓fX10_longer_101, ↓fX10_longer_105, ↓fX10_longer_106, ↓fX10_longer_109, ↓fX10_longer_110, ↓fX10_longer_113, ↓m_of, ↓e, Int.reduceToNat, h6, m1, and_self, true_and, and_true, false_and, and_false, not_true_eq_false, not_false_eq_true, or_self, true_or, or_true, false_or, or_false, ite_not, Decidable.not_not, decide_eq_true_eq, Bool.not_true, Bool.not_false, Bool.false_eq_true, Bool.not_eq_true, n10, n20, n21, n30, n31, n32, n40, n41, n42, n43, ↓reduceIte]
    · have es : smS (k + 1) σ = ((smS k (swS σ (ngS σ))).1, (smS k (swS σ (ngS σ))).2 + 1) := by rw [smS, if_neg hn]
      rw [es]
      obtain ⟨G2, k2, hl2, e⟩ := m_rounds (L := L) hm hs hl hW hn
      have e4 : swS σ (ngS σ) 4 = σ 4 + 1 := rfl
      obtain ⟨G3, k3, hl3, e3⟩ := ih (swS σ (ngS σ)) G2 hl2 (swS_WF hW hn) (by omega)
      have hz := szS_b hW
      have hz2 := swS_sz hW (ngS_ok hW hn).1.1
      have hge : ¬ szS σ - szS (swS σ (ngS σ)) < 0 := by omega
      refine ⟨G3, k2.trans k3, hl3, fun Q => ?_⟩
      rw [fX10_longer_83]
      simp (disch := first | assumption | exact c2_int _ | exact c2_ref _ | exact c2_jk | exact c2_null | omega | exact bI_r _ | exact bI_01 _) only [↓fX10_longer_0, ↓fX10_longer_1, ↓fX10_longer_2, ↓fX10_longer_3, ↓fX10_longer_6, ↓fX10_longer_9, ↓fX10_longer_12, ↓fX10_longer_15, ↓fX10_longer_16, ↓fX10_longer_19, ↓fX10_longer_20, ↓fX10_longer_21, ↓fX10_longer_24, ↓fX10_longer_27, ↓fX10_longer_28, ↓fX10_longer_31, ↓fX10_longer_32, ↓fX10_longer_33, ↓fX10_longer_34, ↓fX10_longer_37, ↓fX10_longer_38, ↓fX10_longer_41, ↓fX10_longer_42, ↓fX10_longer_45, ↓fX10_longer_46, ↓fX10_longer_49, ↓fX10_longer_52, ↓fX10_longer_53, ↓fX10_longer_54, ↓fX10_longer_55, ↓fX10_longer_58, ↓fX10_longer_59, ↓fX10_longer_60, ↓fX10_longer_61, ↓fX10_longer_64, ↓fX10_longer_65, ↓fX10_longer_66, ↓fX10_longer_69, ↓fX10_longer_72, ↓fX10_longer_73, ↓fX10_longer_74, ↓fX10_longer_75, ↓fX10_longer_76, ↓fX10_longer_77, ↓fX10_longer_78, ↓fX10_longer_79, ↓fX10_longer_80, ↓fX10_longer_84, ↓fX10_longer_85, ↓fX10_longer_86, ↓fX10_longer_89, ↓fX10_longer_90, ↓fX10_longer_93, ↓fX10_longer_94, ↓fX10_longer_95, ↓fX10_longer_98, ↓fX10_longer_101, ↓fX10_longer_105, ↓fX10_longer_106, ↓fX10_longer_109, ↓fX10_longer_110, ↓fX10_longer_113, ↓m_of, ↓e, ↓e3, Int.reduceToNat, h6, hge, and_self, true_and, and_true, false_and, and_false, not_true_eq_false, not_false_eq_true, or_self, true_or, or_true, false_or, or_false, ite_not, Decidable.not_not, decide_eq_true_eq, Bool.not_true, Bool.not_false, Bool.false_eq_true, Bool.not_eq_true, n10, n20, n21, n30, n31, n32, n40, n41, n42, n43, ↓reduceIte]
theorem z_longer1 (hM : MD E r G m n σ) (hy : I32 y) (c : ¬ (2 ≤ y ∧ y ≤ 600)) : RK MX10_longer 0 [.ref m, .int (zi s), .int (zi y), jk] [] (0, 0) (E, zg G, zk L, r) Q = Q (E, zg (iG G m 1), zk L, r) (.int (zi (-1))) := by
  have hm := hM.1
  have m0 := hm.1
  simp (disch := first | assumption | exact c2_int _ | exact c2_ref _ | exact c2_jk | exact c2_null | omega | exact bI_r _ | exact bI_01 _) only [↓fX10_longer_0, ↓fX10_longer_1, ↓fX10_longer_2, ↓fX10_longer_3, ↓fX10_longer_6, ↓fX10_longer_9, ↓fX10_longer_12, ↓fX10_longer_15, ↓fX10_longer_16, ↓fX10_longer_19, ↓fX10_longer_20, ↓fX10_longer_21, ↓fX10_longer_24, ↓fX10_longer_27, ↓fX10_longer_28, ↓fX10_longer_31, ↓fX10_longer_32, ↓fX10_longer_33, ↓fX10_longer_34, ↓fX10_longer_37, ↓fX10_longer_38, ↓fX10_longer_41, ↓fX10_longer_42, ↓fX10_longer_45, ↓fX10_longer_46, ↓fX10_longer_49, ↓fX10_longer_52, ↓fX10_longer_53, ↓fX10_longer_54, ↓fX10_longer_55, ↓fX10_longer_58, ↓fX10_longer_59, ↓fX10_longer_60, ↓fX10_longer_61, ↓fX10_longer_64, ↓fX10_longer_65, ↓fX10_longer_66, ↓fX10_longer_69, ↓fX10_longer_72, ↓fX10_longer_73, ↓fX10_longer_74, ↓fX10_longer_75, ↓fX10_longer_76, ↓fX10_longer_77, ↓fX10_longer_78, ↓fX10_longer_79, ↓fX10_longer_80, ↓fX10_longer_83, ↓fX10_longer_84, ↓fX10_longer_85, ↓fX10_longer_86, ↓fX10_longer_89, ↓fX10_longer_90, ↓fX10_longer_93, ↓fX10_longer_94, ↓fX10_longer_95, ↓fX10_longer_98, ↓fX10_longer_101, ↓fX10_longer_104, ↓fX10_longer_105, ↓fX10_longer_106, ↓fX10_longer_109, ↓fX10_longer_110, ↓fX10_longer_113, ↓m_isIn, ↓m_isN, bI_0, c, and_self, true_and, and_true, false_and, and_false, not_true_eq_false, not_false_eq_true, or_self, true_or, or_true, false_or, or_false, ite_not, Decidable.not_not, decide_eq_true_eq, Bool.not_true, Bool.not_false, Bool.false_eq_true, Bool.not_eq_true, n10, n20, n21, n30, n31, n32, n40, n41, n42, n43, ↓reduceIte]
theorem z_longer2 (hM : MD E r G m n σ) (hs : I32 s) (hy : 2 ≤ y ∧ y ≤ 600) (c : ¬ (0 ≤ s ∧ s < n)) : RK MX10_longer 0 [.ref m, .int (zi s), .int (zi y), jk] [] (0, 0) (E, zg G, zk L, r) Q = Q (E, zg (iG G m 2), zk L, r) (.int (zi (-1))) := by
  have hm := hM.1
  have m0 := hm.1
  have eS := fun Q => m_isS0 (L := L) (Q := Q) hM hs c
  have z : (2 ≤ y ∧ y ≤ 600) = True := eq_true hy
  simp (disch := first | assumption | exact c2_int _ | exact c2_ref _ | exact c2_jk | exact c2_null | omega | exact bI_r _ | exact bI_01 _) only [↓fX10_longer_0, ↓fX10_longer_1, ↓fX10_longer_2, ↓fX10_longer_3, ↓fX10_longer_6, ↓fX10_longer_9, ↓fX10_longer_12, ↓fX10_longer_15, ↓fX10_longer_16, ↓fX10_longer_19, ↓fX10_longer_20, ↓fX10_longer_21, ↓fX10_longer_24, ↓fX10_longer_27, ↓fX10_longer_28, ↓fX10_longer_31, ↓fX10_longer_32, ↓fX10_longer_33, ↓fX10_longer_34, ↓fX10_longer_37, ↓fX10_longer_38, ↓fX10_longer_41, ↓fX10_longer_42, ↓fX10_longer_45, ↓fX10_longer_46, ↓fX10_longer_49, ↓fX10_longer_52, ↓fX10_longer_53, ↓fX10_longer_54, ↓fX10_longer_55, ↓fX10_longer_58, ↓fX10_longer_59, ↓fX10_longer_60, ↓fX10_longer_61, ↓fX10_longer_64, ↓fX10_longer_65, ↓fX10_longer_66, ↓fX10_longer_69, ↓fX10_longer_72, ↓fX10_longer_73, ↓fX10_longer_74, ↓fX10_longer_75, ↓fX10_longer_76, ↓fX10_longer_77, ↓fX10_longer_78, ↓fX10_longer_79, ↓fX10_longer_80, ↓fX10_longer_83, ↓fX10_longer_84, ↓fX10_longer_85, ↓fX10_longer_86, ↓fX10_longer_89, ↓fX10_longer_90, ↓fX10_longer_93, ↓fX10_longer_94, ↓fX10_longer_95, ↓fX10_longer_98, ↓fX10_longer_101, ↓fX10_longer_104, ↓fX10_longer_105, ↓fX10_longer_106, ↓fX10_longer_109, ↓fX10_longer_110, ↓fX10_longer_113, ↓m_isIn, ↓eS, ↓m_isN, bI_0, z, and_self, true_and, and_true, false_and, and_false, not_true_eq_false, not_false_eq_true, or_self, true_or, or_true, false_or, or_false, ite_not, Decidable.not_not, decide_eq_true_eq, Bool.not_true, Bool.not_false, Bool.false_eq_true, Bool.not_eq_true, n10, n20, n21, n30, n31, n32, n40, n41, n42, n43, ↓reduceIte]
theorem z_longer4 (hM : MD E r G m n σ) (hy : 2 ≤ y ∧ y ≤ 600) (c : 0 ≤ s ∧ s < n) (h3 : σ s.toNat 3 = y) : RK MX10_longer 0 [.ref m, .int (zi s), .int (zi y), jk] [] (0, 0) (E, zg G, zk L, r) Q = Q (E, zg (iG G m 4), zk L, r) (.int (zi (-1))) := by
  have hm := hM.1
  have m0 := hm.1
  have h6 := hM.2.1
  have eS := fun Q => m_isS1 (L := L) (Q := Q) hM c
  obtain ⟨hl, hW⟩ := hM.2.2 s.toNat (by omega)
  rw [Int.toNat_of_nonneg c.1] at hl
  have z : (2 ≤ y ∧ y ≤ 600) = True := eq_true hy
  simp (disch := first | assumption | exact c2_int _ | exact c2_ref _ | exact c2_jk | exact c2_null | omega | exact bI_r _ | exact bI_01 _) only [↓fX10_longer_0, ↓fX10_longer_1, ↓fX10_longer_2, ↓fX10_longer_3, ↓fX10_longer_6, ↓fX10_longer_9, ↓fX10_longer_12, ↓fX10_longer_15, ↓fX10_longer_16, ↓fX10_longer_19, ↓fX10_longer_20, ↓fX10_longer_21, ↓fX10_longer_24, ↓fX10_longer_27, ↓fX10_longer_28, ↓fX10_longer_31, ↓fX10_longer_32, ↓fX10_longer_33, ↓fX10_longer_34, ↓fX10_longer_37, ↓fX10_longer_38, ↓fX10_longer_41, ↓fX10_longer_42, ↓fX10_longer_45, ↓fX10_longer_46, ↓fX10_longer_49, ↓fX10_longer_52, ↓fX10_longer_53, ↓fX10_longer_54, ↓fX10_longer_55, ↓fX10_longer_58, ↓fX10_longer_59, ↓fX10_longer_60, ↓fX10_longer_61, ↓fX10_longer_64, ↓fX10_longer_65, ↓fX10_longer_66, ↓fX10_longer_69, ↓fX10_longer_72, ↓fX10_longer_73, ↓fX10_longer_74, ↓fX10_longer_75, ↓fX10_longer_76, ↓fX10_longer_77, ↓fX10_longer_78, ↓fX10_longer_79, ↓fX10_longer_80, ↓fX10_longer_83, ↓fX10_longer_84, ↓fX10_longer_85, ↓fX10_longer_86, ↓fX10_longer_89, ↓fX10_longer_90, ↓fX10_longer_93, ↓fX10_longer_94, ↓fX10_longer_95, ↓fX10_longer_98, ↓fX10_longer_101, ↓fX10_longer_104, ↓fX10_longer_105, ↓fX10_longer_106, ↓fX10_longer_109, ↓fX10_longer_110, ↓fX10_longer_113, ↓m_isIn, ↓eS, ↓m_of, Int.reduceToNat, ↓m_isN, bI_0, z, h3, and_self, true_and, and_true, false_and, and_false, not_true_eq_false, not_false_eq_true, or_self, true_or, or_true, false_or, or_false, ite_not, Decidable.not_not, decide_eq_true_eq, Bool.not_true, Bool.not_false, Bool.false_eq_true, Bool.not_eq_true, n10, n20, n21, n30, n31, n32, n40, n41, n42, n43, ↓reduceIte]
theorem z_longer (hM : MD E r G m n σ) (hP : PM G m a N Sg) (hy : 2 ≤ y ∧ y ≤ 600) (c : 0 ≤ s ∧ s < n) (h3 : σ s.toNat 3 ≠ y) : ∃ G', MD E r G' m n (fun t => if t = s.toNat then (smS (σ s.toNat 4).toNat (bgS (σ s.toNat) y)).1 else σ t) ∧ PM G' m (kpA a) (kpN a N n) (kpN a Sg σ) ∧ G' m 0 = 0 ∧ frM G G' m ∧ ∀ Q, RK MX10_longer 0 [.ref m, .int (zi s), .int (zi y), jk] [] (0, 0) (E, zg G, zk L, r) Q = Q (E, zg G', zk L, r) (.int (zi (szS (smS (σ s.toNat 4).toNat (bgS (σ s.toNat) y)).1))) := by
  have hm := hM.1
  have m0 := hm.1
  have h6 := hM.2.1
  obtain ⟨ka1, la1, ra1⟩ := hm.2.1
  have eS := fun Q => m_isS1 (L := L) (Q := Q) hM c
  have hM2 := MD_lk hM (lkM_i (y := 0))
  obtain ⟨G3, f1, f2, P3, e3⟩ := m_remembers (L := L) hM2 (PM_lk hP (lkM_i (y := 0)))
  have M3 := MD_rem hM2 f1 f2
  obtain ⟨hl0, hW⟩ := hM.2.2 s.toNat (by omega)
  rw [Int.toNat_of_nonneg c.1] at hl0
  have w3 := hW.2.2.2.1
  have w4 := hW.2.2.2.2.1
  have w5 := WF_5 hW
  have hs4 : 0 ≤ s ∧ s ≤ 4 := by omega
  have hl3 : SL G3 m s (σ s.toNat) := by
    have := (M3.2.2 s.toNat (by omega)).1
    rw [Int.toNat_of_nonneg c.1] at this
    exact this
  have hid := ws_id hs4.1 hl3
  have u3 := ws_up (G := G3) (m := m) (ρ := σ s.toNat) (v := y) hs4.1 (k := 3) (by decide) (q := (1824 * s + 3).toNat) (by omega)
  rw [hid] at u3
  have hlA : SL (wsG G3 m s (upF (σ s.toNat) 3 y)) m s (upF (σ s.toNat) 3 y) := ws_SL hs4.1
  obtain ⟨G4, k4, hl4, e4⟩ := m_anew (L := L) hm hs4 hlA
  have hl4' : SL G4 m s (bgS (σ s.toNat) y) := SL_cg hl4 fun k _ => by
    simp only [bgS, upF]
    by_cases k3 : k = 3
    · simp only [k3, if_true]
    · simp only [k3, if_false]
  have hW4 := bgS_WF hW hy
  obtain ⟨G5, k5, hl5, e5⟩ := longer_loop (L := L) (w := σ s.toNat 4) (l2 := .int (zi y)) hm hs4 (by omega) (σ s.toNat 4).toNat (bgS (σ s.toNat) y) G4 hl4' hW4 (by show σ s.toNat 4 - 0 = _; omega)
  have hW5 := smS_WF (σ s.toNat 4).toNat _ hW4
  have e6 := fun Q => m_laysNow (L := L) (Q := Q) hm hs4 hl5 hW5
  have h12 : lyG G5 m (hbS (smS (σ s.toNat 4).toNat (bgS (σ s.toNat) y)).1) ((smS (σ s.toNat 4).toNat (bgS (σ s.toNat) y)).1 3).toNat m 12 = szS (smS (σ s.toNat 4).toNat (bgS (σ s.toNat) y)).1 := lyG_12
  have k6 : KW G5 (lyG G5 m (hbS (smS (σ s.toNat 4).toNat (bgS (σ s.toNat) y)).1) ((smS (σ s.toNat 4).toNat (bgS (σ s.toNat) y)).1 3).toNat) m s := KW_ly
  have hl6 : SL (lyG G5 m (hbS (smS (σ s.toNat 4).toNat (bgS (σ s.toNat) y)).1) ((smS (σ s.toNat 4).toNat (bgS (σ s.toNat) y)).1 3).toNat) m s (smS (σ s.toNat 4).toNat (bgS (σ s.toNat) y)).1 := SL_ly hl5
  generalize lyG G5 m (hbS (smS (σ s.toNat 4).toNat (bgS (σ s.toNat) y)).1) ((smS (σ s.toNat 4).toNat (bgS (σ s.toNat) y)).1 3).toNat = G6 at e6 h12 k6 hl6
  have kk : KW G3 G6 m s := (((KW_ws (ρ := upF (σ s.toNat) 3 y)).trans k4).trans k5).trans k6
  have z : (2 ≤ y ∧ y ≤ 600) = True := eq_true hy
  refine ⟨G6, MD_set M3 c kk hl6 hW5, PM_KW P3 kk, by rw [kk.2.1 0 (by decide), f2 0 (by decide), iG_0], ((frM_lk (lkM_i (y := 0))).trans (frM_rem f1 f2)).trans (frM_KW kk), fun Q => ?_⟩
  simp (disch := first | assumption | exact c2_int _ | exact c2_ref _ | exact c2_jk | exact c2_null | omega | exact bI_r _ | exact bI_01 _) only [↓fX10_longer_0, ↓fX10_longer_1, ↓fX10_longer_2, ↓fX10_longer_3, ↓fX10_longer_6, ↓fX10_longer_9, ↓fX10_longer_12, ↓fX10_longer_15, ↓fX10_longer_16, ↓fX10_longer_19, ↓fX10_longer_20, ↓fX10_longer_21, ↓fX10_longer_24, ↓fX10_longer_27, ↓fX10_longer_28, ↓fX10_longer_31, ↓fX10_longer_32, ↓fX10_longer_33, ↓fX10_longer_34, ↓fX10_longer_37, ↓fX10_longer_38, ↓fX10_longer_41, ↓fX10_longer_42, ↓fX10_longer_45, ↓fX10_longer_46, ↓fX10_longer_49, ↓fX10_longer_52, ↓fX10_longer_53, ↓fX10_longer_54, ↓fX10_longer_55, ↓fX10_longer_58, ↓fX10_longer_59, ↓fX10_longer_60, ↓fX10_longer_61, ↓fX10_longer_64, ↓fX10_longer_65, ↓fX10_longer_66, ↓fX10_longer_69, ↓fX10_longer_72, ↓fX10_longer_73, ↓fX10_longer_74, ↓fX10_longer_75, ↓fX10_longer_76, ↓fX10_longer_77, ↓fX10_longer_78, ↓fX10_longer_79, ↓fX10_longer_80, ↓fX10_longer_84, ↓fX10_longer_85, ↓fX10_longer_86, ↓fX10_longer_89, ↓fX10_longer_90, ↓fX10_longer_93, ↓fX10_longer_94, ↓fX10_longer_95, ↓fX10_longer_98, ↓fX10_longer_101, ↓fX10_longer_105, ↓fX10_longer_106, ↓fX10_longer_109, ↓fX10_longer_110, ↓fX10_longer_113, ↓m_isIn, ↓eS, ↓m_of, Int.reduceToNat, ↓m_is0, bI_0, z, h3, ↓e3, u3, ↓e4, ↓e5, and_self, true_and, and_true, false_and, and_false, not_true_eq_false, not_false_eq_true, or_self, true_or, or_true, false_or, or_false, ite_not, Decidable.not_not, decide_eq_true_eq, Bool.not_true, Bool.not_false, Bool.false_eq_true, Bool.not_eq_true, n10, n20, n21, n30, n31, n32, n40, n41, n42, n43, ↓reduceIte]
  rw [fX10_longer_104]
  simp (disch := first | assumption | exact c2_int _ | exact c2_ref _ | exact c2_jk | exact c2_null | omega | exact bI_r _ | exact bI_01 _) only [↓fX10_longer_0, ↓fX10_longer_1, ↓fX10_longer_2, ↓fX10_longer_3, ↓fX10_longer_6, ↓fX10_longer_9, ↓fX10_longer_12, ↓fX10_longer_15, ↓fX10_longer_16, ↓fX10_longer_19, ↓fX10_longer_20, ↓fX10_longer_21, ↓fX10_longer_24, ↓fX10_longer_27, ↓fX10_longer_28, ↓fX10_longer_31, ↓fX10_longer_32, ↓fX10_longer_33, ↓fX10_longer_34, ↓fX10_longer_37, ↓fX10_longer_38, ↓fX10_longer_41, ↓fX10_longer_42, ↓fX10_longer_45, ↓fX10_longer_46, ↓fX10_longer_49, ↓fX10_longer_52, ↓fX10_longer_53, ↓fX10_longer_54, ↓fX10_longer_55, ↓fX10_longer_58, ↓fX10_longer_59, ↓fX10_longer_60, ↓fX10_longer_61, ↓fX10_longer_64, ↓fX10_longer_65, ↓fX10_longer_66, ↓fX10_longer_69, ↓fX10_longer_72, ↓fX10_longer_73, ↓fX10_longer_74, ↓fX10_longer_75, ↓fX10_longer_76, ↓fX10_longer_77, ↓fX10_longer_78, ↓fX10_longer_79, ↓fX10_longer_80, ↓fX10_longer_84, ↓fX10_longer_85, ↓fX10_longer_86, ↓fX10_longer_89, ↓fX10_longer_90, ↓fX10_longer_93, ↓fX10_longer_94, ↓fX10_longer_95, ↓fX10_longer_98, ↓fX10_longer_101, ↓fX10_longer_105, ↓fX10_longer_106, ↓fX10_longer_109, ↓fX10_longer_110, ↓fX10_longer_113, ↓e6, h12, and_self, true_and, and_true, false_and, and_false, not_true_eq_false, not_false_eq_true, or_self, true_or, or_true, false_or, or_false, ite_not, Decidable.not_not, decide_eq_true_eq, Bool.not_true, Bool.not_false, Bool.false_eq_true, Bool.not_eq_true, n10, n20, n21, n30, n31, n32, n40, n41, n42, n43, ↓reduceIte]
/-- make -/
theorem make_loop (hm : shM E r m) {n0 : Nat} (hn : n0 ≤ 3) {l1 l2 l3 l4 l5 : Value} {K : Nat} (hK : K = 1824) : ∀ (k n' : Nat), K - n' ≤ k → n' ≤ K → RK MX10_make 106 [.ref m, l1, l2, l3, l4, l5, .int (zi (1824 * (n0 : Int))), .int (zi (n' : Int))] [] (0, 0) (E, zg (wsG G m (n0 : Int) (z0F ρ 0 n')), zk L, r) Q = RK MX10_make 131 [.ref m, l1, l2, l3, l4, l5, .int (zi (1824 * (n0 : Int))), .int (zi (K : Int))] [] (0, 0) (E, zg (wsG G m (n0 : Int) (z0F ρ 0 K)), zk L, r) Q := by
  have m0 := hm.1
  obtain ⟨ka1, la1, ra1⟩ := hm.2.1
  have stop : RK MX10_make 106 [.ref m, l1, l2, l3, l4, l5, .int (zi (1824 * (n0 : Int))), .int (zi (K : Int))] [] (0, 0) (E, zg (wsG G m (n0 : Int) (z0F ρ 0 K)), zk L, r) Q = RK MX10_make 131 [.ref m, l1, l2, l3, l4, l5, .int (zi (1824 * (n0 : Int))), .int (zi (K : Int))] [] (0, 0) (E, zg (wsG G m (n0 : Int) (z0F ρ 0 K)), zk L, r) Q := by
    have h6 : ¬ (K : Int) < 1824 := by omega
    simp (disch := first | assumption | exact c2_int _ | exact c2_ref _ | exact c2_jk | exact c2_null | omega | exact bI_r _ | exact bI_01 _) only [↓fX10_make_0, ↓fX10_make_1, ↓fX10_make_2, ↓fX10_make_3, ↓fX10_make_6, ↓fX10_make_9, ↓fX10_make_12, ↓fX10_make_13, ↓fX10_make_14, ↓fX10_make_15, ↓fX10_make_18, ↓fX10_make_21, ↓fX10_make_24, ↓fX10_make_25, ↓fX10_make_26, ↓fX10_make_27, ↓fX10_make_30, ↓fX10_make_33, ↓fX10_make_36, ↓fX10_make_38, ↓fX10_make_39, ↓fX10_make_42, ↓fX10_make_45, ↓fX10_make_48, ↓fX10_make_51, ↓fX10_make_52, ↓fX10_make_55, ↓fX10_make_56, ↓fX10_make_58, ↓fX10_make_59, ↓fX10_make_61, ↓fX10_make_64, ↓fX10_make_65, ↓fX10_make_68, ↓fX10_make_69, ↓fX10_make_72, ↓fX10_make_73, ↓fX10_make_76, ↓fX10_make_77, ↓fX10_make_80, ↓fX10_make_81, ↓fX10_make_84, ↓fX10_make_87, ↓fX10_make_88, ↓fX10_make_89, ↓fX10_make_90, ↓fX10_make_93, ↓fX10_make_96, ↓fX10_make_97, ↓fX10_make_100, ↓fX10_make_101, ↓fX10_make_103, ↓fX10_make_104, ↓fX10_make_106, ↓fX10_make_108, ↓fX10_make_111, ↓fX10_make_114, ↓fX10_make_115, ↓fX10_make_118, ↓fX10_make_120, ↓fX10_make_122, ↓fX10_make_123, ↓fX10_make_124, ↓fX10_make_125, ↓fX10_make_128, ↓fX10_make_132, ↓fX10_make_135, ↓fX10_make_137, ↓fX10_make_138, ↓fX10_make_139, ↓fX10_make_140, ↓fX10_make_141, ↓fX10_make_142, ↓fX10_make_145, ↓fX10_make_147, ↓fX10_make_148, ↓fX10_make_149, ↓fX10_make_150, ↓fX10_make_151, ↓fX10_make_152, ↓fX10_make_155, ↓fX10_make_157, ↓fX10_make_158, ↓fX10_make_159, ↓fX10_make_160, ↓fX10_make_161, ↓fX10_make_162, ↓fX10_make_165, ↓fX10_make_167, ↓fX10_make_168, ↓fX10_make_169, ↓fX10_make_171, ↓fX10_make_172, ↓fX10_make_173, ↓fX10_make_174, ↓fX10_make_177, ↓fX10_make_178, ↓fX10_make_179, ↓fX10_make_182, ↓fX10_make_183, ↓fX10_make_186, ↓fX10_make_187, ↓fX10_make_188, h6, and_self, true_and, and_true, false_and, and_false, not_true_eq_false, not_false_eq_true, or_self, true_or, or_true, false_or, or_false, ite_not, Decidable.not_not, decide_eq_true_eq, Bool.not_true, Bool.not_false, Bool.false_eq_true, Bool.not_eq_true, n10, n20, n21, n30, n31, n32, n40, n41, n42, n43, ↓reduceIte]
  intro k
  induction k with
  | zero =>
    intro n' h1 h2
    have en : n' = K := by omega
    rw [en]
    exact stop
  | succ k ih =>
    intro n' h1 h2
    by_cases h6 : (n' : Int) < 1824
    · have ew := ws_up (G := G) (m := m) (s := (n0 : Int)) (ρ := z0F ρ 0 n') (v := 0) (by omega) (k := n') (by omega) (q := (1824 * (n0 : Int) + (n' : Int)).toNat) (by omega)
      rw [z0_step (Nat.zero_le _)] at ew
      have ih' := ih (n' + 1) (by omega) (by omega)
      rw [← ew, Int.natCast_add] at ih'
      have ih'' : RK MX10_make 106 [.ref m, l1, l2, l3, l4, l5, .int (zi (1824 * (n0 : Int))), .int (zi ((n' : Int) + 1))] [] (0, 0) _ Q = _ := ih'
      rw [fX10_make_106]
      simp (disch := first | assumption | exact c2_int _ | exact c2_ref _ | exact c2_jk | exact c2_null | omega | exact bI_r _ | exact bI_01 _) only [↓fX10_make_0, ↓fX10_make_1, ↓fX10_make_2, ↓fX10_make_3, ↓fX10_make_6, ↓fX10_make_9, ↓fX10_make_12, ↓fX10_make_13, ↓fX10_make_14, ↓fX10_make_15, ↓fX10_make_18, ↓fX10_make_21, ↓fX10_make_24, ↓fX10_make_25, ↓fX10_make_26, ↓fX10_make_27, ↓fX10_make_30, ↓fX10_make_33, ↓fX10_make_36, ↓fX10_make_38, ↓fX10_make_39, ↓fX10_make_42, ↓fX10_make_45, ↓fX10_make_48, ↓fX10_make_51, ↓fX10_make_52, ↓fX10_make_55, ↓fX10_make_56, ↓fX10_make_58, ↓fX10_make_59, ↓fX10_make_61, ↓fX10_make_64, ↓fX10_make_65, ↓fX10_make_68, ↓fX10_make_69, ↓fX10_make_72, ↓fX10_make_73, ↓fX10_make_76, ↓fX10_make_77, ↓fX10_make_80, ↓fX10_make_81, ↓fX10_make_84, ↓fX10_make_87, ↓fX10_make_88, ↓fX10_make_89, ↓fX10_make_90, ↓fX10_make_93, ↓fX10_make_96, ↓fX10_make_97, ↓fX10_make_100, ↓fX10_make_101, ↓fX10_make_103, ↓fX10_make_104, ↓fX10_make_108, ↓fX10_make_111, ↓fX10_make_114, ↓fX10_make_115, ↓fX10_make_118, ↓fX10_make_120, ↓fX10_make_122, ↓fX10_make_123, ↓fX10_make_124, ↓fX10_make_125, ↓fX10_make_128, ↓fX10_make_132, ↓fX10_make_135, ↓fX10_make_137, ↓fX10_make_138, ↓fX10_make_139, ↓fX10_make_140, ↓fX10_make_141, ↓fX10_make_142, ↓fX10_make_145, ↓fX10_make_147, ↓fX10_make_148, ↓fX10_make_149, ↓fX10_make_150, ↓fX10_make_151, ↓fX10_make_152, ↓fX10_make_155, ↓fX10_make_157, ↓fX10_make_158, ↓fX10_make_159, ↓fX10_make_160, ↓fX10_make_161, ↓fX10_make_162, ↓fX10_make_165, ↓fX10_make_167, ↓fX10_make_168, ↓fX10_make_169, ↓fX10_make_171, ↓fX10_make_172, ↓fX10_make_173, ↓fX10_make_174, ↓fX10_make_177, ↓fX10_make_178, ↓fX10_make_179, ↓fX10_make_182, ↓fX10_make_183, ↓fX10_make_186, ↓fX10_make_187, ↓fX10_make_188, h6, and_self, true_and, and_true, false_and, and_false, not_true_eq_false, not_false_eq_true, or_self, true_or, or_true, false_or, or_false, ite_not, Decidable.not_not, decide_eq_true_eq, Bool.not_true, Bool.not_false, Bool.false_eq_true, Bool.not_eq_true, n10, n20, n21, n30, n31, n32, n40, n41, n42, n43, ↓reduceIte]
      exact ih''
    · have en : n' = K := by omega
      rw [en]
      exact stop
def mkBad (k f b w : Int) : Prop := ¬ ((0 ≤ k ∧ k ≤ 3) ∧ (0 ≤ f ∧ f ≤ 999) ∧ (1 ≤ b ∧ b ≤ 99) ∧ (2 ≤ w ∧ w ≤ 600))
theorem z_make1 (hM : MD E r G m n σ) (hk : I32 k) (hf : I32 f) (hb : I32 b) (hw : I32 w) (c : mkBad k f b w) : RK MX10_make 0 [.ref m, .int (zi k), .int (zi f), .int (zi b), .int (zi w), jk, jk, jk] [] (0, 0) (E, zg G, zk L, r) Q = Q (E, zg (iG G m 1), zk L, r) (.int (zi (-1))) := by
  have hm := hM.1
  have m0 := hm.1
  by_cases c1 : 0 ≤ k ∧ k ≤ 3
  · have z1 : (0 ≤ k ∧ k ≤ 3) = True := eq_true c1
    by_cases c2 : 0 ≤ f ∧ f ≤ 999
    · have z2 : (0 ≤ f ∧ f ≤ 999) = True := eq_true c2
      by_cases c3 : 1 ≤ b ∧ b ≤ 99
      · have z3 : (1 ≤ b ∧ b ≤ 99) = True := eq_true c3
        have c4 : ¬ (2 ≤ w ∧ w ≤ 600) := fun z => c ⟨c1, c2, c3, z⟩
        simp (disch := first | assumption | exact c2_int _ | exact c2_ref _ | exact c2_jk | exact c2_null | omega | exact bI_r _ | exact bI_01 _) only [↓fX10_make_0, ↓fX10_make_1, ↓fX10_make_2, ↓fX10_make_3, ↓fX10_make_6, ↓fX10_make_9, ↓fX10_make_12, ↓fX10_make_13, ↓fX10_make_14, ↓fX10_make_15, ↓fX10_make_18, ↓fX10_make_21, ↓fX10_make_24, ↓fX10_make_25, ↓fX10_make_26, ↓fX10_make_27, ↓fX10_make_30, ↓fX10_make_33, ↓fX10_make_36, ↓fX10_make_38, ↓fX10_make_39, ↓fX10_make_42, ↓fX10_make_45, ↓fX10_make_48, ↓fX10_make_51, ↓fX10_make_52, ↓fX10_make_55, ↓fX10_make_56, ↓fX10_make_58, ↓fX10_make_59, ↓fX10_make_61, ↓fX10_make_64, ↓fX10_make_65, ↓fX10_make_68, ↓fX10_make_69, ↓fX10_make_72, ↓fX10_make_73, ↓fX10_make_76, ↓fX10_make_77, ↓fX10_make_80, ↓fX10_make_81, ↓fX10_make_84, ↓fX10_make_87, ↓fX10_make_88, ↓fX10_make_89, ↓fX10_make_90, ↓fX10_make_93, ↓fX10_make_96, ↓fX10_make_97, ↓fX10_make_100, ↓fX10_make_101, ↓fX10_make_103, ↓fX10_make_104, ↓fX10_make_106, ↓fX10_make_108, ↓fX10_make_111, ↓fX10_make_114, ↓fX10_make_115, ↓fX10_make_118, ↓fX10_make_120, ↓fX10_make_122, ↓fX10_make_123, ↓fX10_make_124, ↓fX10_make_125, ↓fX10_make_128, ↓fX10_make_131, ↓fX10_make_132, ↓fX10_make_135, ↓fX10_make_137, ↓fX10_make_138, ↓fX10_make_139, ↓fX10_make_140, ↓fX10_make_141, ↓fX10_make_142, ↓fX10_make_145, ↓fX10_make_147, ↓fX10_make_148, ↓fX10_make_149, ↓fX10_make_150, ↓fX10_make_151, ↓fX10_make_152, ↓fX10_make_155, ↓fX10_make_157, ↓fX10_make_158, ↓fX10_make_159, ↓fX10_make_160, ↓fX10_make_161, ↓fX10_make_162, ↓fX10_make_165, ↓fX10_make_167, ↓fX10_make_168, ↓fX10_make_169, ↓fX10_make_171, ↓fX10_make_172, ↓fX10_make_173, ↓fX10_make_174, ↓fX10_make_177, ↓fX10_make_178, ↓fX10_make_179, ↓fX10_make_182, ↓fX10_make_183, ↓fX10_make_186, ↓fX10_make_187, ↓fX10_make_188, ↓m_isIn, ↓m_isN, bI_0, z1, z2, z3, c4, and_self, true_and, and_true, false_and, and_false, not_true_eq_false, not_false_eq_true, or_self, true_or, or_true, false_or, or_false, ite_not, Decidable.not_not, decide_eq_true_eq, Bool.not_true, Bool.not_false, Bool.false_eq_true, Bool.not_eq_true, n10, n20, n21, n30, n31, n32, n40, n41, n42, n43, ↓reduceIte]
      · simp (disch := first | assumption | exact c2_int _ | exact c2_ref _ | exact c2_jk | exact c2_null | omega | exact bI_r _ | exact bI_01 _) only [↓fX10_make_0, ↓fX10_make_1, ↓fX10_make_2, ↓fX10_make_3, ↓fX10_make_6, ↓fX10_make_9, ↓fX10_make_12, ↓fX10_make_13, ↓fX10_make_14, ↓fX10_make_15, ↓fX10_make_18, ↓fX10_make_21, ↓fX10_make_24, ↓fX10_make_25, ↓fX10_make_26, ↓fX10_make_27, ↓fX10_make_30, ↓fX10_make_33, ↓fX10_make_36, ↓fX10_make_38, ↓fX10_make_39, ↓fX10_make_42, ↓fX10_make_45, ↓fX10_make_48, ↓fX10_make_51, ↓fX10_make_52, ↓fX10_make_55, ↓fX10_make_56, ↓fX10_make_58, ↓fX10_make_59, ↓fX10_make_61, ↓fX10_make_64, ↓fX10_make_65, ↓fX10_make_68, ↓fX10_make_69, ↓fX10_make_72, ↓fX10_make_73, ↓fX10_make_76, ↓fX10_make_77, ↓fX10_make_80, ↓fX10_make_81, ↓fX10_make_84, ↓fX10_make_87, ↓fX10_make_88, ↓fX10_make_89, ↓fX10_make_90, ↓fX10_make_93, ↓fX10_make_96, ↓fX10_make_97, ↓fX10_make_100, ↓fX10_make_101, ↓fX10_make_103, ↓fX10_make_104, ↓fX10_make_106, ↓fX10_make_108, ↓fX10_make_111, ↓fX10_make_114, ↓fX10_make_115, ↓fX10_make_118, ↓fX10_make_120, ↓fX10_make_122, ↓fX10_make_123, ↓fX10_make_124, ↓fX10_make_125, ↓fX10_make_128, ↓fX10_make_131, ↓fX10_make_132, ↓fX10_make_135, ↓fX10_make_137, ↓fX10_make_138, ↓fX10_make_139, ↓fX10_make_140, ↓fX10_make_141, ↓fX10_make_142, ↓fX10_make_145, ↓fX10_make_147, ↓fX10_make_148, ↓fX10_make_149, ↓fX10_make_150, ↓fX10_make_151, ↓fX10_make_152, ↓fX10_make_155, ↓fX10_make_157, ↓fX10_make_158, ↓fX10_make_159, ↓fX10_make_160, ↓fX10_make_161, ↓fX10_make_162, ↓fX10_make_165, ↓fX10_make_167, ↓fX10_make_168, ↓fX10_make_169, ↓fX10_make_171, ↓fX10_make_172, ↓fX10_make_173, ↓fX10_make_174, ↓fX10_make_177, ↓fX10_make_178, ↓fX10_make_179, ↓fX10_make_182, ↓fX10_make_183, ↓fX10_make_186, ↓fX10_make_187, ↓fX10_make_188, ↓m_isIn, ↓m_isN, bI_0, z1, z2, c3, and_self, true_and, and_true, false_and, and_false, not_true_eq_false, not_false_eq_true, or_self, true_or, or_true, false_or, or_false, ite_not, Decidable.not_not, decide_eq_true_eq, Bool.not_true, Bool.not_false, Bool.false_eq_true, Bool.not_eq_true, n10, n20, n21, n30, n31, n32, n40, n41, n42, n43, ↓reduceIte]
    · simp (disch := first | assumption | exact c2_int _ | exact c2_ref _ | exact c2_jk | exact c2_null | omega | exact bI_r _ | exact bI_01 _) only [↓fX10_make_0, ↓fX10_make_1, ↓fX10_make_2, ↓fX10_make_3, ↓fX10_make_6, ↓fX10_make_9, ↓fX10_make_12, ↓fX10_make_13, ↓fX10_make_14, ↓fX10_make_15, ↓fX10_make_18, ↓fX10_make_21, ↓fX10_make_24, ↓fX10_make_25, ↓fX10_make_26, ↓fX10_make_27, ↓fX10_make_30, ↓fX10_make_33, ↓fX10_make_36, ↓fX10_make_38, ↓fX10_make_39, ↓fX10_make_42, ↓fX10_make_45, ↓fX10_make_48, ↓fX10_make_51, ↓fX10_make_52, ↓fX10_make_55, ↓fX10_make_56, ↓fX10_make_58, ↓fX10_make_59, ↓fX10_make_61, ↓fX10_make_64, ↓fX10_make_65, ↓fX10_make_68, ↓fX10_make_69, ↓fX10_make_72, ↓fX10_make_73, ↓fX10_make_76, ↓fX10_make_77, ↓fX10_make_80, ↓fX10_make_81, ↓fX10_make_84, ↓fX10_make_87, ↓fX10_make_88, ↓fX10_make_89, ↓fX10_make_90, ↓fX10_make_93, ↓fX10_make_96, ↓fX10_make_97, ↓fX10_make_100, ↓fX10_make_101, ↓fX10_make_103, ↓fX10_make_104, ↓fX10_make_106, ↓fX10_make_108, ↓fX10_make_111, ↓fX10_make_114, ↓fX10_make_115, ↓fX10_make_118, ↓fX10_make_120, ↓fX10_make_122, ↓fX10_make_123, ↓fX10_make_124, ↓fX10_make_125, ↓fX10_make_128, ↓fX10_make_131, ↓fX10_make_132, ↓fX10_make_135, ↓fX10_make_137, ↓fX10_make_138, ↓fX10_make_139, ↓fX10_make_140, ↓fX10_make_141, ↓fX10_make_142, ↓fX10_make_145, ↓fX10_make_147, ↓fX10_make_148, ↓fX10_make_149, ↓fX10_make_150, ↓fX10_make_151, ↓fX10_make_152, ↓fX10_make_155, ↓fX10_make_157, ↓fX10_make_158, ↓fX10_make_159, ↓fX10_make_160, ↓fX10_make_161, ↓fX10_make_162, ↓fX10_make_165, ↓fX10_make_167, ↓fX10_make_168, ↓fX10_make_169, ↓fX10_make_171, ↓fX10_make_172, ↓fX10_make_173, ↓fX10_make_174, ↓fX10_make_177, ↓fX10_make_178, ↓fX10_make_179, ↓fX10_make_182, ↓fX10_make_183, ↓fX10_make_186, ↓fX10_make_187, ↓fX10_make_188, ↓m_isIn, ↓m_isN, bI_0, z1, c2, and_self, true_and, and_true, false_and, and_false, not_true_eq_false, not_false_eq_true, or_self, true_or, or_true, false_or, or_false, ite_not, Decidable.not_not, decide_eq_true_eq, Bool.not_true, Bool.not_false, Bool.false_eq_true, Bool.not_eq_true, n10, n20, n21, n30, n31, n32, n40, n41, n42, n43, ↓reduceIte]
  · simp (disch := first | assumption | exact c2_int _ | exact c2_ref _ | exact c2_jk | exact c2_null | omega | exact bI_r _ | exact bI_01 _) only [↓fX10_make_0, ↓fX10_make_1, ↓fX10_make_2, ↓fX10_make_3, ↓fX10_make_6, ↓fX10_make_9, ↓fX10_make_12, ↓fX10_make_13, ↓fX10_make_14, ↓fX10_make_15, ↓fX10_make_18, ↓fX10_make_21, ↓fX10_make_24, ↓fX10_make_25, ↓fX10_make_26, ↓fX10_make_27, ↓fX10_make_30, ↓fX10_make_33, ↓fX10_make_36, ↓fX10_make_38, ↓fX10_make_39, ↓fX10_make_42, ↓fX10_make_45, ↓fX10_make_48, ↓fX10_make_51, ↓fX10_make_52, ↓fX10_make_55, ↓fX10_make_56, ↓fX10_make_58, ↓fX10_make_59, ↓fX10_make_61, ↓fX10_make_64, ↓fX10_make_65, ↓fX10_make_68, ↓fX10_make_69, ↓fX10_make_72, ↓fX10_make_73, ↓fX10_make_76, ↓fX10_make_77, ↓fX10_make_80, ↓fX10_make_81, ↓fX10_make_84, ↓fX10_make_87, ↓fX10_make_88, ↓fX10_make_89, ↓fX10_make_90, ↓fX10_make_93, ↓fX10_make_96, ↓fX10_make_97, ↓fX10_make_100, ↓fX10_make_101, ↓fX10_make_103, ↓fX10_make_104, ↓fX10_make_106, ↓fX10_make_108, ↓fX10_make_111, ↓fX10_make_114, ↓fX10_make_115, ↓fX10_make_118, ↓fX10_make_120, ↓fX10_make_122, ↓fX10_make_123, ↓fX10_make_124, ↓fX10_make_125, ↓fX10_make_128, ↓fX10_make_131, ↓fX10_make_132, ↓fX10_make_135, ↓fX10_make_137, ↓fX10_make_138, ↓fX10_make_139, ↓fX10_make_140, ↓fX10_make_141, ↓fX10_make_142, ↓fX10_make_145, ↓fX10_make_147, ↓fX10_make_148, ↓fX10_make_149, ↓fX10_make_150, ↓fX10_make_151, ↓fX10_make_152, ↓fX10_make_155, ↓fX10_make_157, ↓fX10_make_158, ↓fX10_make_159, ↓fX10_make_160, ↓fX10_make_161, ↓fX10_make_162, ↓fX10_make_165, ↓fX10_make_167, ↓fX10_make_168, ↓fX10_make_169, ↓fX10_make_171, ↓fX10_make_172, ↓fX10_make_173, ↓fX10_make_174, ↓fX10_make_177, ↓fX10_make_178, ↓fX10_make_179, ↓fX10_make_182, ↓fX10_make_183, ↓fX10_make_186, ↓fX10_make_187, ↓fX10_make_188, ↓m_isIn, ↓m_isN, bI_0, c1, and_self, true_and, and_true, false_and, and_false, not_true_eq_false, not_false_eq_true, or_self, true_or, or_true, false_or, or_false, ite_not, Decidable.not_not, decide_eq_true_eq, Bool.not_true, Bool.not_false, Bool.false_eq_true, Bool.not_eq_true, n10, n20, n21, n30, n31, n32, n40, n41, n42, n43, ↓reduceIte]
theorem z_make3 (hM : MD E r G m 4 σ) (c1 : 0 ≤ k ∧ k ≤ 3) (c2 : 0 ≤ f ∧ f ≤ 999) (c3 : 1 ≤ b ∧ b ≤ 99) (c4 : 2 ≤ w ∧ w ≤ 600) : RK MX10_make 0 [.ref m, .int (zi k), .int (zi f), .int (zi b), .int (zi w), jk, jk, jk] [] (0, 0) (E, zg G, zk L, r) Q = Q (E, zg (iG G m 3), zk L, r) (.int (zi (-1))) := by
  have hm := hM.1
  have m0 := hm.1
  have h6 : G m 6 = 4 := hM.2.1.1
  have z1 : (0 ≤ k ∧ k ≤ 3) = True := eq_true c1
  have z2 : (0 ≤ f ∧ f ≤ 999) = True := eq_true c2
  have z3 : (1 ≤ b ∧ b ≤ 99) = True := eq_true c3
  have z4 : (2 ≤ w ∧ w ≤ 600) = True := eq_true c4
  simp (disch := first | assumption | exact c2_int _ | exact c2_ref _ | exact c2_jk | exact c2_null | omega | exact bI_r _ | exact bI_01 _) only [↓fX10_make_0, ↓fX10_make_1, ↓fX10_make_2, ↓fX10_make_3, ↓fX10_make_6, ↓fX10_make_9, ↓fX10_make_12, ↓fX10_make_13, ↓fX10_make_14, ↓fX10_make_15, ↓fX10_make_18, ↓fX10_make_21, ↓fX10_make_24, ↓fX10_make_25, ↓fX10_make_26, ↓fX10_make_27, ↓fX10_make_30, ↓fX10_make_33, ↓fX10_make_36, ↓fX10_make_38, ↓fX10_make_39, ↓fX10_make_42, ↓fX10_make_45, ↓fX10_make_48, ↓fX10_make_51, ↓fX10_make_52, ↓fX10_make_55, ↓fX10_make_56, ↓fX10_make_58, ↓fX10_make_59, ↓fX10_make_61, ↓fX10_make_64, ↓fX10_make_65, ↓fX10_make_68, ↓fX10_make_69, ↓fX10_make_72, ↓fX10_make_73, ↓fX10_make_76, ↓fX10_make_77, ↓fX10_make_80, ↓fX10_make_81, ↓fX10_make_84, ↓fX10_make_87, ↓fX10_make_88, ↓fX10_make_89, ↓fX10_make_90, ↓fX10_make_93, ↓fX10_make_96, ↓fX10_make_97, ↓fX10_make_100, ↓fX10_make_101, ↓fX10_make_103, ↓fX10_make_104, ↓fX10_make_106, ↓fX10_make_108, ↓fX10_make_111, ↓fX10_make_114, ↓fX10_make_115, ↓fX10_make_118, ↓fX10_make_120, ↓fX10_make_122, ↓fX10_make_123, ↓fX10_make_124, ↓fX10_make_125, ↓fX10_make_128, ↓fX10_make_131, ↓fX10_make_132, ↓fX10_make_135, ↓fX10_make_137, ↓fX10_make_138, ↓fX10_make_139, ↓fX10_make_140, ↓fX10_make_141, ↓fX10_make_142, ↓fX10_make_145, ↓fX10_make_147, ↓fX10_make_148, ↓fX10_make_149, ↓fX10_make_150, ↓fX10_make_151, ↓fX10_make_152, ↓fX10_make_155, ↓fX10_make_157, ↓fX10_make_158, ↓fX10_make_159, ↓fX10_make_160, ↓fX10_make_161, ↓fX10_make_162, ↓fX10_make_165, ↓fX10_make_167, ↓fX10_make_168, ↓fX10_make_169, ↓fX10_make_171, ↓fX10_make_172, ↓fX10_make_173, ↓fX10_make_174, ↓fX10_make_177, ↓fX10_make_178, ↓fX10_make_179, ↓fX10_make_182, ↓fX10_make_183, ↓fX10_make_186, ↓fX10_make_187, ↓fX10_make_188, ↓m_isIn, ↓m_isN, bI_0, z1, z2, z3, z4, h6, and_self, true_and, and_true, false_and, and_false, not_true_eq_false, not_false_eq_true, or_self, true_or, or_true, false_or, or_false, ite_not, Decidable.not_not, decide_eq_true_eq, Bool.not_true, Bool.not_false, Bool.false_eq_true, Bool.not_eq_true, n10, n20, n21, n30, n31, n32, n40, n41, n42, n43, ↓reduceIte]
theorem z_make (hM : MD E r G m n σ) (hP : PM G m a N Sg) (hn : n < 4) (c1 : 0 ≤ k ∧ k ≤ 3) (c2 : 0 ≤ f ∧ f ≤ 999) (c3 : 1 ≤ b ∧ b ≤ 99) (c4 : 2 ≤ w ∧ w ≤ 600) : ∃ G', MD E r G' m (n + 1) (fun t => if t = n then nwS k f b w 0 (fun _ => 0) else σ t) ∧ PM G' m (kpA a) (kpN a N n) (kpN a Sg σ) ∧ G' m 0 = 0 ∧ frM G G' m ∧ ∀ Q, RK MX10_make 0 [.ref m, .int (zi k), .int (zi f), .int (zi b), .int (zi w), jk, jk, jk] [] (0, 0) (E, zg G, zk L, r) Q = Q (E, zg G', zk L, r) (.int (zi (n : Int))) := by
  have hm := hM.1
  have m0 := hm.1
  have h6 := hM.2.1
  obtain ⟨ka1, la1, ra1⟩ := hm.2.1
  have hM2 := MD_lk hM (lkM_i (y := 0))
  obtain ⟨G3, f1, f2, P3, e3⟩ := m_remembers (L := L) hM2 (PM_lk hP (lkM_i (y := 0)))
  have M3 := MD_rem hM2 f1 f2
  have g6 : G3 m 6 = n := M3.2.1.1
  obtain ⟨K, hK⟩ : ∃ K : Nat, K = 1824 := ⟨_, rfl⟩
  have hl0 : SL G3 m (n : Int) (fun j => G3 (m + 1) (1824 * n + j)) := fun j hj => by
    show G3 (m + 1) (1824 * (n : Int) + (j : Int)).toNat = G3 (m + 1) (1824 * n + j)
    rw [show (1824 * (n : Int) + (j : Int)).toNat = 1824 * n + j by omega]
  generalize hρ : (fun j => G3 (m + 1) (1824 * n + j)) = ρ0 at hl0
  have lp := fun Q => make_loop (G := G3) (L := L) (ρ := ρ0) (Q := Q) (l1 := .int (zi k)) (l2 := .int (zi f)) (l3 := .int (zi b)) (l4 := .int (zi w)) (l5 := .int (zi 1)) hm (n0 := n) (by omega) hK K 0 (by omega) (by omega)
  rw [z0_0, ws_id (by omega) hl0] at lp
  have v0 := ws_up (G := G3) (m := m) (s := (n : Int)) (ρ := z0F ρ0 0 K) (v := k) (by omega) (k := 0) (by decide) (q := (1824 * (n : Int) + 0).toNat) (by omega)
  have v1 := ws_up (G := G3) (m := m) (s := (n : Int)) (ρ := upF (z0F ρ0 0 K) 0 k) (v := f) (by omega) (k := 1) (by decide) (q := (1824 * (n : Int) + 1).toNat) (by omega)
  have v2 := ws_up (G := G3) (m := m) (s := (n : Int)) (ρ := upF (upF (z0F ρ0 0 K) 0 k) 1 f) (v := b) (by omega) (k := 2) (by decide) (q := (1824 * (n : Int) + 2).toNat) (by omega)
  have v3 := ws_up (G := G3) (m := m) (s := (n : Int)) (ρ := upF (upF (upF (z0F ρ0 0 K) 0 k) 1 f) 2 b) (v := w) (by omega) (k := 3) (by decide) (q := (1824 * (n : Int) + 3).toNat) (by omega)
  have hlN : SL (wsG G3 m (n : Int) (upF (upF (upF (upF (z0F ρ0 0 K) 0 k) 1 f) 2 b) 3 w)) m (n : Int) (nwS k f b w 0 (fun _ => 0)) := SL_cg (ws_SL (by omega)) fun j hj => by
    simp only [upF, z0F, nwS]
    by_cases j3 : j = 3
    · subst j3
      rw [if_pos rfl, if_neg (by decide), if_neg (by decide), if_neg (by decide), if_pos rfl]
    · rw [if_neg j3]
      by_cases j2 : j = 2
      · subst j2
        rw [if_pos rfl, if_neg (by decide), if_neg (by decide), if_pos rfl]
      · rw [if_neg j2]
        by_cases j1 : j = 1
        · subst j1
          rw [if_pos rfl, if_neg (by decide), if_pos rfl]
        · rw [if_neg j1]
          by_cases j0 : j = 0
          · rw [if_pos j0, if_pos j0]
          · rw [if_neg j0, if_pos (by omega), if_neg j0, if_neg j1, if_neg j2, if_neg j3]
            split
            · rfl
            · split <;> rfl
  generalize hG4 : wsG G3 m (n : Int) (upF (upF (upF (upF (z0F ρ0 0 K) 0 k) 1 f) 2 b) 3 w) = G4 at v3 hlN
  have k4 : KW G3 G4 m (n : Int) := by
    rw [← hG4]
    exact KW_ws
  have g46 : G4 m 6 = n := by rw [k4.2.1 6 (by decide), g6]
  have z1 : (0 ≤ k ∧ k ≤ 3) = True := eq_true c1
  have z2 : (0 ≤ f ∧ f ≤ 999) = True := eq_true c2
  have z3 : (1 ≤ b ∧ b ≤ 99) = True := eq_true c3
  have z4 : (2 ≤ w ∧ w ≤ 600) = True := eq_true c4
  have h64 : ¬ G m 6 = 4 := by omega
  have gI : I32 (G m 6) := by omega
  have wN : WF (nwS k f b w 0 (fun _ => 0)) := nwS_WF (by omega) c2 c3 c4 (fun z => by omega) (fun z => by omega)
  refine ⟨u2 G4 m 6 ((n : Int) + 1), ⟨hm, ⟨by rw [u2_s]; omega, by omega⟩, fun t ht => ?_⟩, ?_, ?_, (((frM_lk (lkM_i (y := 0))).trans (frM_rem f1 f2)).trans (frM_KW k4)).trans (frM_u (by omega)), fun Q => ?_⟩
  · by_cases z : t = n
    · simp only [z, if_true]
      exact ⟨SL_c hlN (u2_a _ _ _ _ (by omega)), wN⟩
    · simp only [z, if_false]
      exact ⟨SL_c (KW_SL k4 (by omega) (by omega) (by omega) (M3.2.2 t (by omega)).1) (u2_a _ _ _ _ (by omega)), (M3.2.2 t (by omega)).2⟩
  · exact PM_c (PM_KW P3 k4) (u2_a _ _ _ _ (by omega)) (u2_a _ _ _ _ (by omega)) (u2_i _ _ _ _ (by decide))
  · rw [u2_i _ _ _ _ (by decide), k4.2.1 0 (by decide), f2 0 (by decide), iG_0]
  · have lp' : ∀ Q, RK MX10_make 106 [.ref m, .int (zi k), .int (zi f), .int (zi b), .int (zi w), .int (zi 1), .int (zi (1824 * (n : Int))), .int (zi 0)] [] (0, 0) (E, zg G3, zk L, r) Q = _ := lp
    have e66 : u2 G4 m 6 ((n : Int) + 1) m 6 = (n : Int) + 1 := u2_s _ _ _ _
    have e9 : (n : Int) + 1 - 1 = n := by omega
    simp (disch := first | assumption | exact c2_int _ | exact c2_ref _ | exact c2_jk | exact c2_null | omega | exact bI_r _ | exact bI_01 _) only [↓fX10_make_0, ↓fX10_make_1, ↓fX10_make_2, ↓fX10_make_3, ↓fX10_make_6, ↓fX10_make_9, ↓fX10_make_12, ↓fX10_make_13, ↓fX10_make_14, ↓fX10_make_15, ↓fX10_make_18, ↓fX10_make_21, ↓fX10_make_24, ↓fX10_make_25, ↓fX10_make_26, ↓fX10_make_27, ↓fX10_make_30, ↓fX10_make_33, ↓fX10_make_36, ↓fX10_make_38, ↓fX10_make_39, ↓fX10_make_42, ↓fX10_make_45, ↓fX10_make_48, ↓fX10_make_51, ↓fX10_make_52, ↓fX10_make_55, ↓fX10_make_56, ↓fX10_make_58, ↓fX10_make_59, ↓fX10_make_61, ↓fX10_make_64, ↓fX10_make_65, ↓fX10_make_68, ↓fX10_make_69, ↓fX10_make_72, ↓fX10_make_73, ↓fX10_make_76, ↓fX10_make_77, ↓fX10_make_80, ↓fX10_make_81, ↓fX10_make_84, ↓fX10_make_87, ↓fX10_make_88, ↓fX10_make_89, ↓fX10_make_90, ↓fX10_make_93, ↓fX10_make_96, ↓fX10_make_97, ↓fX10_make_100, ↓fX10_make_101, ↓fX10_make_103, ↓fX10_make_104, ↓fX10_make_108, ↓fX10_make_111, ↓fX10_make_114, ↓fX10_make_115, ↓fX10_make_118, ↓fX10_make_120, ↓fX10_make_122, ↓fX10_make_123, ↓fX10_make_124, ↓fX10_make_125, ↓fX10_make_128, ↓fX10_make_132, ↓fX10_make_135, ↓fX10_make_137, ↓fX10_make_138, ↓fX10_make_139, ↓fX10_make_140, ↓fX10_make_141, ↓fX10_make_142, ↓fX10_make_145, ↓fX10_make_147, ↓fX10_make_148, ↓fX10_make_149, ↓fX10_make_150, ↓fX10_make_151, ↓fX10_make_152, ↓fX10_make_155, ↓fX10_make_157, ↓fX10_make_158, ↓fX10_make_159, ↓fX10_make_160, ↓fX10_make_161, ↓fX10_make_162, ↓fX10_make_165, ↓fX10_make_167, ↓fX10_make_168, ↓fX10_make_169, ↓fX10_make_171, ↓fX10_make_172, ↓fX10_make_173, ↓fX10_make_174, ↓fX10_make_177, ↓fX10_make_178, ↓fX10_make_179, ↓fX10_make_182, ↓fX10_make_183, ↓fX10_make_186, ↓fX10_make_187, ↓fX10_make_188, ↓m_isIn, ↓m_is0, bI_0, z1, z2, z3, z4, h64, ↓e3, g6, ↓lp', and_self, true_and, and_true, false_and, and_false, not_true_eq_false, not_false_eq_true, or_self, true_or, or_true, false_or, or_false, ite_not, Decidable.not_not, decide_eq_true_eq, Bool.not_true, Bool.not_false, Bool.false_eq_true, Bool.not_eq_true, n10, n20, n21, n30, n31, n32, n40, n41, n42, n43, ↓reduceIte]
    rw [fX10_make_131]
    simp (disch := first | assumption | exact c2_int _ | exact c2_ref _ | exact c2_jk | exact c2_null | omega | exact bI_r _ | exact bI_01 _) only [↓fX10_make_0, ↓fX10_make_1, ↓fX10_make_2, ↓fX10_make_3, ↓fX10_make_6, ↓fX10_make_9, ↓fX10_make_12, ↓fX10_make_13, ↓fX10_make_14, ↓fX10_make_15, ↓fX10_make_18, ↓fX10_make_21, ↓fX10_make_24, ↓fX10_make_25, ↓fX10_make_26, ↓fX10_make_27, ↓fX10_make_30, ↓fX10_make_33, ↓fX10_make_36, ↓fX10_make_38, ↓fX10_make_39, ↓fX10_make_42, ↓fX10_make_45, ↓fX10_make_48, ↓fX10_make_51, ↓fX10_make_52, ↓fX10_make_55, ↓fX10_make_56, ↓fX10_make_58, ↓fX10_make_59, ↓fX10_make_61, ↓fX10_make_64, ↓fX10_make_65, ↓fX10_make_68, ↓fX10_make_69, ↓fX10_make_72, ↓fX10_make_73, ↓fX10_make_76, ↓fX10_make_77, ↓fX10_make_80, ↓fX10_make_81, ↓fX10_make_84, ↓fX10_make_87, ↓fX10_make_88, ↓fX10_make_89, ↓fX10_make_90, ↓fX10_make_93, ↓fX10_make_96, ↓fX10_make_97, ↓fX10_make_100, ↓fX10_make_101, ↓fX10_make_103, ↓fX10_make_104, ↓fX10_make_108, ↓fX10_make_111, ↓fX10_make_114, ↓fX10_make_115, ↓fX10_make_118, ↓fX10_make_120, ↓fX10_make_122, ↓fX10_make_123, ↓fX10_make_124, ↓fX10_make_125, ↓fX10_make_128, ↓fX10_make_132, ↓fX10_make_135, ↓fX10_make_137, ↓fX10_make_138, ↓fX10_make_139, ↓fX10_make_140, ↓fX10_make_141, ↓fX10_make_142, ↓fX10_make_145, ↓fX10_make_147, ↓fX10_make_148, ↓fX10_make_149, ↓fX10_make_150, ↓fX10_make_151, ↓fX10_make_152, ↓fX10_make_155, ↓fX10_make_157, ↓fX10_make_158, ↓fX10_make_159, ↓fX10_make_160, ↓fX10_make_161, ↓fX10_make_162, ↓fX10_make_165, ↓fX10_make_167, ↓fX10_make_168, ↓fX10_make_169, ↓fX10_make_171, ↓fX10_make_172, ↓fX10_make_173, ↓fX10_make_174, ↓fX10_make_177, ↓fX10_make_178, ↓fX10_make_179, ↓fX10_make_182, ↓fX10_make_183, ↓fX10_make_186, ↓fX10_make_187, ↓fX10_make_188, v0, v1, v2, v3, g46, e66, e9, and_self, true_and, and_true, false_and, and_false, not_true_eq_false, not_false_eq_true, or_self, true_or, or_true, false_or, or_false, ite_not, Decidable.not_not, decide_eq_true_eq, Bool.not_true, Bool.not_false, Bool.false_eq_true, Bool.not_eq_true, n10, n20, n21, n30, n31, n32, n40, n41, n42, n43, ↓reduceIte]
/-- drop -/
theorem drop_loop (hm : shM E r m) {n0 : Nat} (hn : n0 ≤ 3) {l1 : Value} (hl1 : c2 l1 = false) {A : Nat} : ∀ (k d' : Nat), 1824 * n0 - (A + d') ≤ k → A + d' ≤ 1824 * n0 → G m 6 = n0 → RK MX10_drop 42 [.ref m, l1, .int (zi ((A + d' : Nat) : Int))] [] (0, 0) (E, zg (cpG1 G (m + 1) (m + 1) A (A + 1824) d'), zk L, r) Q = RK MX10_drop 76 [.ref m, l1, .int (zi ((1824 * n0 : Nat) : Int))] [] (0, 0) (E, zg (cpG1 G (m + 1) (m + 1) A (A + 1824) (1824 * n0 - A)), zk L, r) Q := by
  have m0 := hm.1
  obtain ⟨ka1, la1, ra1⟩ := hm.2.1
  intro k
  have stop : ∀ d', A + d' = 1824 * n0 → G m 6 = n0 → RK MX10_drop 42 [.ref m, l1, .int (zi ((A + d' : Nat) : Int))] [] (0, 0) (E, zg (cpG1 G (m + 1) (m + 1) A (A + 1824) d'), zk L, r) Q = RK MX10_drop 76 [.ref m, l1, .int (zi ((1824 * n0 : Nat) : Int))] [] (0, 0) (E, zg (cpG1 G (m + 1) (m + 1) A (A + 1824) (1824 * n0 - A)), zk L, r) Q := by
    intro d' h1 h6
    have e6 : cpG1 G (m + 1) (m + 1) A (A + 1824) d' m 6 = n0 := by rw [cpG1_q (by omega), h6]
    have h7 : ¬ ((A + d' : Nat) : Int) < 1824 * (n0 : Int) := by omega
    rw [← h1, show A + d' - A = d' by omega]
    simp (disch := first | assumption | exact c2_int _ | exact c2_ref _ | exact c2_jk | exact c2_null | omega | exact bI_r _ | exact bI_01 _) only [↓fX10_drop_0, ↓fX10_drop_1, ↓fX10_drop_2, ↓fX10_drop_3, ↓fX10_drop_6, ↓fX10_drop_9, ↓fX10_drop_10, ↓fX10_drop_13, ↓fX10_drop_14, ↓fX10_drop_17, ↓fX10_drop_20, ↓fX10_drop_21, ↓fX10_drop_22, ↓fX10_drop_23, ↓fX10_drop_26, ↓fX10_drop_27, ↓fX10_drop_28, ↓fX10_drop_31, ↓fX10_drop_32, ↓fX10_drop_33, ↓fX10_drop_36, ↓fX10_drop_39, ↓fX10_drop_40, ↓fX10_drop_41, ↓fX10_drop_42, ↓fX10_drop_43, ↓fX10_drop_46, ↓fX10_drop_47, ↓fX10_drop_50, ↓fX10_drop_51, ↓fX10_drop_54, ↓fX10_drop_55, ↓fX10_drop_58, ↓fX10_drop_59, ↓fX10_drop_60, ↓fX10_drop_63, ↓fX10_drop_64, ↓fX10_drop_67, ↓fX10_drop_68, ↓fX10_drop_69, ↓fX10_drop_70, ↓fX10_drop_73, ↓fX10_drop_77, ↓fX10_drop_80, e6, h7, and_self, true_and, and_true, false_and, and_false, not_true_eq_false, not_false_eq_true, or_self, true_or, or_true, false_or, or_false, ite_not, Decidable.not_not, decide_eq_true_eq, Bool.not_true, Bool.not_false, Bool.false_eq_true, Bool.not_eq_true, n10, n20, n21, n30, n31, n32, n40, n41, n42, n43, ↓reduceIte]
  induction k with
  | zero =>
    intro d' h1 h2 h6
    exact stop d' (by omega) h6
  | succ k ih =>
    intro d' h1 h2 h6
    by_cases h7 : A + d' < 1824 * n0
    · have e6 : cpG1 G (m + 1) (m + 1) A (A + 1824) d' m 6 = n0 := by rw [cpG1_q (by omega), h6]
      have h8 : ((A + d' : Nat) : Int) < 1824 * (n0 : Int) := by omega
      have er : cpG1 G (m + 1) (m + 1) A (A + 1824) d' (m + 1) (((A + d' : Nat) : Int) + 1824).toNat = G (m + 1) (A + 1824 + d') := by
        rw [cpG1_i, if_neg (by omega), show (((A + d' : Nat) : Int) + 1824).toNat = A + 1824 + d' by omega]
      have ew : u2 (cpG1 G (m + 1) (m + 1) A (A + 1824) d') (m + 1) ((A + d' : Nat) : Int).toNat (G (m + 1) (A + 1824 + d')) = cpG1 G (m + 1) (m + 1) A (A + 1824) (d' + 1) := by
        rw [Int.toNat_natCast]
        exact cp_step
      have ih' := ih (d' + 1) (by omega) (by omega) h6
      rw [← ew] at ih'
      have ec : ((A + (d' + 1) : Nat) : Int) = ((A + d' : Nat) : Int) + 1 := by omega
      rw [ec] at ih'
      have hb : 0 ≤ ((A + d' : Nat) : Int) ∧ ((A + d' : Nat) : Int) < 5472 := by omega
      clear stop ih h1 h2 h7 ew ec
      generalize ((A + d' : Nat) : Int) = y at ih' er h8 hb ⊢
      rw [fX10_drop_42]
      simp (disch := first | assumption | exact c2_int _ | exact c2_ref _ | exact c2_jk | exact c2_null | omega | exact bI_r _ | exact bI_01 _) only [↓fX10_drop_0, ↓fX10_drop_1, ↓fX10_drop_2, ↓fX10_drop_3, ↓fX10_drop_6, ↓fX10_drop_9, ↓fX10_drop_10, ↓fX10_drop_13, ↓fX10_drop_14, ↓fX10_drop_17, ↓fX10_drop_20, ↓fX10_drop_21, ↓fX10_drop_22, ↓fX10_drop_23, ↓fX10_drop_26, ↓fX10_drop_27, ↓fX10_drop_28, ↓fX10_drop_31, ↓fX10_drop_32, ↓fX10_drop_33, ↓fX10_drop_36, ↓fX10_drop_39, ↓fX10_drop_40, ↓fX10_drop_41, ↓fX10_drop_43, ↓fX10_drop_46, ↓fX10_drop_47, ↓fX10_drop_50, ↓fX10_drop_51, ↓fX10_drop_54, ↓fX10_drop_55, ↓fX10_drop_58, ↓fX10_drop_59, ↓fX10_drop_60, ↓fX10_drop_63, ↓fX10_drop_64, ↓fX10_drop_67, ↓fX10_drop_68, ↓fX10_drop_69, ↓fX10_drop_70, ↓fX10_drop_73, ↓fX10_drop_77, ↓fX10_drop_80, e6, er, h8, and_self, true_and, and_true, false_and, and_false, not_true_eq_false, not_false_eq_true, or_self, true_or, or_true, false_or, or_false, ite_not, Decidable.not_not, decide_eq_true_eq, Bool.not_true, Bool.not_false, Bool.false_eq_true, Bool.not_eq_true, n10, n20, n21, n30, n31, n32, n40, n41, n42, n43, ↓reduceIte]
      exact ih'
    · exact stop d' (by omega) h6
theorem z_drop2 (hM : MD E r G m n σ) (hs : I32 s) (c : ¬ (0 ≤ s ∧ s < n)) : RK MX10_drop 0 [.ref m, .int (zi s), jk] [] (0, 0) (E, zg G, zk L, r) Q = Q (E, zg (iG G m 2), zk L, r) (.int (zi (-1))) := by
  have hm := hM.1
  have m0 := hm.1
  have eS := fun Q => m_isS0 (L := L) (Q := Q) hM hs c
  simp (disch := first | assumption | exact c2_int _ | exact c2_ref _ | exact c2_jk | exact c2_null | omega | exact bI_r _ | exact bI_01 _) only [↓fX10_drop_0, ↓fX10_drop_1, ↓fX10_drop_2, ↓fX10_drop_3, ↓fX10_drop_6, ↓fX10_drop_9, ↓fX10_drop_10, ↓fX10_drop_13, ↓fX10_drop_14, ↓fX10_drop_17, ↓fX10_drop_20, ↓fX10_drop_21, ↓fX10_drop_22, ↓fX10_drop_23, ↓fX10_drop_26, ↓fX10_drop_27, ↓fX10_drop_28, ↓fX10_drop_31, ↓fX10_drop_32, ↓fX10_drop_33, ↓fX10_drop_36, ↓fX10_drop_39, ↓fX10_drop_40, ↓fX10_drop_41, ↓fX10_drop_42, ↓fX10_drop_43, ↓fX10_drop_46, ↓fX10_drop_47, ↓fX10_drop_50, ↓fX10_drop_51, ↓fX10_drop_54, ↓fX10_drop_55, ↓fX10_drop_58, ↓fX10_drop_59, ↓fX10_drop_60, ↓fX10_drop_63, ↓fX10_drop_64, ↓fX10_drop_67, ↓fX10_drop_68, ↓fX10_drop_69, ↓fX10_drop_70, ↓fX10_drop_73, ↓fX10_drop_76, ↓fX10_drop_77, ↓fX10_drop_80, ↓eS, ↓m_isN, and_self, true_and, and_true, false_and, and_false, not_true_eq_false, not_false_eq_true, or_self, true_or, or_true, false_or, or_false, ite_not, Decidable.not_not, decide_eq_true_eq, Bool.not_true, Bool.not_false, Bool.false_eq_true, Bool.not_eq_true, n10, n20, n21, n30, n31, n32, n40, n41, n42, n43, ↓reduceIte]
theorem z_drop (hM : MD E r G m n σ) (hP : PM G m a N Sg) (c : 0 ≤ s ∧ s < n) : ∃ G', MD E r G' m (n - 1) (rmS σ s.toNat) ∧ PM G' m (kpA a) (kpN a N n) (kpN a Sg σ) ∧ G' m 0 = 0 ∧ frM G G' m ∧ ∀ Q, RK MX10_drop 0 [.ref m, .int (zi s), jk] [] (0, 0) (E, zg G, zk L, r) Q = Q (E, zg G', zk L, r) (.int (zi ((n : Int) - 1))) := by
  have hm := hM.1
  have m0 := hm.1
  have h6 := hM.2.1
  have eS := fun Q => m_isS1 (L := L) (Q := Q) hM c
  have hM2 := MD_lk hM (lkM_i (y := 0))
  obtain ⟨G3, f1, f2, P3, e3⟩ := m_remembers (L := L) hM2 (PM_lk hP (lkM_i (y := 0)))
  have M3 := MD_rem hM2 f1 f2
  have g6 : G3 m 6 = n := M3.2.1.1
  let G4 : Nat → Nat → Int := u2 G3 m 6 ((n : Int) - 1)
  have g46 : G4 m 6 = ((n - 1 : Nat) : Int) := (u2_s _ _ _ _).trans (by omega)
  have q4 : ∀ x, x ≠ m → G4 x = G3 x := fun x hx => u2_a _ _ _ _ hx
  have lp := fun Q => drop_loop (G := G4) (L := L) (Q := Q) (l1 := .int (zi s)) hm (n0 := n - 1) (by omega) (c2_int _) (A := 1824 * s.toNat) (1824 * (n - 1)) 0 (by omega) (by omega) g46
  rw [cp_0] at lp
  let G5 : Nat → Nat → Int := cpG1 G4 (m + 1) (m + 1) (1824 * s.toNat) (1824 * s.toNat + 1824) (1824 * (n - 1) - 1824 * s.toNat)
  have q5 : ∀ x, x ≠ m + 1 → G5 x = G4 x := fun x hx => cpG1_q hx
  have i5 : ∀ j, G5 (m + 1) j = if 1824 * s.toNat ≤ j ∧ j < 1824 * s.toNat + (1824 * (n - 1) - 1824 * s.toNat) then G4 (m + 1) (1824 * s.toNat + 1824 + (j - 1824 * s.toNat)) else G4 (m + 1) j := fun j => cpG1_i
  refine ⟨G5, ⟨hm, ⟨by rw [q5 m (by omega)]; exact g46, by omega⟩, fun t ht => ?_⟩, ?_, ?_, ?_, fun Q => ?_⟩
  · unfold rmS
    by_cases z : t < s.toNat
    · rw [if_pos z]
      refine ⟨fun j hj => ?_, (M3.2.2 t (by omega)).2⟩
      rw [i5, if_neg (by omega), q4 _ (by omega)]
      exact (M3.2.2 t (by omega)).1 j hj
    · rw [if_neg z]
      refine ⟨fun j hj => ?_, (M3.2.2 (t + 1) (by omega)).2⟩
      rw [i5, if_pos (by omega), q4 _ (by omega), ← (M3.2.2 (t + 1) (by omega)).1 j hj]
      rw [show 1824 * s.toNat + 1824 + ((1824 * (t : Int) + (j : Int)).toNat - 1824 * s.toNat) = (1824 * ((t + 1 : Nat) : Int) + (j : Int)).toNat by omega]
  · exact PM_c P3 (by rw [q5 _ (by omega), q4 _ (by omega)]) (by rw [q5 _ (by omega), q4 _ (by omega)]) (by rw [q5 m (by omega)]; exact u2_i _ _ _ _ (by decide))
  · rw [q5 m (by omega)]
    show u2 G3 m 6 _ m 0 = 0
    rw [u2_i _ _ _ _ (by decide), f2 0 (by decide), iG_0]
  · exact (((frM_lk (lkM_i (y := 0))).trans (frM_rem f1 f2)).trans (frM_u (G := G3) (v := (n : Int) - 1) (j := 6) (by omega))).trans (frM_a (Or.inl rfl) q5)
  · have e1 : (1824 * s) = ((1824 * s.toNat + 0 : Nat) : Int) := by omega
    have e4 : u2 G3 m 6 ((n : Int) - 1) = G4 := rfl
    have e56 : G5 m 6 = (n : Int) - 1 := by
      rw [q5 m (by omega)]
      exact u2_s _ _ _ _
    have lpQ := lp Q
    rw [← e1] at lpQ
    simp (disch := first | assumption | exact c2_int _ | exact c2_ref _ | exact c2_jk | exact c2_null | omega | exact bI_r _ | exact bI_01 _) only [↓fX10_drop_0, ↓fX10_drop_1, ↓fX10_drop_2, ↓fX10_drop_3, ↓fX10_drop_6, ↓fX10_drop_9, ↓fX10_drop_10, ↓fX10_drop_13, ↓fX10_drop_14, ↓fX10_drop_17, ↓fX10_drop_20, ↓fX10_drop_21, ↓fX10_drop_22, ↓fX10_drop_23, ↓fX10_drop_26, ↓fX10_drop_27, ↓fX10_drop_28, ↓fX10_drop_31, ↓fX10_drop_32, ↓fX10_drop_33, ↓fX10_drop_36, ↓fX10_drop_39, ↓fX10_drop_40, ↓fX10_drop_41, ↓fX10_drop_43, ↓fX10_drop_46, ↓fX10_drop_47, ↓fX10_drop_50, ↓fX10_drop_51, ↓fX10_drop_54, ↓fX10_drop_55, ↓fX10_drop_58, ↓fX10_drop_59, ↓fX10_drop_60, ↓fX10_drop_63, ↓fX10_drop_64, ↓fX10_drop_67, ↓fX10_drop_68, ↓fX10_drop_69, ↓fX10_drop_70, ↓fX10_drop_73, ↓fX10_drop_77, ↓fX10_drop_80, ↓eS, ↓m_is0, ↓e3, g6, e4, and_self, true_and, and_true, false_and, and_false, not_true_eq_false, not_false_eq_true, or_self, true_or, or_true, false_or, or_false, ite_not, Decidable.not_not, decide_eq_true_eq, Bool.not_true, Bool.not_false, Bool.false_eq_true, Bool.not_eq_true, n10, n20, n21, n30, n31, n32, n40, n41, n42, n43, ↓reduceIte]
    rw [lpQ, fX10_drop_76]
    have e5 : cpG1 G4 (m + 1) (m + 1) (1824 * s.toNat) (1824 * s.toNat + 1824) (1824 * (n - 1) - 1824 * s.toNat) = G5 := rfl
    simp (disch := first | assumption | exact c2_int _ | exact c2_ref _ | exact c2_jk | exact c2_null | omega | exact bI_r _ | exact bI_01 _) only [↓fX10_drop_0, ↓fX10_drop_1, ↓fX10_drop_2, ↓fX10_drop_3, ↓fX10_drop_6, ↓fX10_drop_9, ↓fX10_drop_10, ↓fX10_drop_13, ↓fX10_drop_14, ↓fX10_drop_17, ↓fX10_drop_20, ↓fX10_drop_21, ↓fX10_drop_22, ↓fX10_drop_23, ↓fX10_drop_26, ↓fX10_drop_27, ↓fX10_drop_28, ↓fX10_drop_31, ↓fX10_drop_32, ↓fX10_drop_33, ↓fX10_drop_36, ↓fX10_drop_39, ↓fX10_drop_40, ↓fX10_drop_41, ↓fX10_drop_43, ↓fX10_drop_46, ↓fX10_drop_47, ↓fX10_drop_50, ↓fX10_drop_51, ↓fX10_drop_54, ↓fX10_drop_55, ↓fX10_drop_58, ↓fX10_drop_59, ↓fX10_drop_60, ↓fX10_drop_63, ↓fX10_drop_64, ↓fX10_drop_67, ↓fX10_drop_68, ↓fX10_drop_69, ↓fX10_drop_70, ↓fX10_drop_73, ↓fX10_drop_77, ↓fX10_drop_80, e5, e56, and_self, true_and, and_true, false_and, and_false, not_true_eq_false, not_false_eq_true, or_self, true_or, or_true, false_or, or_false, ite_not, Decidable.not_not, decide_eq_true_eq, Bool.not_true, Bool.not_false, Bool.false_eq_true, Bool.not_eq_true, n10, n20, n21, n30, n31, n32, n40, n41, n42, n43, ↓reduceIte]
/-- undo -/
theorem undo_loop (hm : shM E r m) {b1 K B : Nat} (hK : K = 7296) (hB : (B : Int) = 7296 * (b1 : Int)) (h7 : G m 7 = b1) (hb : b1 ≤ 7) : ∀ (k n' : Nat), K - n' ≤ k → n' ≤ K → RK MX10_undo 33 [.ref m, .int (zi (n' : Int))] [] (0, 0) (E, zg (cpG1 G (m + 1) (m + 3) 0 B n'), zk L, r) Q = RK MX10_undo 67 [.ref m, .int (zi (K : Int))] [] (0, 0) (E, zg (cpG1 G (m + 1) (m + 3) 0 B K), zk L, r) Q := by
  have m0 := hm.1
  obtain ⟨ka1, la1, ra1⟩ := hm.2.1
  obtain ⟨ka3, la3, ra3⟩ := hm.2.2.2.1
  have stop : RK MX10_undo 33 [.ref m, .int (zi (K : Int))] [] (0, 0) (E, zg (cpG1 G (m + 1) (m + 3) 0 B K), zk L, r) Q = RK MX10_undo 67 [.ref m, .int (zi (K : Int))] [] (0, 0) (E, zg (cpG1 G (m + 1) (m + 3) 0 B K), zk L, r) Q := by
    have h6 : ¬ (K : Int) < 7296 := by omega
    simp (disch := first | assumption | exact c2_int _ | exact c2_ref _ | exact c2_jk | exact c2_null | omega | exact bI_r _ | exact bI_01 _) only [↓fX10_undo_0, ↓fX10_undo_1, ↓fX10_undo_2, ↓fX10_undo_5, ↓fX10_undo_8, ↓fX10_undo_9, ↓fX10_undo_12, ↓fX10_undo_13, ↓fX10_undo_16, ↓fX10_undo_19, ↓fX10_undo_20, ↓fX10_undo_21, ↓fX10_undo_22, ↓fX10_undo_23, ↓fX10_undo_26, ↓fX10_undo_27, ↓fX10_undo_28, ↓fX10_undo_31, ↓fX10_undo_32, ↓fX10_undo_33, ↓fX10_undo_34, ↓fX10_undo_37, ↓fX10_undo_40, ↓fX10_undo_41, ↓fX10_undo_44, ↓fX10_undo_45, ↓fX10_undo_46, ↓fX10_undo_49, ↓fX10_undo_52, ↓fX10_undo_53, ↓fX10_undo_56, ↓fX10_undo_57, ↓fX10_undo_58, ↓fX10_undo_59, ↓fX10_undo_60, ↓fX10_undo_61, ↓fX10_undo_64, ↓fX10_undo_68, ↓fX10_undo_69, ↓fX10_undo_72, ↓fX10_undo_73, ↓fX10_undo_76, ↓fX10_undo_77, ↓fX10_undo_80, ↓fX10_undo_81, ↓fX10_undo_84, h6, and_self, true_and, and_true, false_and, and_false, not_true_eq_false, not_false_eq_true, or_self, true_or, or_true, false_or, or_false, ite_not, Decidable.not_not, decide_eq_true_eq, Bool.not_true, Bool.not_false, Bool.false_eq_true, Bool.not_eq_true, n10, n20, n21, n30, n31, n32, n40, n41, n42, n43, ↓reduceIte]
  intro k
  induction k with
  | zero =>
    intro n' h1 h2
    have en : n' = K := by omega
    rw [en]
    exact stop
  | succ k ih =>
    intro n' h1 h2
    by_cases h6 : (n' : Int) < 7296
    · have e7 : cpG1 G (m + 1) (m + 3) 0 B n' m 7 = b1 := by rw [cpG1_q (by omega), h7]
      have er : cpG1 G (m + 1) (m + 3) 0 B n' (m + 3) (7296 * (b1 : Int) + (n' : Int)).toNat = G (m + 3) (B + n') := by rw [cpG1_q (by omega), show (7296 * (b1 : Int) + (n' : Int)).toNat = B + n' by omega]
      have ew : u2 (cpG1 G (m + 1) (m + 3) 0 B n') (m + 1) (n' : Int).toNat (G (m + 3) (B + n')) = cpG1 G (m + 1) (m + 3) 0 B (n' + 1) := by
        rw [Int.toNat_natCast]
        have := cp_step (G := G) (q := m + 1) (q2 := m + 3) (b1 := 0) (b2 := B) (n' := n')
        rw [Nat.zero_add] at this
        exact this
      have ih' := ih (n' + 1) (by omega) (by omega)
      rw [← ew, Int.natCast_add] at ih'
      have ih'' : RK MX10_undo 33 [.ref m, .int (zi ((n' : Int) + 1))] [] (0, 0) _ Q = _ := ih'
      clear hK
      rw [fX10_undo_33]
      simp (disch := first | assumption | exact c2_int _ | exact c2_ref _ | exact c2_jk | exact c2_null | omega | exact bI_r _ | exact bI_01 _) only [↓fX10_undo_0, ↓fX10_undo_1, ↓fX10_undo_2, ↓fX10_undo_5, ↓fX10_undo_8, ↓fX10_undo_9, ↓fX10_undo_12, ↓fX10_undo_13, ↓fX10_undo_16, ↓fX10_undo_19, ↓fX10_undo_20, ↓fX10_undo_21, ↓fX10_undo_22, ↓fX10_undo_23, ↓fX10_undo_26, ↓fX10_undo_27, ↓fX10_undo_28, ↓fX10_undo_31, ↓fX10_undo_32, ↓fX10_undo_34, ↓fX10_undo_37, ↓fX10_undo_40, ↓fX10_undo_41, ↓fX10_undo_44, ↓fX10_undo_45, ↓fX10_undo_46, ↓fX10_undo_49, ↓fX10_undo_52, ↓fX10_undo_53, ↓fX10_undo_56, ↓fX10_undo_57, ↓fX10_undo_58, ↓fX10_undo_59, ↓fX10_undo_60, ↓fX10_undo_61, ↓fX10_undo_64, ↓fX10_undo_68, ↓fX10_undo_69, ↓fX10_undo_72, ↓fX10_undo_73, ↓fX10_undo_76, ↓fX10_undo_77, ↓fX10_undo_80, ↓fX10_undo_81, ↓fX10_undo_84, e7, er, h6, and_self, true_and, and_true, false_and, and_false, not_true_eq_false, not_false_eq_true, or_self, true_or, or_true, false_or, or_false, ite_not, Decidable.not_not, decide_eq_true_eq, Bool.not_true, Bool.not_false, Bool.false_eq_true, Bool.not_eq_true, n10, n20, n21, n30, n31, n32, n40, n41, n42, n43, ↓reduceIte]
      exact ih''
    · have en : n' = K := by omega
      rw [en]
      exact stop
theorem z_undo5 (hM : MD E r G m n σ) (hP : PM G m 0 N Sg) : RK MX10_undo 0 [.ref m, jk] [] (0, 0) (E, zg G, zk L, r) Q = Q (E, zg (iG G m 5), zk L, r) (.int (zi (-1))) := by
  have hm := hM.1
  have m0 := hm.1
  have h7 : G m 7 = 0 := hP.1.1
  simp (disch := first | assumption | exact c2_int _ | exact c2_ref _ | exact c2_jk | exact c2_null | omega | exact bI_r _ | exact bI_01 _) only [↓fX10_undo_0, ↓fX10_undo_1, ↓fX10_undo_2, ↓fX10_undo_5, ↓fX10_undo_8, ↓fX10_undo_9, ↓fX10_undo_12, ↓fX10_undo_13, ↓fX10_undo_16, ↓fX10_undo_19, ↓fX10_undo_20, ↓fX10_undo_21, ↓fX10_undo_22, ↓fX10_undo_23, ↓fX10_undo_26, ↓fX10_undo_27, ↓fX10_undo_28, ↓fX10_undo_31, ↓fX10_undo_32, ↓fX10_undo_33, ↓fX10_undo_34, ↓fX10_undo_37, ↓fX10_undo_40, ↓fX10_undo_41, ↓fX10_undo_44, ↓fX10_undo_45, ↓fX10_undo_46, ↓fX10_undo_49, ↓fX10_undo_52, ↓fX10_undo_53, ↓fX10_undo_56, ↓fX10_undo_57, ↓fX10_undo_58, ↓fX10_undo_59, ↓fX10_undo_60, ↓fX10_undo_61, ↓fX10_undo_64, ↓fX10_undo_67, ↓fX10_undo_68, ↓fX10_undo_69, ↓fX10_undo_72, ↓fX10_undo_73, ↓fX10_undo_76, ↓fX10_undo_77, ↓fX10_undo_80, ↓fX10_undo_81, ↓fX10_undo_84, ↓m_isN, h7, and_self, true_and, and_true, false_and, and_false, not_true_eq_false, not_false_eq_true, or_self, true_or, or_true, false_or, or_false, ite_not, Decidable.not_not, decide_eq_true_eq, Bool.not_true, Bool.not_false, Bool.false_eq_true, Bool.not_eq_true, n10, n20, n21, n30, n31, n32, n40, n41, n42, n43, ↓reduceIte]
theorem z_undo {c : Nat} (hM : MD E r G m n σ) (hP : PM G m (c + 1) N Sg) : ∃ G', MD E r G' m (N c) (Sg c) ∧ PM G' m c N Sg ∧ G' m 0 = 0 ∧ frM G G' m ∧ ∀ Q, RK MX10_undo 0 [.ref m, jk] [] (0, 0) (E, zg G, zk L, r) Q = Q (E, zg G', zk L, r) (.int (zi (c : Int))) := by
  have hm := hM.1
  have m0 := hm.1
  obtain ⟨ka4, la4, ra4⟩ := hm.2.2.2.2.1
  have h7 := hP.1
  have hP1 := PM_lk hP (lkM_i (y := 0))
  let G2 : Nat → Nat → Int := u2 (iG G m 0) m 7 (c : Int)
  have g27 : G2 m 7 = c := u2_s _ _ _ _
  have q2 : ∀ x, x ≠ m → G2 x = G x := fun x hx => (u2_a _ _ _ _ hx).trans (iG_q hx)
  obtain ⟨K, hK⟩ : ∃ K : Nat, K = 7296 := ⟨_, rfl⟩
  obtain ⟨B, hB⟩ : ∃ B : Nat, B = 7296 * c := ⟨_, rfl⟩
  have lp := fun Q => undo_loop (G := G2) (L := L) (Q := Q) hm hK (b1 := c) (B := B) (by omega) g27 (by omega) K 0 (by omega) (by omega)
  rw [cp_0] at lp
  let G3 : Nat → Nat → Int := cpG1 G2 (m + 1) (m + 3) 0 B K
  have q3 : ∀ x, x ≠ m + 1 → G3 x = G2 x := fun x hx => cpG1_q hx
  have i3 : ∀ j, G3 (m + 1) j = if 0 ≤ j ∧ j < 0 + K then G2 (m + 3) (B + (j - 0)) else G2 (m + 1) j := fun j => cpG1_i
  obtain ⟨p1, p2, p3⟩ := hP.2 c (by omega)
  have e4 : G3 (m + 4) c = N c := by rw [q3 _ (by omega), q2 _ (by omega), p1]
  refine ⟨u2 G3 m 6 (N c), ⟨hm, ⟨u2_s _ _ _ _, p2⟩, fun t ht => ⟨fun j hj => ?_, (p3 t ht).1⟩⟩, ⟨⟨?_, by omega⟩, fun u hu => ?_⟩, ?_, ?_, fun Q => ?_⟩
  · rw [u2_a _ _ _ _ (by omega), i3, if_pos (by omega), q2 _ (by omega), ← (p3 t ht).2 j hj]
    rw [show B + ((1824 * (t : Int) + (j : Int)).toNat - 0) = 7296 * c + (1824 * t + j) by omega]
  · rw [u2_i _ _ _ _ (by decide), q3 m (by omega)]
    exact g27
  · rw [u2_a _ _ _ _ (by omega), u2_a _ _ _ _ (by omega), q3 _ (by omega), q3 _ (by omega), q2 _ (by omega), q2 _ (by omega)]
    exact hP.2 u (by omega)
  · rw [u2_i _ _ _ _ (by decide), q3 m (by omega)]
    show u2 (iG G m 0) m 7 (c : Int) m 0 = 0
    rw [u2_i _ _ _ _ (by decide), iG_0]
  · exact (((frM_lk (lkM_i (y := 0))).trans (frM_u (G := iG G m 0) (v := (c : Int)) (j := 7) (by omega))).trans (frM_a (Or.inl rfl) q3)).trans (frM_u (by omega))
  · have h71 : G m 7 = (c : Int) + 1 := by rw [h7.1]; omega
    have h7n : ¬ (c : Int) + 1 = 0 := by omega
    have e17 : iG G m 0 m 7 = (c : Int) + 1 := by rw [iG_j (by decide) (by decide), h71]
    have e9 : (c : Int) + 1 - 1 = c := by omega
    have eG : u2 (iG G m 0) m 7 (c : Int) = G2 := rfl
    have e37 : G3 m 7 = c := by rw [q3 m (by omega)]; exact g27
    have e67 : u2 G3 m 6 (N c : Int) m 7 = c := by rw [u2_i _ _ _ _ (by decide), e37]
    have ec : (c : Int).toNat = c := Int.toNat_natCast c
    have lp' : RK MX10_undo 33 [.ref m, .int (zi 0)] [] (0, 0) (E, zg G2, zk L, r) Q = RK MX10_undo 67 [.ref m, .int (zi (K : Int))] [] (0, 0) (E, zg G3, zk L, r) Q := lp Q
    clear hK hB
    simp (disch := first | assumption | exact c2_int _ | exact c2_ref _ | exact c2_jk | exact c2_null | omega | exact bI_r _ | exact bI_01 _) only [↓fX10_undo_0, ↓fX10_undo_1, ↓fX10_undo_2, ↓fX10_undo_5, ↓fX10_undo_8, ↓fX10_undo_9, ↓fX10_undo_12, ↓fX10_undo_13, ↓fX10_undo_16, ↓fX10_undo_19, ↓fX10_undo_20, ↓fX10_undo_21, ↓fX10_undo_22, ↓fX10_undo_23, ↓fX10_undo_26, ↓fX10_undo_27, ↓fX10_undo_28, ↓fX10_undo_31, ↓fX10_undo_32, ↓fX10_undo_34, ↓fX10_undo_37, ↓fX10_undo_40, ↓fX10_undo_41, ↓fX10_undo_44, ↓fX10_undo_45, ↓fX10_undo_46, ↓fX10_undo_49, ↓fX10_undo_52, ↓fX10_undo_53, ↓fX10_undo_56, ↓fX10_undo_57, ↓fX10_undo_58, ↓fX10_undo_59, ↓fX10_undo_60, ↓fX10_undo_61, ↓fX10_undo_64, ↓fX10_undo_68, ↓fX10_undo_69, ↓fX10_undo_72, ↓fX10_undo_73, ↓fX10_undo_76, ↓fX10_undo_77, ↓fX10_undo_80, ↓fX10_undo_81, ↓fX10_undo_84, ↓m_is0, h71, h7n, e17, e9, eG, and_self, true_and, and_true, false_and, and_false, not_true_eq_false, not_false_eq_true, or_self, true_or, or_true, false_or, or_false, ite_not, Decidable.not_not, decide_eq_true_eq, Bool.not_true, Bool.not_false, Bool.false_eq_true, Bool.not_eq_true, n10, n20, n21, n30, n31, n32, n40, n41, n42, n43, ↓reduceIte]
    rw [lp', fX10_undo_67]
    simp (disch := first | assumption | exact c2_int _ | exact c2_ref _ | exact c2_jk | exact c2_null | omega | exact bI_r _ | exact bI_01 _) only [↓fX10_undo_0, ↓fX10_undo_1, ↓fX10_undo_2, ↓fX10_undo_5, ↓fX10_undo_8, ↓fX10_undo_9, ↓fX10_undo_12, ↓fX10_undo_13, ↓fX10_undo_16, ↓fX10_undo_19, ↓fX10_undo_20, ↓fX10_undo_21, ↓fX10_undo_22, ↓fX10_undo_23, ↓fX10_undo_26, ↓fX10_undo_27, ↓fX10_undo_28, ↓fX10_undo_31, ↓fX10_undo_32, ↓fX10_undo_34, ↓fX10_undo_37, ↓fX10_undo_40, ↓fX10_undo_41, ↓fX10_undo_44, ↓fX10_undo_45, ↓fX10_undo_46, ↓fX10_undo_49, ↓fX10_undo_52, ↓fX10_undo_53, ↓fX10_undo_56, ↓fX10_undo_57, ↓fX10_undo_58, ↓fX10_undo_59, ↓fX10_undo_60, ↓fX10_undo_61, ↓fX10_undo_64, ↓fX10_undo_68, ↓fX10_undo_69, ↓fX10_undo_72, ↓fX10_undo_73, ↓fX10_undo_76, ↓fX10_undo_77, ↓fX10_undo_80, ↓fX10_undo_81, ↓fX10_undo_84, e37, ec, e4, e67, and_self, true_and, and_true, false_and, and_false, not_true_eq_false, not_false_eq_true, or_self, true_or, or_true, false_or, or_false, ite_not, Decidable.not_not, decide_eq_true_eq, Bool.not_true, Bool.not_false, Bool.false_eq_true, Bool.not_eq_true, n10, n20, n21, n30, n31, n32, n40, n41, n42, n43, ↓reduceIte]
/-- many, status, fault -/
theorem z_many (hM : MD E r G m n σ) (hP : PM G m a N Sg) (hL : LM G m cl ln lv) (hw : I32 w) : ∃ G', lkM G G' m ∧ G' m 0 = (manO w n a cl).1 ∧ ∀ Q, RK MX10_many 0 [.ref m, .int (zi w)] [] (0, 0) (E, zg G, zk L, r) Q = Q (E, zg G', zk L, r) (.int (zi (manO w n a cl).2)) := by
  have hm := hM.1
  have m0 := hm.1
  have h6 : iG G m 0 m 6 = n := by rw [iG_j (by decide) (by decide)]; exact hM.2.1.1
  have h7 : iG G m 0 m 7 = a := by rw [iG_j (by decide) (by decide)]; exact hP.1.1
  have h8 : iG G m 0 m 8 = cl := by rw [iG_j (by decide) (by decide)]; exact hL.1.1
  unfold manO
  by_cases z : 0 ≤ w ∧ w ≤ 2
  · have zz : (0 ≤ w ∧ w ≤ 2) = True := eq_true z
    refine ⟨iG G m 0, lkM_i, by rw [if_pos z]; exact iG_0, fun Q => ?_⟩
    rw [if_pos z]
    by_cases w0 : w = 0
    · rw [if_pos w0]
      have eb : bI (0 ≤ w ∧ w ≤ 2) = 1 := bI_p z
      simp (disch := first | assumption | exact c2_int _ | exact c2_ref _ | exact c2_jk | exact c2_null | omega | exact bI_r _ | exact bI_01 _) only [↓fX10_many_0, ↓fX10_many_1, ↓fX10_many_2, ↓fX10_many_3, ↓fX10_many_4, ↓fX10_many_7, ↓fX10_many_10, ↓fX10_many_13, ↓fX10_many_14, ↓fX10_many_17, ↓fX10_many_18, ↓fX10_many_21, ↓fX10_many_24, ↓fX10_many_25, ↓fX10_many_28, ↓fX10_many_29, ↓fX10_many_32, ↓fX10_many_35, ↓fX10_many_36, ↓fX10_many_37, ↓fX10_many_40, ↓fX10_many_41, ↓fX10_many_44, ↓fX10_many_47, ↓fX10_many_48, ↓fX10_many_51, ↓fX10_many_54, ↓fX10_many_55, ↓m_isIn, ↓m_is0, eb, w0, h6, and_self, true_and, and_true, false_and, and_false, not_true_eq_false, not_false_eq_true, or_self, true_or, or_true, false_or, or_false, ite_not, Decidable.not_not, decide_eq_true_eq, Bool.not_true, Bool.not_false, Bool.false_eq_true, Bool.not_eq_true, n10, n20, n21, n30, n31, n32, n40, n41, n42, n43, ↓reduceIte]
      first | rfl | (rw [if_pos (by decide)]) | skip
    · rw [if_neg w0]
      by_cases w1 : w = 1
      · rw [if_pos w1]
        have eb : bI (0 ≤ w ∧ w ≤ 2) = 1 := bI_p z
        simp (disch := first | assumption | exact c2_int _ | exact c2_ref _ | exact c2_jk | exact c2_null | omega | exact bI_r _ | exact bI_01 _) only [↓fX10_many_0, ↓fX10_many_1, ↓fX10_many_2, ↓fX10_many_3, ↓fX10_many_4, ↓fX10_many_7, ↓fX10_many_10, ↓fX10_many_13, ↓fX10_many_14, ↓fX10_many_17, ↓fX10_many_18, ↓fX10_many_21, ↓fX10_many_24, ↓fX10_many_25, ↓fX10_many_28, ↓fX10_many_29, ↓fX10_many_32, ↓fX10_many_35, ↓fX10_many_36, ↓fX10_many_37, ↓fX10_many_40, ↓fX10_many_41, ↓fX10_many_44, ↓fX10_many_47, ↓fX10_many_48, ↓fX10_many_51, ↓fX10_many_54, ↓fX10_many_55, ↓m_isIn, ↓m_is0, eb, w1, h7, n10, and_self, true_and, and_true, false_and, and_false, not_true_eq_false, not_false_eq_true, or_self, true_or, or_true, false_or, or_false, ite_not, Decidable.not_not, decide_eq_true_eq, Bool.not_true, Bool.not_false, Bool.false_eq_true, Bool.not_eq_true, n10, n20, n21, n30, n31, n32, n40, n41, n42, n43, ↓reduceIte]
        first | rfl | (rw [if_pos (by decide)]) | skip
      · rw [if_neg w1]
        simp (disch := first | assumption | exact c2_int _ | exact c2_ref _ | exact c2_jk | exact c2_null | omega | exact bI_r _ | exact bI_01 _) only [↓fX10_many_0, ↓fX10_many_1, ↓fX10_many_2, ↓fX10_many_3, ↓fX10_many_4, ↓fX10_many_7, ↓fX10_many_10, ↓fX10_many_13, ↓fX10_many_14, ↓fX10_many_17, ↓fX10_many_18, ↓fX10_many_21, ↓fX10_many_24, ↓fX10_many_25, ↓fX10_many_28, ↓fX10_many_29, ↓fX10_many_32, ↓fX10_many_35, ↓fX10_many_36, ↓fX10_many_37, ↓fX10_many_40, ↓fX10_many_41, ↓fX10_many_44, ↓fX10_many_47, ↓fX10_many_48, ↓fX10_many_51, ↓fX10_many_54, ↓fX10_many_55, ↓m_isIn, ↓m_is0, bI_0, zz, w0, w1, h8, and_self, true_and, and_true, false_and, and_false, not_true_eq_false, not_false_eq_true, or_self, true_or, or_true, false_or, or_false, ite_not, Decidable.not_not, decide_eq_true_eq, Bool.not_true, Bool.not_false, Bool.false_eq_true, Bool.not_eq_true, n10, n20, n21, n30, n31, n32, n40, n41, n42, n43, ↓reduceIte]
  · refine ⟨iG G m 1, lkM_i, by rw [if_neg z]; exact iG_0, fun Q => ?_⟩
    rw [if_neg z]
    simp (disch := first | assumption | exact c2_int _ | exact c2_ref _ | exact c2_jk | exact c2_null | omega | exact bI_r _ | exact bI_01 _) only [↓fX10_many_0, ↓fX10_many_1, ↓fX10_many_2, ↓fX10_many_3, ↓fX10_many_4, ↓fX10_many_7, ↓fX10_many_10, ↓fX10_many_13, ↓fX10_many_14, ↓fX10_many_17, ↓fX10_many_18, ↓fX10_many_21, ↓fX10_many_24, ↓fX10_many_25, ↓fX10_many_28, ↓fX10_many_29, ↓fX10_many_32, ↓fX10_many_35, ↓fX10_many_36, ↓fX10_many_37, ↓fX10_many_40, ↓fX10_many_41, ↓fX10_many_44, ↓fX10_many_47, ↓fX10_many_48, ↓fX10_many_51, ↓fX10_many_54, ↓fX10_many_55, ↓m_isIn, ↓m_isN, bI_0, z, and_self, true_and, and_true, false_and, and_false, not_true_eq_false, not_false_eq_true, or_self, true_or, or_true, false_or, or_false, ite_not, Decidable.not_not, decide_eq_true_eq, Bool.not_true, Bool.not_false, Bool.false_eq_true, Bool.not_eq_true, n10, n20, n21, n30, n31, n32, n40, n41, n42, n43, ↓reduceIte]
theorem z_status (hm : shM E r m) : ∃ G', lkM G G' m ∧ G' m 0 = G m 0 ∧ ∀ Q, RK MX10_status 0 [.ref m] [] (0, 0) (E, zg G, zk L, r) Q = Q (E, zg G', zk L, r) (.int (zi (G m 0))) := by
  have m0 := hm.1
  have e0 : u2 G m 1 0 m 0 = G m 0 := u2_i _ _ _ _ (by decide)
  refine ⟨u2 G m 1 0, ⟨fun x a b c d e => u2_a _ _ _ _ a, fun j a b c => u2_i _ _ _ _ b, fun k hk => by rw [u2_a _ _ _ _ (by omega)]⟩, e0, fun Q => ?_⟩
  simp (disch := first | assumption | exact c2_int _ | exact c2_ref _ | exact c2_jk | exact c2_null | omega | exact bI_r _ | exact bI_01 _) only [↓fX10_status_0, ↓fX10_status_1, ↓fX10_status_2, ↓fX10_status_5, ↓fX10_status_6, ↓fX10_status_9, e0]
theorem z_fault (hm : shM E r m) (hw : I32 w) : ∃ G', lkM G G' m ∧ G' m 0 = G m 0 ∧ ∀ Q, RK MX10_fault 0 [.ref m, .int (zi w)] [] (0, 0) (E, zg G, zk L, r) Q = Q (E, zg G', zk L, r) (.int (zi (if w = 0 then G m 19 else if w = 1 then G m 20 else -1))) := by
  have m0 := hm.1
  have e0 : u2 G m 1 0 m 0 = G m 0 := u2_i _ _ _ _ (by decide)
  have e19 : u2 G m 1 0 m 19 = G m 19 := u2_i _ _ _ _ (by decide)
  have e20 : u2 G m 1 0 m 20 = G m 20 := u2_i _ _ _ _ (by decide)
  refine ⟨u2 G m 1 0, ⟨fun x a b c d e => u2_a _ _ _ _ a, fun j a b c => u2_i _ _ _ _ b, fun k hk => by rw [u2_a _ _ _ _ (by omega)]⟩, e0, fun Q => ?_⟩
  by_cases w0 : w = 0
  · rw [if_pos w0]
    simp (disch := first | assumption | exact c2_int _ | exact c2_ref _ | exact c2_jk | exact c2_null | omega | exact bI_r _ | exact bI_01 _) only [↓fX10_fault_0, ↓fX10_fault_1, ↓fX10_fault_2, ↓fX10_fault_5, ↓fX10_fault_6, ↓fX10_fault_9, ↓fX10_fault_10, ↓fX10_fault_13, ↓fX10_fault_16, ↓fX10_fault_17, ↓fX10_fault_18, ↓fX10_fault_21, ↓fX10_fault_22, ↓fX10_fault_25, ↓fX10_fault_28, ↓fX10_fault_29, e19, w0, and_self, true_and, and_true, false_and, and_false, not_true_eq_false, not_false_eq_true, or_self, true_or, or_true, false_or, or_false, ite_not, Decidable.not_not, decide_eq_true_eq, Bool.not_true, Bool.not_false, Bool.false_eq_true, Bool.not_eq_true, n10, n20, n21, n30, n31, n32, n40, n41, n42, n43, ↓reduceIte]
  · rw [if_neg w0]
    by_cases w1 : w = 1
    · rw [if_pos w1]
      simp (disch := first | assumption | exact c2_int _ | exact c2_ref _ | exact c2_jk | exact c2_null | omega | exact bI_r _ | exact bI_01 _) only [↓fX10_fault_0, ↓fX10_fault_1, ↓fX10_fault_2, ↓fX10_fault_5, ↓fX10_fault_6, ↓fX10_fault_9, ↓fX10_fault_10, ↓fX10_fault_13, ↓fX10_fault_16, ↓fX10_fault_17, ↓fX10_fault_18, ↓fX10_fault_21, ↓fX10_fault_22, ↓fX10_fault_25, ↓fX10_fault_28, ↓fX10_fault_29, e20, w1, n10, and_self, true_and, and_true, false_and, and_false, not_true_eq_false, not_false_eq_true, or_self, true_or, or_true, false_or, or_false, ite_not, Decidable.not_not, decide_eq_true_eq, Bool.not_true, Bool.not_false, Bool.false_eq_true, Bool.not_eq_true, n10, n20, n21, n30, n31, n32, n40, n41, n42, n43, ↓reduceIte]
    · rw [if_neg w1]
      simp (disch := first | assumption | exact c2_int _ | exact c2_ref _ | exact c2_jk | exact c2_null | omega | exact bI_r _ | exact bI_01 _) only [↓fX10_fault_0, ↓fX10_fault_1, ↓fX10_fault_2, ↓fX10_fault_5, ↓fX10_fault_6, ↓fX10_fault_9, ↓fX10_fault_10, ↓fX10_fault_13, ↓fX10_fault_16, ↓fX10_fault_17, ↓fX10_fault_18, ↓fX10_fault_21, ↓fX10_fault_22, ↓fX10_fault_25, ↓fX10_fault_28, ↓fX10_fault_29, w0, w1, and_self, true_and, and_true, false_and, and_false, not_true_eq_false, not_false_eq_true, or_self, true_or, or_true, false_or, or_false, ite_not, Decidable.not_not, decide_eq_true_eq, Bool.not_true, Bool.not_false, Bool.false_eq_true, Bool.not_eq_true, n10, n20, n21, n30, n31, n32, n40, n41, n42, n43, ↓reduceIte]
end BM
