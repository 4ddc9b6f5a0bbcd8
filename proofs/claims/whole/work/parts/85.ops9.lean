/-! Calls of the reference that change sieves. -/
section BM
variable {E : AE} {G G1 G2 G' L : Nat → Nat → Int} {r : Nat → Nat → Option Nat} {h : AH} {Q : AH → Value → Prop} {m M n cl ln1 a : Nat} {σ τ : Nat → Nat → Int} {σ1 ρ : Nat → Int} {N : Nat → Nat} {Sg : Nat → Nat → Nat → Int} {s o y x w i p v lo hi t b d e c f g k : Int} {lv1 : Nat → Int} {ln : Nat → Nat} {lv : Nat → Nat → Int}
theorem MD_set (hM : MD E r G m n σ) (hs : 0 ≤ s ∧ s < n) (h : KW G G1 m s) (hl : SL G1 m s ρ) (hW : WF ρ) : MD E r G1 m n (fun t => if t = s.toNat then ρ else σ t) := by
  have h6 := hM.2.1
  refine ⟨hM.1, by rw [h.2.1 6 (by decide)]; exact h6, fun t ht => ?_⟩
  by_cases z : t = s.toNat
  · simp only [z, if_true]
    rw [Int.toNat_of_nonneg hs.1]
    exact ⟨hl, hW⟩
  · simp only [z, if_false]
    exact ⟨KW_SL h (by omega) (by omega) (by omega) (hM.2.2 t ht).1, (hM.2.2 t ht).2⟩
theorem MD_rem (hM : MD E r G m n σ) (h1 : ∀ x, x ≠ m → x ≠ m + 3 → x ≠ m + 4 → G1 x = G x) (h2 : ∀ j, j ≠ 7 → G1 m j = G m j) : MD E r G1 m n σ := ⟨hM.1, by rw [h2 6 (by decide)]; exact hM.2.1, fun s hs => ⟨SL_c (hM.2.2 s hs).1 (h1 _ (by omega) (by omega) (by omega)), (hM.2.2 s hs).2⟩⟩
theorem frM_rem (h1 : ∀ x, x ≠ m → x ≠ m + 3 → x ≠ m + 4 → G1 x = G x) (h2 : ∀ j, j ≠ 7 → G1 m j = G m j) : frM G G1 m := ⟨fun x a b c d e f g => h1 x a c d, fun j a b c d e => h2 j d⟩
/-- a round or all rounds: what is begun with -/
theorem z_begin (hM : MD E r G m n σ) (hP : PM G m a N Sg) (c : 0 ≤ s ∧ s < n) : ∃ G1 G3, (∀ Q, RK MX10_nextGap 0 [.ref m, .int (zi s), jk, jk, jk] [] (0, 0) (E, zg G, zk L, r) Q = Q (E, zg G1, zk L, r) (.int (zi (nmS (σ s.toNat))))) ∧ lkM G G1 m ∧ (∀ Q, RK MX10_remembers 0 [.ref m, jk] [] (0, 0) (E, zg (iG G1 m 0), zk L, r) Q = Q (E, zg G3, zk L, r) .null) ∧ MD E r G3 m n σ ∧ PM G3 m (kpA a) (kpN a N n) (kpN a Sg σ) ∧ G3 m 0 = 0 ∧ frM G G3 m := by
  have h6 := hM.2.1
  obtain ⟨hl, hW⟩ := hM.2.2 s.toNat (by omega)
  rw [Int.toNat_of_nonneg c.1] at hl
  obtain ⟨G1, k1, hl1, ha1, f1, e1⟩ := m_nextGap (L := L) hM.1 (s := s) (by omega) hl hW
  have lk1 : lkM G G1 m := ⟨fun x a b c d e => f1 x a c, fun j a b c => k1.2.1 j c, fun k hk => by rw [f1 (m + 1) (by omega) (by omega)]⟩
  have lk2 : lkM G (iG G1 m 0) m := lk1.trans lkM_i
  obtain ⟨G3, q1, q2, q3, q4⟩ := m_remembers (L := L) (MD_lk hM lk2) (PM_lk hP lk2)
  exact ⟨G1, G3, e1, lk1, q4, MD_rem (MD_lk hM lk2) q1 q2, q3, by rw [q2 0 (by decide), iG_0], (frM_lk lk2).trans (frM_rem q1 q2)⟩
theorem z_round2 (hM : MD E r G m n σ) (hs : I32 s) (c : ¬ (0 ≤ s ∧ s < n)) : RK MX10_round 0 [.ref m, .int (zi s)] [] (0, 0) (E, zg G, zk L, r) Q = Q (E, zg (iG G m 2), zk L, r) (.int (zi (-1))) := by
  have hm := hM.1
  have m0 := hm.1
  have eS := fun Q => m_isS0 (L := L) (Q := Q) hM hs c
  simp (disch := first | assumption | exact c2_int _ | exact c2_ref _ | exact c2_jk | exact c2_null | omega | exact bI_r _ | exact bI_01 _) only [↓fX10_round_0, ↓fX10_round_1, ↓fX10_round_2, ↓fX10_round_3, ↓fX10_round_6, ↓fX10_round_9, ↓fX10_round_10, ↓fX10_round_13, ↓fX10_round_14, ↓fX10_round_15, ↓fX10_round_18, ↓fX10_round_21, ↓fX10_round_22, ↓fX10_round_25, ↓fX10_round_26, ↓fX10_round_29, ↓fX10_round_32, ↓fX10_round_33, ↓fX10_round_34, ↓fX10_round_35, ↓fX10_round_38, ↓fX10_round_39, ↓fX10_round_40, ↓fX10_round_43, ↓eS, ↓m_isN, and_self, true_and, and_true, false_and, and_false, not_true_eq_false, not_false_eq_true, or_self, true_or, or_true, false_or, or_false, ite_not, Decidable.not_not, decide_eq_true_eq, Bool.not_true, Bool.not_false, Bool.false_eq_true, Bool.not_eq_true, n10, n20, n21, n30, n31, n32, n40, n41, n42, n43, ↓reduceIte]
theorem z_round5 (hM : MD E r G m n σ) (hP : PM G m a N Sg) (c : 0 ≤ s ∧ s < n) (hn : ngS (σ s.toNat) = -1) : ∃ G', lkM G G' m ∧ G' m 0 = 5 ∧ ∀ Q, RK MX10_round 0 [.ref m, .int (zi s)] [] (0, 0) (E, zg G, zk L, r) Q = Q (E, zg G', zk L, r) (.int (zi (-1))) := by
  have hm := hM.1
  have m0 := hm.1
  have eS := fun Q => m_isS1 (L := L) (Q := Q) hM c
  obtain ⟨G1, G3, e1, lk1, -⟩ := z_begin (L := L) hM hP c
  have en : nmS (σ s.toNat) = 0 := if_pos hn
  rw [en] at e1
  refine ⟨iG G1 m 5, lk1.trans lkM_i, iG_0, fun Q => ?_⟩
  simp (disch := first | assumption | exact c2_int _ | exact c2_ref _ | exact c2_jk | exact c2_null | omega | exact bI_r _ | exact bI_01 _) only [↓fX10_round_0, ↓fX10_round_1, ↓fX10_round_2, ↓fX10_round_3, ↓fX10_round_6, ↓fX10_round_9, ↓fX10_round_10, ↓fX10_round_13, ↓fX10_round_14, ↓fX10_round_15, ↓fX10_round_18, ↓fX10_round_21, ↓fX10_round_22, ↓fX10_round_25, ↓fX10_round_26, ↓fX10_round_29, ↓fX10_round_32, ↓fX10_round_33, ↓fX10_round_34, ↓fX10_round_35, ↓fX10_round_38, ↓fX10_round_39, ↓fX10_round_40, ↓fX10_round_43, ↓eS, ↓e1, ↓m_isN, and_self, true_and, and_true, false_and, and_false, not_true_eq_false, not_false_eq_true, or_self, true_or, or_true, false_or, or_false, ite_not, Decidable.not_not, decide_eq_true_eq, Bool.not_true, Bool.not_false, Bool.false_eq_true, Bool.not_eq_true, n10, n20, n21, n30, n31, n32, n40, n41, n42, n43, ↓reduceIte]
theorem z_round (hM : MD E r G m n σ) (hP : PM G m a N Sg) (c : 0 ≤ s ∧ s < n) (hn : ngS (σ s.toNat) ≠ -1) : ∃ G', MD E r G' m n (fun t => if t = s.toNat then swS (σ s.toNat) (ngS (σ s.toNat)) else σ t) ∧ PM G' m (kpA a) (kpN a N n) (kpN a Sg σ) ∧ G' m 0 = 0 ∧ frM G G' m ∧ ∀ Q, RK MX10_round 0 [.ref m, .int (zi s)] [] (0, 0) (E, zg G, zk L, r) Q = Q (E, zg G', zk L, r) (.int (zi (szS (σ s.toNat) - szS (swS (σ s.toNat) (ngS (σ s.toNat)))))) := by
  have hm := hM.1
  have m0 := hm.1
  have h6 := hM.2.1
  have eS := fun Q => m_isS1 (L := L) (Q := Q) hM c
  obtain ⟨G1, G3, e1, lk1, e3, M3, P3, s3, f3⟩ := z_begin (L := L) hM hP c
  obtain ⟨hl, hW⟩ := M3.2.2 s.toNat (by omega)
  rw [Int.toNat_of_nonneg c.1] at hl
  have gb := (ngS_ok hW hn).1
  have en : nmS (σ s.toNat) = ngS (σ s.toNat) := if_neg hn
  rw [en] at e1
  have h0 : ¬ ngS (σ s.toNat) = 0 := by omega
  obtain ⟨G4, k4, hl4, e4⟩ := m_rounds (L := L) hm (s := s) (by omega) hl hW hn
  refine ⟨G4, MD_set M3 c k4 hl4 (swS_WF hW hn), PM_KW P3 k4, by rw [k4.2.1 0 (by decide), s3], f3.trans (frM_KW k4), fun Q => ?_⟩
  simp (disch := first | assumption | exact c2_int _ | exact c2_ref _ | exact c2_jk | exact c2_null | omega | exact bI_r _ | exact bI_01 _) only [↓fX10_round_0, ↓fX10_round_1, ↓fX10_round_2, ↓fX10_round_3, ↓fX10_round_6, ↓fX10_round_9, ↓fX10_round_10, ↓fX10_round_13, ↓fX10_round_14, ↓fX10_round_15, ↓fX10_round_18, ↓fX10_round_21, ↓fX10_round_22, ↓fX10_round_25, ↓fX10_round_26, ↓fX10_round_29, ↓fX10_round_32, ↓fX10_round_33, ↓fX10_round_34, ↓fX10_round_35, ↓fX10_round_38, ↓fX10_round_39, ↓fX10_round_40, ↓fX10_round_43, ↓eS, ↓e1, ↓m_is0, ↓e3, ↓e4, h0, and_self, true_and, and_true, false_and, and_false, not_true_eq_false, not_false_eq_true, or_self, true_or, or_true, false_or, or_false, ite_not, Decidable.not_not, decide_eq_true_eq, Bool.not_true, Bool.not_false, Bool.false_eq_true, Bool.not_eq_true, n10, n20, n21, n30, n31, n32, n40, n41, n42, n43, ↓reduceIte]
theorem z_all2 (hM : MD E r G m n σ) (hs : I32 s) (c : ¬ (0 ≤ s ∧ s < n)) : RK MX10_all 0 [.ref m, .int (zi s)] [] (0, 0) (E, zg G, zk L, r) Q = Q (E, zg (iG G m 2), zk L, r) (.int (zi (-1))) := by
  have hm := hM.1
  have m0 := hm.1
  have eS := fun Q => m_isS0 (L := L) (Q := Q) hM hs c
  simp (disch := first | assumption | exact c2_int _ | exact c2_ref _ | exact c2_jk | exact c2_null | omega | exact bI_r _ | exact bI_01 _) only [↓fX10_all_0, ↓fX10_all_1, ↓fX10_all_2, ↓fX10_all_3, ↓fX10_all_6, ↓fX10_all_9, ↓fX10_all_10, ↓fX10_all_13, ↓fX10_all_14, ↓fX10_all_15, ↓fX10_all_18, ↓fX10_all_21, ↓fX10_all_22, ↓fX10_all_25, ↓fX10_all_26, ↓fX10_all_29, ↓fX10_all_32, ↓fX10_all_33, ↓fX10_all_34, ↓fX10_all_35, ↓fX10_all_38, ↓fX10_all_39, ↓fX10_all_40, ↓fX10_all_43, ↓eS, ↓m_isN, and_self, true_and, and_true, false_and, and_false, not_true_eq_false, not_false_eq_true, or_self, true_or, or_true, false_or, or_false, ite_not, Decidable.not_not, decide_eq_true_eq, Bool.not_true, Bool.not_false, Bool.false_eq_true, Bool.not_eq_true, n10, n20, n21, n30, n31, n32, n40, n41, n42, n43, ↓reduceIte]
theorem z_all5 (hM : MD E r G m n σ) (hP : PM G m a N Sg) (c : 0 ≤ s ∧ s < n) (hn : ngS (σ s.toNat) = -1) : ∃ G', lkM G G' m ∧ G' m 0 = 5 ∧ ∀ Q, RK MX10_all 0 [.ref m, .int (zi s)] [] (0, 0) (E, zg G, zk L, r) Q = Q (E, zg G', zk L, r) (.int (zi (-1))) := by
  have hm := hM.1
  have m0 := hm.1
  have eS := fun Q => m_isS1 (L := L) (Q := Q) hM c
  obtain ⟨G1, G3, e1, lk1, -⟩ := z_begin (L := L) hM hP c
  have en : nmS (σ s.toNat) = 0 := if_pos hn
  rw [en] at e1
  refine ⟨iG G1 m 5, lk1.trans lkM_i, iG_0, fun Q => ?_⟩
  simp (disch := first | assumption | exact c2_int _ | exact c2_ref _ | exact c2_jk | exact c2_null | omega | exact bI_r _ | exact bI_01 _) only [↓fX10_all_0, ↓fX10_all_1, ↓fX10_all_2, ↓fX10_all_3, ↓fX10_all_6, ↓fX10_all_9, ↓fX10_all_10, ↓fX10_all_13, ↓fX10_all_14, ↓fX10_all_15, ↓fX10_all_18, ↓fX10_all_21, ↓fX10_all_22, ↓fX10_all_25, ↓fX10_all_26, ↓fX10_all_29, ↓fX10_all_32, ↓fX10_all_33, ↓fX10_all_34, ↓fX10_all_35, ↓fX10_all_38, ↓fX10_all_39, ↓fX10_all_40, ↓fX10_all_43, ↓eS, ↓e1, ↓m_isN, and_self, true_and, and_true, false_and, and_false, not_true_eq_false, not_false_eq_true, or_self, true_or, or_true, false_or, or_false, ite_not, Decidable.not_not, decide_eq_true_eq, Bool.not_true, Bool.not_false, Bool.false_eq_true, Bool.not_eq_true, n10, n20, n21, n30, n31, n32, n40, n41, n42, n43, ↓reduceIte]
theorem z_all (hM : MD E r G m n σ) (hP : PM G m a N Sg) (c : 0 ≤ s ∧ s < n) (hn : ngS (σ s.toNat) ≠ -1) : ∃ G', MD E r G' m n (fun t => if t = s.toNat then (smS 600 (σ s.toNat)).1 else σ t) ∧ PM G' m (kpA a) (kpN a N n) (kpN a Sg σ) ∧ G' m 0 = 0 ∧ frM G G' m ∧ ∀ Q, RK MX10_all 0 [.ref m, .int (zi s)] [] (0, 0) (E, zg G, zk L, r) Q = Q (E, zg G', zk L, r) (.int (zi (smS 600 (σ s.toNat)).2)) := by
  have hm := hM.1
  have m0 := hm.1
  have h6 := hM.2.1
  have eS := fun Q => m_isS1 (L := L) (Q := Q) hM c
  obtain ⟨G1, G3, e1, lk1, e3, M3, P3, s3, f3⟩ := z_begin (L := L) hM hP c
  obtain ⟨hl, hW⟩ := M3.2.2 s.toNat (by omega)
  rw [Int.toNat_of_nonneg c.1] at hl
  have gb := (ngS_ok hW hn).1
  have en : nmS (σ s.toNat) = ngS (σ s.toNat) := if_neg hn
  rw [en] at e1
  have h0 : ¬ ngS (σ s.toNat) = 0 := by omega
  obtain ⟨G4, k4, hl4, e4⟩ := m_roundsAll (L := L) hm (s := s) (by omega) hl hW
  refine ⟨G4, MD_set M3 c k4 hl4 (smS_WF 600 _ hW), PM_KW P3 k4, by rw [k4.2.1 0 (by decide), s3], f3.trans (frM_KW k4), fun Q => ?_⟩
  simp (disch := first | assumption | exact c2_int _ | exact c2_ref _ | exact c2_jk | exact c2_null | omega | exact bI_r _ | exact bI_01 _) only [↓fX10_all_0, ↓fX10_all_1, ↓fX10_all_2, ↓fX10_all_3, ↓fX10_all_6, ↓fX10_all_9, ↓fX10_all_10, ↓fX10_all_13, ↓fX10_all_14, ↓fX10_all_15, ↓fX10_all_18, ↓fX10_all_21, ↓fX10_all_22, ↓fX10_all_25, ↓fX10_all_26, ↓fX10_all_29, ↓fX10_all_32, ↓fX10_all_33, ↓fX10_all_34, ↓fX10_all_35, ↓fX10_all_38, ↓fX10_all_39, ↓fX10_all_40, ↓fX10_all_43, ↓eS, ↓e1, ↓m_is0, ↓e3, ↓e4, h0, and_self, true_and, and_true, false_and, and_false, not_true_eq_false, not_false_eq_true, or_self, true_or, or_true, false_or, or_false, ite_not, Decidable.not_not, decide_eq_true_eq, Bool.not_true, Bool.not_false, Bool.false_eq_true, Bool.not_eq_true, n10, n20, n21, n30, n31, n32, n40, n41, n42, n43, ↓reduceIte]
theorem m_indexOf2 (hm : shM E r m) (hs : 0 ≤ s ∧ s ≤ 4) (hl : SL G m s ρ) (e1 : ρ 1 = σ1 1) (e2 : ρ 2 = σ1 2) (e3 : ρ 3 = σ1 3) (hW : WF σ1) (hx : I32 x) : RK MX10_indexOf 0 [.ref m, .int (zi s), .int (zi x), jk] [] (0, 0) (E, zg G, zk L, r) Q = Q (E, zg G, zk L, r) (.int (zi (iXS σ1 x))) := by
  have m0 := hm.1
  obtain ⟨w0, w1, w2, w3, -⟩ := hW
  have ed : iXS σ1 x = iXS ρ x := by unfold iXS; rw [e1, e2, e3]
  rw [← e1] at w1
  rw [← e2] at w2
  rw [← e3] at w3
  rw [ed]
  unfold iXS
  by_cases c1 : x < 0
  · rw [if_pos (by omega)]
    simp (disch := first | assumption | exact c2_int _ | exact c2_ref _ | exact c2_jk | exact c2_null | omega | exact bI_r _ | exact bI_01 _) only [↓fX10_indexOf_0, ↓fX10_indexOf_1, ↓fX10_indexOf_2, ↓fX10_indexOf_3, ↓fX10_indexOf_4, ↓fX10_indexOf_7, ↓fX10_indexOf_8, ↓fX10_indexOf_9, ↓fX10_indexOf_10, ↓fX10_indexOf_13, ↓fX10_indexOf_14, ↓fX10_indexOf_17, ↓fX10_indexOf_18, ↓fX10_indexOf_19, ↓fX10_indexOf_20, ↓fX10_indexOf_21, ↓fX10_indexOf_24, ↓fX10_indexOf_25, ↓fX10_indexOf_28, ↓fX10_indexOf_29, ↓fX10_indexOf_30, ↓fX10_indexOf_31, ↓fX10_indexOf_32, ↓fX10_indexOf_35, ↓fX10_indexOf_36, ↓fX10_indexOf_37, ↓fX10_indexOf_38, ↓fX10_indexOf_39, ↓fX10_indexOf_42, ↓fX10_indexOf_45, ↓fX10_indexOf_46, ↓fX10_indexOf_47, ↓fX10_indexOf_48, ↓fX10_indexOf_49, ↓fX10_indexOf_52, ↓fX10_indexOf_53, ↓fX10_indexOf_56, ↓fX10_indexOf_57, ↓m_of, Int.reduceToNat, c1, and_self, true_and, and_true, false_and, and_false, not_true_eq_false, not_false_eq_true, or_self, true_or, or_true, false_or, or_false, ite_not, Decidable.not_not, decide_eq_true_eq, Bool.not_true, Bool.not_false, Bool.false_eq_true, Bool.not_eq_true, n10, n20, n21, n30, n31, n32, n40, n41, n42, n43, ↓reduceIte]
  · by_cases c2 : x < ρ 1
    · have c3 : x - ρ 1 < 0 := by omega
      rw [if_pos c2]
      simp (disch := first | assumption | exact c2_int _ | exact c2_ref _ | exact c2_jk | exact c2_null | omega | exact bI_r _ | exact bI_01 _) only [↓fX10_indexOf_0, ↓fX10_indexOf_1, ↓fX10_indexOf_2, ↓fX10_indexOf_3, ↓fX10_indexOf_4, ↓fX10_indexOf_7, ↓fX10_indexOf_8, ↓fX10_indexOf_9, ↓fX10_indexOf_10, ↓fX10_indexOf_13, ↓fX10_indexOf_14, ↓fX10_indexOf_17, ↓fX10_indexOf_18, ↓fX10_indexOf_19, ↓fX10_indexOf_20, ↓fX10_indexOf_21, ↓fX10_indexOf_24, ↓fX10_indexOf_25, ↓fX10_indexOf_28, ↓fX10_indexOf_29, ↓fX10_indexOf_30, ↓fX10_indexOf_31, ↓fX10_indexOf_32, ↓fX10_indexOf_35, ↓fX10_indexOf_36, ↓fX10_indexOf_37, ↓fX10_indexOf_38, ↓fX10_indexOf_39, ↓fX10_indexOf_42, ↓fX10_indexOf_45, ↓fX10_indexOf_46, ↓fX10_indexOf_47, ↓fX10_indexOf_48, ↓fX10_indexOf_49, ↓fX10_indexOf_52, ↓fX10_indexOf_53, ↓fX10_indexOf_56, ↓fX10_indexOf_57, ↓m_of, Int.reduceToNat, c1, c3, and_self, true_and, and_true, false_and, and_false, not_true_eq_false, not_false_eq_true, or_self, true_or, or_true, false_or, or_false, ite_not, Decidable.not_not, decide_eq_true_eq, Bool.not_true, Bool.not_false, Bool.false_eq_true, Bool.not_eq_true, n10, n20, n21, n30, n31, n32, n40, n41, n42, n43, ↓reduceIte]
    · have c3 : ¬ x - ρ 1 < 0 := by omega
      have hd : 0 ≤ (x - ρ 1) / ρ 2 := Int.ediv_nonneg (by omega) (by omega)
      have hd2 : (x - ρ 1) / ρ 2 ≤ x - ρ 1 := Int.ediv_le_self _ (by omega)
      have hm0 : 0 ≤ (x - ρ 1) % ρ 2 := Int.emod_nonneg _ (by omega)
      have hm2 : (x - ρ 1) % ρ 2 < ρ 2 := Int.emod_lt_of_pos _ (by omega)
      rw [if_neg c2]
      by_cases c4 : (x - ρ 1) % ρ 2 = 0
      · by_cases c5 : (x - ρ 1) / ρ 2 < ρ 3
        · rw [if_neg (by omega)]
          simp (disch := first | assumption | exact c2_int _ | exact c2_ref _ | exact c2_jk | exact c2_null | omega | exact bI_r _ | exact bI_01 _) only [↓fX10_indexOf_0, ↓fX10_indexOf_1, ↓fX10_indexOf_2, ↓fX10_indexOf_3, ↓fX10_indexOf_4, ↓fX10_indexOf_7, ↓fX10_indexOf_8, ↓fX10_indexOf_9, ↓fX10_indexOf_10, ↓fX10_indexOf_13, ↓fX10_indexOf_14, ↓fX10_indexOf_17, ↓fX10_indexOf_18, ↓fX10_indexOf_19, ↓fX10_indexOf_20, ↓fX10_indexOf_21, ↓fX10_indexOf_24, ↓fX10_indexOf_25, ↓fX10_indexOf_28, ↓fX10_indexOf_29, ↓fX10_indexOf_30, ↓fX10_indexOf_31, ↓fX10_indexOf_32, ↓fX10_indexOf_35, ↓fX10_indexOf_36, ↓fX10_indexOf_37, ↓fX10_indexOf_38, ↓fX10_indexOf_39, ↓fX10_indexOf_42, ↓fX10_indexOf_45, ↓fX10_indexOf_46, ↓fX10_indexOf_47, ↓fX10_indexOf_48, ↓fX10_indexOf_49, ↓fX10_indexOf_52, ↓fX10_indexOf_53, ↓fX10_indexOf_56, ↓fX10_indexOf_57, ↓m_of, Int.reduceToNat, c1, c3, c4, c5, and_self, true_and, and_true, false_and, and_false, not_true_eq_false, not_false_eq_true, or_self, true_or, or_true, false_or, or_false, ite_not, Decidable.not_not, decide_eq_true_eq, Bool.not_true, Bool.not_false, Bool.false_eq_true, Bool.not_eq_true, n10, n20, n21, n30, n31, n32, n40, n41, n42, n43, ↓reduceIte]
        · rw [if_pos (by omega)]
          simp (disch := first | assumption | exact c2_int _ | exact c2_ref _ | exact c2_jk | exact c2_null | omega | exact bI_r _ | exact bI_01 _) only [↓fX10_indexOf_0, ↓fX10_indexOf_1, ↓fX10_indexOf_2, ↓fX10_indexOf_3, ↓fX10_indexOf_4, ↓fX10_indexOf_7, ↓fX10_indexOf_8, ↓fX10_indexOf_9, ↓fX10_indexOf_10, ↓fX10_indexOf_13, ↓fX10_indexOf_14, ↓fX10_indexOf_17, ↓fX10_indexOf_18, ↓fX10_indexOf_19, ↓fX10_indexOf_20, ↓fX10_indexOf_21, ↓fX10_indexOf_24, ↓fX10_indexOf_25, ↓fX10_indexOf_28, ↓fX10_indexOf_29, ↓fX10_indexOf_30, ↓fX10_indexOf_31, ↓fX10_indexOf_32, ↓fX10_indexOf_35, ↓fX10_indexOf_36, ↓fX10_indexOf_37, ↓fX10_indexOf_38, ↓fX10_indexOf_39, ↓fX10_indexOf_42, ↓fX10_indexOf_45, ↓fX10_indexOf_46, ↓fX10_indexOf_47, ↓fX10_indexOf_48, ↓fX10_indexOf_49, ↓fX10_indexOf_52, ↓fX10_indexOf_53, ↓fX10_indexOf_56, ↓fX10_indexOf_57, ↓m_of, Int.reduceToNat, c1, c3, c4, c5, and_self, true_and, and_true, false_and, and_false, not_true_eq_false, not_false_eq_true, or_self, true_or, or_true, false_or, or_false, ite_not, Decidable.not_not, decide_eq_true_eq, Bool.not_true, Bool.not_false, Bool.false_eq_true, Bool.not_eq_true, n10, n20, n21, n30, n31, n32, n40, n41, n42, n43, ↓reduceIte]
      · rw [if_pos (Or.inr c4)]
        simp (disch := first | assumption | exact c2_int _ | exact c2_ref _ | exact c2_jk | exact c2_null | omega | exact bI_r _ | exact bI_01 _) only [↓fX10_indexOf_0, ↓fX10_indexOf_1, ↓fX10_indexOf_2, ↓fX10_indexOf_3, ↓fX10_indexOf_4, ↓fX10_indexOf_7, ↓fX10_indexOf_8, ↓fX10_indexOf_9, ↓fX10_indexOf_10, ↓fX10_indexOf_13, ↓fX10_indexOf_14, ↓fX10_indexOf_17, ↓fX10_indexOf_18, ↓fX10_indexOf_19, ↓fX10_indexOf_20, ↓fX10_indexOf_21, ↓fX10_indexOf_24, ↓fX10_indexOf_25, ↓fX10_indexOf_28, ↓fX10_indexOf_29, ↓fX10_indexOf_30, ↓fX10_indexOf_31, ↓fX10_indexOf_32, ↓fX10_indexOf_35, ↓fX10_indexOf_36, ↓fX10_indexOf_37, ↓fX10_indexOf_38, ↓fX10_indexOf_39, ↓fX10_indexOf_42, ↓fX10_indexOf_45, ↓fX10_indexOf_46, ↓fX10_indexOf_47, ↓fX10_indexOf_48, ↓fX10_indexOf_49, ↓fX10_indexOf_52, ↓fX10_indexOf_53, ↓fX10_indexOf_56, ↓fX10_indexOf_57, ↓m_of, Int.reduceToNat, c1, c3, c4, and_self, true_and, and_true, false_and, and_false, not_true_eq_false, not_false_eq_true, or_self, true_or, or_true, false_or, or_false, ite_not, Decidable.not_not, decide_eq_true_eq, Bool.not_true, Bool.not_false, Bool.false_eq_true, Bool.not_eq_true, n10, n20, n21, n30, n31, n32, n40, n41, n42, n43, ↓reduceIte]
/-- strike -/
theorem strike_loop (hm : shM E r m) (hs : 0 ≤ s ∧ s ≤ 4) (hl : SL G m s σ1) (hW : WF σ1) (ha : LAS G m σ1) {q : Int} (hq : 1 ≤ q ∧ q ≤ szS σ1) (hx : nAS σ1 q = x) : ∀ (k : Nat) (i : Int), q - i ≤ k → 1 ≤ i → i ≤ q → RK MX10_strike 52 [.ref m, .int (zi s), .int (zi x), .int (zi i)] [] (0, 0) (E, zg G, zk L, r) Q = RK MX10_strike 68 [.ref m, .int (zi s), .int (zi x), .int (zi q)] [] (0, 0) (E, zg G, zk L, r) Q := by
  have m0 := hm.1
  have hz := szS_b hW
  have hxb := nAS_0 hW hq
  intro k
  induction k with
  | zero =>
    intro i h1 h2 h3
    have e : i = q := by omega
    rw [e]
    simp (disch := first | assumption | exact c2_int _ | exact c2_ref _ | exact c2_jk | exact c2_null | omega | exact bI_r _ | exact bI_01 _) only [↓fX10_strike_0, ↓fX10_strike_1, ↓fX10_strike_2, ↓fX10_strike_3, ↓fX10_strike_6, ↓fX10_strike_9, ↓fX10_strike_10, ↓fX10_strike_13, ↓fX10_strike_14, ↓fX10_strike_17, ↓fX10_strike_20, ↓fX10_strike_21, ↓fX10_strike_22, ↓fX10_strike_23, ↓fX10_strike_24, ↓fX10_strike_27, ↓fX10_strike_28, ↓fX10_strike_29, ↓fX10_strike_30, ↓fX10_strike_33, ↓fX10_strike_36, ↓fX10_strike_37, ↓fX10_strike_40, ↓fX10_strike_41, ↓fX10_strike_44, ↓fX10_strike_45, ↓fX10_strike_46, ↓fX10_strike_49, ↓fX10_strike_50, ↓fX10_strike_51, ↓fX10_strike_52, ↓fX10_strike_53, ↓fX10_strike_54, ↓fX10_strike_55, ↓fX10_strike_58, ↓fX10_strike_59, ↓fX10_strike_62, ↓fX10_strike_65, ↓fX10_strike_69, ↓fX10_strike_72, ↓fX10_strike_73, ↓fX10_strike_76, ↓fX10_strike_79, ↓fX10_strike_80, ↓fX10_strike_81, ↓fX10_strike_82, ↓fX10_strike_83, ↓fX10_strike_84, ↓fX10_strike_85, ↓fX10_strike_86, ↓fX10_strike_87, ↓fX10_strike_88, ↓fX10_strike_89, ↓fX10_strike_92, ↓fX10_strike_95, ↓fX10_strike_96, ↓fX10_strike_97, ↓fX10_strike_99, ↓fX10_strike_100, ↓fX10_strike_101, ↓fX10_strike_102, ↓fX10_strike_103, ↓fX10_strike_106, ↓fX10_strike_107, ↓fX10_strike_108, ↓fX10_strike_109, ↓fX10_strike_110, ↓fX10_strike_113, ↓fX10_strike_114, ↓fX10_strike_115, ↓fX10_strike_118, ↓fX10_strike_121, ↓fX10_strike_122, ↓fX10_strike_123, ↓fX10_strike_125, ↓fX10_strike_126, ↓fX10_strike_127, ↓fX10_strike_128, ↓fX10_strike_129, ↓fX10_strike_130, ↓fX10_strike_131, ↓fX10_strike_132, ↓m_at, hx, and_self, true_and, and_true, false_and, and_false, not_true_eq_false, not_false_eq_true, or_self, true_or, or_true, false_or, or_false, ite_not, Decidable.not_not, decide_eq_true_eq, Bool.not_true, Bool.not_false, Bool.false_eq_true, Bool.not_eq_true, n10, n20, n21, n30, n31, n32, n40, n41, n42, n43, ↓reduceIte]
  | succ k ih =>
    intro i h1 h2 h3
    by_cases h6 : i = q
    · rw [h6]
      simp (disch := first | assumption | exact c2_int _ | exact c2_ref _ | exact c2_jk | exact c2_null | omega | exact bI_r _ | exact bI_01 _) only [↓fX10_strike_0, ↓fX10_strike_1, ↓fX10_strike_2, ↓fX10_strike_3, ↓fX10_strike_6, ↓fX10_strike_9, ↓fX10_strike_10, ↓fX10_strike_13, ↓fX10_strike_14, ↓fX10_strike_17, ↓fX10_strike_20, ↓fX10_strike_21, ↓fX10_strike_22, ↓fX10_strike_23, ↓fX10_strike_24, ↓fX10_strike_27, ↓fX10_strike_28, ↓fX10_strike_29, ↓fX10_strike_30, ↓fX10_strike_33, ↓fX10_strike_36, ↓fX10_strike_37, ↓fX10_strike_40, ↓fX10_strike_41, ↓fX10_strike_44, ↓fX10_strike_45, ↓fX10_strike_46, ↓fX10_strike_49, ↓fX10_strike_50, ↓fX10_strike_51, ↓fX10_strike_52, ↓fX10_strike_53, ↓fX10_strike_54, ↓fX10_strike_55, ↓fX10_strike_58, ↓fX10_strike_59, ↓fX10_strike_62, ↓fX10_strike_65, ↓fX10_strike_69, ↓fX10_strike_72, ↓fX10_strike_73, ↓fX10_strike_76, ↓fX10_strike_79, ↓fX10_strike_80, ↓fX10_strike_81, ↓fX10_strike_82, ↓fX10_strike_83, ↓fX10_strike_84, ↓fX10_strike_85, ↓fX10_strike_86, ↓fX10_strike_87, ↓fX10_strike_88, ↓fX10_strike_89, ↓fX10_strike_92, ↓fX10_strike_95, ↓fX10_strike_96, ↓fX10_strike_97, ↓fX10_strike_99, ↓fX10_strike_100, ↓fX10_strike_101, ↓fX10_strike_102, ↓fX10_strike_103, ↓fX10_strike_106, ↓fX10_strike_107, ↓fX10_strike_108, ↓fX10_strike_109, ↓fX10_strike_110, ↓fX10_strike_113, ↓fX10_strike_114, ↓fX10_strike_115, ↓fX10_strike_118, ↓fX10_strike_121, ↓fX10_strike_122, ↓fX10_strike_123, ↓fX10_strike_125, ↓fX10_strike_126, ↓fX10_strike_127, ↓fX10_strike_128, ↓fX10_strike_129, ↓fX10_strike_130, ↓fX10_strike_131, ↓fX10_strike_132, ↓m_at, hx, and_self, true_and, and_true, false_and, and_false, not_true_eq_false, not_false_eq_true, or_self, true_or, or_true, false_or, or_false, ite_not, Decidable.not_not, decide_eq_true_eq, Bool.not_true, Bool.not_false, Bool.false_eq_true, Bool.not_eq_true, n10, n20, n21, n30, n31, n32, n40, n41, n42, n43, ↓reduceIte]
    · have hb := nAS_0 hW (p := i) (by omega)
      have hne : ¬ nAS σ1 i = x := fun z => h6 (nAS_inj hW (by omega) hq (z.trans hx.symm))
      have ih' := ih (i + 1) (by omega) (by omega) (by omega)
      rw [fX10_strike_52]
      simp (disch := first | assumption | exact c2_int _ | exact c2_ref _ | exact c2_jk | exact c2_null | omega | exact bI_r _ | exact bI_01 _) only [↓fX10_strike_0, ↓fX10_strike_1, ↓fX10_strike_2, ↓fX10_strike_3, ↓fX10_strike_6, ↓fX10_strike_9, ↓fX10_strike_10, ↓fX10_strike_13, ↓fX10_strike_14, ↓fX10_strike_17, ↓fX10_strike_20, ↓fX10_strike_21, ↓fX10_strike_22, ↓fX10_strike_23, ↓fX10_strike_24, ↓fX10_strike_27, ↓fX10_strike_28, ↓fX10_strike_29, ↓fX10_strike_30, ↓fX10_strike_33, ↓fX10_strike_36, ↓fX10_strike_37, ↓fX10_strike_40, ↓fX10_strike_41, ↓fX10_strike_44, ↓fX10_strike_45, ↓fX10_strike_46, ↓fX10_strike_49, ↓fX10_strike_50, ↓fX10_strike_51, ↓fX10_strike_53, ↓fX10_strike_54, ↓fX10_strike_55, ↓fX10_strike_58, ↓fX10_strike_59, ↓fX10_strike_62, ↓fX10_strike_65, ↓fX10_strike_69, ↓fX10_strike_72, ↓fX10_strike_73, ↓fX10_strike_76, ↓fX10_strike_79, ↓fX10_strike_80, ↓fX10_strike_81, ↓fX10_strike_82, ↓fX10_strike_83, ↓fX10_strike_84, ↓fX10_strike_85, ↓fX10_strike_86, ↓fX10_strike_87, ↓fX10_strike_88, ↓fX10_strike_89, ↓fX10_strike_92, ↓fX10_strike_95, ↓fX10_strike_96, ↓fX10_strike_97, ↓fX10_strike_99, ↓fX10_strike_100, ↓fX10_strike_101, ↓fX10_strike_102, ↓fX10_strike_103, ↓fX10_strike_106, ↓fX10_strike_107, ↓fX10_strike_108, ↓fX10_strike_109, ↓fX10_strike_110, ↓fX10_strike_113, ↓fX10_strike_114, ↓fX10_strike_115, ↓fX10_strike_118, ↓fX10_strike_121, ↓fX10_strike_122, ↓fX10_strike_123, ↓fX10_strike_125, ↓fX10_strike_126, ↓fX10_strike_127, ↓fX10_strike_128, ↓fX10_strike_129, ↓fX10_strike_130, ↓fX10_strike_131, ↓fX10_strike_132, ↓m_at, hne, ↓ih', and_self, true_and, and_true, false_and, and_false, not_true_eq_false, not_false_eq_true, or_self, true_or, or_true, false_or, or_false, ite_not, Decidable.not_not, decide_eq_true_eq, Bool.not_true, Bool.not_false, Bool.false_eq_true, Bool.not_eq_true, n10, n20, n21, n30, n31, n32, n40, n41, n42, n43, ↓reduceIte]
theorem hd_up {i : Nat} : upF (upF (upF σ1 5 (σ1 5 + 1)) (20 + i) (σ1 5 + 1)) 6 (σ1 6 + 1) = hdS σ1 i := by
  funext k
  simp only [upF, hdS]
  by_cases k6 : k = 6
  · rw [if_pos k6, if_neg (by omega), if_pos k6]
  · rw [if_neg k6, if_neg k6]
    by_cases k5 : k = 5
    · rw [if_neg (show ¬ k = 20 + i by omega), if_pos k5, if_pos k5]
    · rw [if_neg k5, if_neg k5]
theorem z_strike2 (hM : MD E r G m n σ) (hs : I32 s) (c : ¬ (0 ≤ s ∧ s < n)) : RK MX10_strike 0 [.ref m, .int (zi s), .int (zi x), jk] [] (0, 0) (E, zg G, zk L, r) Q = Q (E, zg (iG G m 2), zk L, r) (.int (zi (-1))) := by
  have hm := hM.1
  have m0 := hm.1
  have eS := fun Q => m_isS0 (L := L) (Q := Q) hM hs c
  simp (disch := first | assumption | exact c2_int _ | exact c2_ref _ | exact c2_jk | exact c2_null | omega | exact bI_r _ | exact bI_01 _) only [↓fX10_strike_0, ↓fX10_strike_1, ↓fX10_strike_2, ↓fX10_strike_3, ↓fX10_strike_6, ↓fX10_strike_9, ↓fX10_strike_10, ↓fX10_strike_13, ↓fX10_strike_14, ↓fX10_strike_17, ↓fX10_strike_20, ↓fX10_strike_21, ↓fX10_strike_22, ↓fX10_strike_23, ↓fX10_strike_24, ↓fX10_strike_27, ↓fX10_strike_28, ↓fX10_strike_29, ↓fX10_strike_30, ↓fX10_strike_33, ↓fX10_strike_36, ↓fX10_strike_37, ↓fX10_strike_40, ↓fX10_strike_41, ↓fX10_strike_44, ↓fX10_strike_45, ↓fX10_strike_46, ↓fX10_strike_49, ↓fX10_strike_50, ↓fX10_strike_51, ↓fX10_strike_52, ↓fX10_strike_53, ↓fX10_strike_54, ↓fX10_strike_55, ↓fX10_strike_58, ↓fX10_strike_59, ↓fX10_strike_62, ↓fX10_strike_65, ↓fX10_strike_68, ↓fX10_strike_69, ↓fX10_strike_72, ↓fX10_strike_73, ↓fX10_strike_76, ↓fX10_strike_79, ↓fX10_strike_80, ↓fX10_strike_81, ↓fX10_strike_82, ↓fX10_strike_83, ↓fX10_strike_84, ↓fX10_strike_85, ↓fX10_strike_86, ↓fX10_strike_87, ↓fX10_strike_88, ↓fX10_strike_89, ↓fX10_strike_92, ↓fX10_strike_95, ↓fX10_strike_96, ↓fX10_strike_97, ↓fX10_strike_99, ↓fX10_strike_100, ↓fX10_strike_101, ↓fX10_strike_102, ↓fX10_strike_103, ↓fX10_strike_106, ↓fX10_strike_107, ↓fX10_strike_108, ↓fX10_strike_109, ↓fX10_strike_110, ↓fX10_strike_113, ↓fX10_strike_114, ↓fX10_strike_115, ↓fX10_strike_118, ↓fX10_strike_121, ↓fX10_strike_122, ↓fX10_strike_123, ↓fX10_strike_125, ↓fX10_strike_126, ↓fX10_strike_127, ↓fX10_strike_128, ↓fX10_strike_129, ↓fX10_strike_130, ↓fX10_strike_131, ↓fX10_strike_132, ↓eS, ↓m_isN, and_self, true_and, and_true, false_and, and_false, not_true_eq_false, not_false_eq_true, or_self, true_or, or_true, false_or, or_false, ite_not, Decidable.not_not, decide_eq_true_eq, Bool.not_true, Bool.not_false, Bool.false_eq_true, Bool.not_eq_true, n10, n20, n21, n30, n31, n32, n40, n41, n42, n43, ↓reduceIte]
theorem z_strike5 (hM : MD E r G m n σ) (hx : I32 x) (c : 0 ≤ s ∧ s < n) (hn : hasS (σ s.toNat) x = false ∨ szS (σ s.toNat) < 2) : ∃ G', lkM G G' m ∧ G' m 0 = 5 ∧ ∀ Q, RK MX10_strike 0 [.ref m, .int (zi s), .int (zi x), jk] [] (0, 0) (E, zg G, zk L, r) Q = Q (E, zg G', zk L, r) (.int (zi (-1))) := by
  have hm := hM.1
  have m0 := hm.1
  have h6 := hM.2.1
  have eS := fun Q => m_isS1 (L := L) (Q := Q) hM c
  obtain ⟨hl, hW⟩ := hM.2.2 s.toNat (by omega)
  rw [Int.toNat_of_nonneg c.1] at hl
  have hz := szS_b hW
  obtain ⟨G2, hl2, ha, h12, h20, lk2, tr, eN⟩ := m_now (L := L) hm (show 0 ≤ s ∧ s ≤ 4 by omega) hl hW
  have eT := fun Q => m_isThere (L := L) (Q := Q) hm (s := s) (by omega) hl2 hW hx
  refine ⟨u2 G2 m 0 5, lk2.trans lkM_0, u2_s _ _ _ _, fun Q => ?_⟩
  by_cases h1 : hasS (σ s.toNat) x = true
  · have h2 : szS (σ s.toNat) = 1 := by
      rcases hn with hn | hn
      · rw [hn] at h1
        exact absurd h1 (by decide)
      · omega
    rw [bI_p h1] at eT
    simp (disch := first | assumption | exact c2_int _ | exact c2_ref _ | exact c2_jk | exact c2_null | omega | exact bI_r _ | exact bI_01 _) only [↓fX10_strike_0, ↓fX10_strike_1, ↓fX10_strike_2, ↓fX10_strike_3, ↓fX10_strike_6, ↓fX10_strike_9, ↓fX10_strike_10, ↓fX10_strike_13, ↓fX10_strike_14, ↓fX10_strike_17, ↓fX10_strike_20, ↓fX10_strike_21, ↓fX10_strike_22, ↓fX10_strike_23, ↓fX10_strike_24, ↓fX10_strike_27, ↓fX10_strike_28, ↓fX10_strike_29, ↓fX10_strike_30, ↓fX10_strike_33, ↓fX10_strike_36, ↓fX10_strike_37, ↓fX10_strike_40, ↓fX10_strike_41, ↓fX10_strike_44, ↓fX10_strike_45, ↓fX10_strike_46, ↓fX10_strike_49, ↓fX10_strike_50, ↓fX10_strike_51, ↓fX10_strike_52, ↓fX10_strike_53, ↓fX10_strike_54, ↓fX10_strike_55, ↓fX10_strike_58, ↓fX10_strike_59, ↓fX10_strike_62, ↓fX10_strike_65, ↓fX10_strike_68, ↓fX10_strike_69, ↓fX10_strike_72, ↓fX10_strike_73, ↓fX10_strike_76, ↓fX10_strike_79, ↓fX10_strike_80, ↓fX10_strike_81, ↓fX10_strike_82, ↓fX10_strike_83, ↓fX10_strike_84, ↓fX10_strike_85, ↓fX10_strike_86, ↓fX10_strike_87, ↓fX10_strike_88, ↓fX10_strike_89, ↓fX10_strike_92, ↓fX10_strike_95, ↓fX10_strike_96, ↓fX10_strike_97, ↓fX10_strike_99, ↓fX10_strike_100, ↓fX10_strike_101, ↓fX10_strike_102, ↓fX10_strike_103, ↓fX10_strike_106, ↓fX10_strike_107, ↓fX10_strike_108, ↓fX10_strike_109, ↓fX10_strike_110, ↓fX10_strike_113, ↓fX10_strike_114, ↓fX10_strike_115, ↓fX10_strike_118, ↓fX10_strike_121, ↓fX10_strike_122, ↓fX10_strike_123, ↓fX10_strike_125, ↓fX10_strike_126, ↓fX10_strike_127, ↓fX10_strike_128, ↓fX10_strike_129, ↓fX10_strike_130, ↓fX10_strike_131, ↓fX10_strike_132, ↓eS, ↓m_is0, ↓eN, ↓eT, ↓m_refuse, h12, h2, and_self, true_and, and_true, false_and, and_false, not_true_eq_false, not_false_eq_true, or_self, true_or, or_true, false_or, or_false, ite_not, Decidable.not_not, decide_eq_true_eq, Bool.not_true, Bool.not_false, Bool.false_eq_true, Bool.not_eq_true, n10, n20, n21, n30, n31, n32, n40, n41, n42, n43, ↓reduceIte]
  · rw [bI_n h1] at eT
    simp (disch := first | assumption | exact c2_int _ | exact c2_ref _ | exact c2_jk | exact c2_null | omega | exact bI_r _ | exact bI_01 _) only [↓fX10_strike_0, ↓fX10_strike_1, ↓fX10_strike_2, ↓fX10_strike_3, ↓fX10_strike_6, ↓fX10_strike_9, ↓fX10_strike_10, ↓fX10_strike_13, ↓fX10_strike_14, ↓fX10_strike_17, ↓fX10_strike_20, ↓fX10_strike_21, ↓fX10_strike_22, ↓fX10_strike_23, ↓fX10_strike_24, ↓fX10_strike_27, ↓fX10_strike_28, ↓fX10_strike_29, ↓fX10_strike_30, ↓fX10_strike_33, ↓fX10_strike_36, ↓fX10_strike_37, ↓fX10_strike_40, ↓fX10_strike_41, ↓fX10_strike_44, ↓fX10_strike_45, ↓fX10_strike_46, ↓fX10_strike_49, ↓fX10_strike_50, ↓fX10_strike_51, ↓fX10_strike_52, ↓fX10_strike_53, ↓fX10_strike_54, ↓fX10_strike_55, ↓fX10_strike_58, ↓fX10_strike_59, ↓fX10_strike_62, ↓fX10_strike_65, ↓fX10_strike_68, ↓fX10_strike_69, ↓fX10_strike_72, ↓fX10_strike_73, ↓fX10_strike_76, ↓fX10_strike_79, ↓fX10_strike_80, ↓fX10_strike_81, ↓fX10_strike_82, ↓fX10_strike_83, ↓fX10_strike_84, ↓fX10_strike_85, ↓fX10_strike_86, ↓fX10_strike_87, ↓fX10_strike_88, ↓fX10_strike_89, ↓fX10_strike_92, ↓fX10_strike_95, ↓fX10_strike_96, ↓fX10_strike_97, ↓fX10_strike_99, ↓fX10_strike_100, ↓fX10_strike_101, ↓fX10_strike_102, ↓fX10_strike_103, ↓fX10_strike_106, ↓fX10_strike_107, ↓fX10_strike_108, ↓fX10_strike_109, ↓fX10_strike_110, ↓fX10_strike_113, ↓fX10_strike_114, ↓fX10_strike_115, ↓fX10_strike_118, ↓fX10_strike_121, ↓fX10_strike_122, ↓fX10_strike_123, ↓fX10_strike_125, ↓fX10_strike_126, ↓fX10_strike_127, ↓fX10_strike_128, ↓fX10_strike_129, ↓fX10_strike_130, ↓fX10_strike_131, ↓fX10_strike_132, ↓eS, ↓m_is0, ↓eN, ↓eT, ↓m_refuse, and_self, true_and, and_true, false_and, and_false, not_true_eq_false, not_false_eq_true, or_self, true_or, or_true, false_or, or_false, ite_not, Decidable.not_not, decide_eq_true_eq, Bool.not_true, Bool.not_false, Bool.false_eq_true, Bool.not_eq_true, n10, n20, n21, n30, n31, n32, n40, n41, n42, n43, ↓reduceIte]
theorem z_strike (hM : MD E r G m n σ) (hP : PM G m a N Sg) (hx : I32 x) (c : 0 ≤ s ∧ s < n) {i0 : Nat} (hi : iXS (σ s.toNat) x = i0) (hh : hbS (σ s.toNat) i0 = true) (h2 : 2 ≤ szS (σ s.toNat)) : ∃ G', MD E r G' m n (fun t => if t = s.toNat then hdS (σ s.toNat) i0 else σ t) ∧ PM G' m (kpA a) (kpN a N n) (kpN a Sg σ) ∧ G' m 0 = 0 ∧ frM G G' m ∧ ∀ Q, RK MX10_strike 0 [.ref m, .int (zi s), .int (zi x), jk] [] (0, 0) (E, zg G, zk L, r) Q = Q (E, zg G', zk L, r) (.int (zi (poZ (σ s.toNat) x))) := by
  have hm := hM.1
  have m0 := hm.1
  have h6 := hM.2.1
  obtain ⟨ka1, la1, ra1⟩ := hm.2.1
  have eS := fun Q => m_isS1 (L := L) (Q := Q) hM c
  obtain ⟨hl, hW⟩ := hM.2.2 s.toNat (by omega)
  rw [Int.toNat_of_nonneg c.1] at hl
  have hz := szS_b hW
  have w3 := hW.2.2.2.1
  have hib := iXS_b hW x
  have hs4 : 0 ≤ s ∧ s ≤ 4 := by omega
  obtain ⟨G2, hl2, ha, h12, h20, lk2, tr, eN⟩ := m_now (L := L) hm hs4 hl hW
  have eT := fun Q => m_isThere (L := L) (Q := Q) hm (s := s) hs4 hl2 hW hx
  have h1 : hasS (σ s.toNat) x = true := by
    rw [hasS_hb (by omega), hi]
    exact hh
  rw [bI_p h1] at eT
  obtain ⟨q, q1, q2, q3, -⟩ := hasS_p hW h1
  have eq : poZ (σ s.toNat) x = q := by rw [← q3]; exact poZ_at hW ⟨q1, q2⟩
  have lp := fun Q => strike_loop (L := L) (Q := Q) hm hs4 hl2 hW ha ⟨q1, q2⟩ q3 600 1 (by omega) (by omega) q1
  have hM2 := MD_lk hM lk2
  obtain ⟨G3, f1, f2, P3, e3⟩ := m_remembers (L := L) hM2 (PM_lk hP lk2)
  have M3 := MD_rem hM2 f1 f2
  have hl3 : SL G3 m s (σ s.toNat) := by
    have := (M3.2.2 s.toNat (by omega)).1
    rw [Int.toNat_of_nonneg c.1] at this
    exact this
  have hid := ws_id hs4.1 hl3
  have u5 := ws_up (G := G3) (m := m) (ρ := σ s.toNat) (v := σ s.toNat 5 + 1) hs4.1 (k := 5) (by decide) (q := (1824 * s + 5).toNat) (by omega)
  rw [hid] at u5
  have u20 := ws_up (G := G3) (m := m) (ρ := upF (σ s.toNat) 5 (σ s.toNat 5 + 1)) (v := σ s.toNat 5 + 1) hs4.1 (k := 20 + i0) (by omega) (q := (1824 * s + 20 + (i0 : Int)).toNat) (by omega)
  have u6 := ws_up (G := G3) (m := m) (ρ := upF (upF (σ s.toNat) 5 (σ s.toNat 5 + 1)) (20 + i0) (σ s.toNat 5 + 1)) (v := σ s.toNat 6 + 1) hs4.1 (k := 6) (by decide) (q := (1824 * s + 6).toNat) (by omega)
  rw [hd_up] at u6
  have r5 : G3 (m + 1) (1824 * s + 5).toNat = σ s.toNat 5 := hl3 5 (by decide)
  have hlA : SL (wsG G3 m s (upF (σ s.toNat) 5 (σ s.toNat 5 + 1))) m s (upF (σ s.toNat) 5 (σ s.toNat 5 + 1)) := ws_SL hs4.1
  have hlB : SL (wsG G3 m s (upF (upF (σ s.toNat) 5 (σ s.toNat 5 + 1)) (20 + i0) (σ s.toNat 5 + 1))) m s (upF (upF (σ s.toNat) 5 (σ s.toNat 5 + 1)) (20 + i0) (σ s.toNat 5 + 1)) := ws_SL hs4.1
  have r6 : wsG G3 m s (upF (upF (σ s.toNat) 5 (σ s.toNat 5 + 1)) (20 + i0) (σ s.toNat 5 + 1)) (m + 1) (1824 * s + 6).toNat = σ s.toNat 6 := by
    have := hlB 6 (by decide)
    rw [show (1824 * s + ((6 : Nat) : Int)).toNat = (1824 * s + 6).toNat from rfl] at this
    rw [this]
    show (if 6 = 20 + i0 then _ else if 6 = 5 then _ else σ s.toNat 6) = _
    rw [if_neg (by omega), if_neg (by decide)]
  have eo : ∀ Q, RK MX10_of 0 [.ref m, .int (zi s), .int (zi 5)] [] (0, 0) (E, zg (wsG G3 m s (upF (σ s.toNat) 5 (σ s.toNat 5 + 1))), zk L, r) Q = Q (E, zg (wsG G3 m s (upF (σ s.toNat) 5 (σ s.toNat 5 + 1))), zk L, r) (.int (zi (σ s.toNat 5 + 1))) := fun Q => by
    rw [m_of hm hs4 (by decide) hlA]
    rfl
  have eI : ∀ Q, RK MX10_indexOf 0 [.ref m, .int (zi s), .int (zi x), jk] [] (0, 0) (E, zg (wsG G3 m s (upF (σ s.toNat) 5 (σ s.toNat 5 + 1))), zk L, r) Q = Q (E, zg (wsG G3 m s (upF (σ s.toNat) 5 (σ s.toNat 5 + 1))), zk L, r) (.int (zi (i0 : Int))) := fun Q => by
    have hl4 : SL (wsG G3 m s (upF (σ s.toNat) 5 (σ s.toNat 5 + 1))) m s (upF (σ s.toNat) 5 (σ s.toNat 5 + 1)) := hlA
    have := m_indexOf2 (L := L) (Q := Q) (σ1 := σ s.toNat) hm hs4 hl4 rfl rfl rfl hW hx
    rw [this, hi]
  have h1' : ¬ szS (σ s.toNat) = 1 := by omega
  rw [eq]
  refine ⟨wsG G3 m s (hdS (σ s.toNat) i0), MD_set M3 c KW_ws (ws_SL hs4.1) (hdS_WF hW (by omega) hh h2).1, PM_KW P3 (KW_ws (s := s)), ?_, ((frM_lk lk2).trans (frM_rem f1 f2)).trans (frM_KW (KW_ws (s := s))), fun Q => ?_⟩
  · rw [ws_q (by omega), f2 0 (by decide), h20]
  · simp (disch := first | assumption | exact c2_int _ | exact c2_ref _ | exact c2_jk | exact c2_null | omega | exact bI_r _ | exact bI_01 _) only [↓fX10_strike_0, ↓fX10_strike_1, ↓fX10_strike_2, ↓fX10_strike_3, ↓fX10_strike_6, ↓fX10_strike_9, ↓fX10_strike_10, ↓fX10_strike_13, ↓fX10_strike_14, ↓fX10_strike_17, ↓fX10_strike_20, ↓fX10_strike_21, ↓fX10_strike_22, ↓fX10_strike_23, ↓fX10_strike_24, ↓fX10_strike_27, ↓fX10_strike_28, ↓fX10_strike_29, ↓fX10_strike_30, ↓fX10_strike_33, ↓fX10_strike_36, ↓fX10_strike_37, ↓fX10_strike_40, ↓fX10_strike_41, ↓fX10_strike_44, ↓fX10_strike_45, ↓fX10_strike_46, ↓fX10_strike_49, ↓fX10_strike_50, ↓fX10_strike_51, ↓fX10_strike_53, ↓fX10_strike_54, ↓fX10_strike_55, ↓fX10_strike_58, ↓fX10_strike_59, ↓fX10_strike_62, ↓fX10_strike_65, ↓fX10_strike_69, ↓fX10_strike_72, ↓fX10_strike_73, ↓fX10_strike_76, ↓fX10_strike_79, ↓fX10_strike_80, ↓fX10_strike_81, ↓fX10_strike_82, ↓fX10_strike_83, ↓fX10_strike_84, ↓fX10_strike_85, ↓fX10_strike_86, ↓fX10_strike_87, ↓fX10_strike_88, ↓fX10_strike_89, ↓fX10_strike_92, ↓fX10_strike_95, ↓fX10_strike_96, ↓fX10_strike_97, ↓fX10_strike_99, ↓fX10_strike_100, ↓fX10_strike_101, ↓fX10_strike_102, ↓fX10_strike_103, ↓fX10_strike_106, ↓fX10_strike_107, ↓fX10_strike_108, ↓fX10_strike_109, ↓fX10_strike_110, ↓fX10_strike_113, ↓fX10_strike_114, ↓fX10_strike_115, ↓fX10_strike_118, ↓fX10_strike_121, ↓fX10_strike_122, ↓fX10_strike_123, ↓fX10_strike_125, ↓fX10_strike_126, ↓fX10_strike_127, ↓fX10_strike_128, ↓fX10_strike_129, ↓fX10_strike_130, ↓fX10_strike_131, ↓fX10_strike_132, ↓eS, ↓m_is0, ↓eN, ↓eT, ↓lp, h12, h1', and_self, true_and, and_true, false_and, and_false, not_true_eq_false, not_false_eq_true, or_self, true_or, or_true, false_or, or_false, ite_not, Decidable.not_not, decide_eq_true_eq, Bool.not_true, Bool.not_false, Bool.false_eq_true, Bool.not_eq_true, n10, n20, n21, n30, n31, n32, n40, n41, n42, n43, ↓reduceIte]
    rw [fX10_strike_68]
    simp (disch := first | assumption | exact c2_int _ | exact c2_ref _ | exact c2_jk | exact c2_null | omega | exact bI_r _ | exact bI_01 _) only [↓fX10_strike_0, ↓fX10_strike_1, ↓fX10_strike_2, ↓fX10_strike_3, ↓fX10_strike_6, ↓fX10_strike_9, ↓fX10_strike_10, ↓fX10_strike_13, ↓fX10_strike_14, ↓fX10_strike_17, ↓fX10_strike_20, ↓fX10_strike_21, ↓fX10_strike_22, ↓fX10_strike_23, ↓fX10_strike_24, ↓fX10_strike_27, ↓fX10_strike_28, ↓fX10_strike_29, ↓fX10_strike_30, ↓fX10_strike_33, ↓fX10_strike_36, ↓fX10_strike_37, ↓fX10_strike_40, ↓fX10_strike_41, ↓fX10_strike_44, ↓fX10_strike_45, ↓fX10_strike_46, ↓fX10_strike_49, ↓fX10_strike_50, ↓fX10_strike_51, ↓fX10_strike_53, ↓fX10_strike_54, ↓fX10_strike_55, ↓fX10_strike_58, ↓fX10_strike_59, ↓fX10_strike_62, ↓fX10_strike_65, ↓fX10_strike_69, ↓fX10_strike_72, ↓fX10_strike_73, ↓fX10_strike_76, ↓fX10_strike_79, ↓fX10_strike_80, ↓fX10_strike_81, ↓fX10_strike_82, ↓fX10_strike_83, ↓fX10_strike_84, ↓fX10_strike_85, ↓fX10_strike_86, ↓fX10_strike_87, ↓fX10_strike_88, ↓fX10_strike_89, ↓fX10_strike_92, ↓fX10_strike_95, ↓fX10_strike_96, ↓fX10_strike_97, ↓fX10_strike_99, ↓fX10_strike_100, ↓fX10_strike_101, ↓fX10_strike_102, ↓fX10_strike_103, ↓fX10_strike_106, ↓fX10_strike_107, ↓fX10_strike_108, ↓fX10_strike_109, ↓fX10_strike_110, ↓fX10_strike_113, ↓fX10_strike_114, ↓fX10_strike_115, ↓fX10_strike_118, ↓fX10_strike_121, ↓fX10_strike_122, ↓fX10_strike_123, ↓fX10_strike_125, ↓fX10_strike_126, ↓fX10_strike_127, ↓fX10_strike_128, ↓fX10_strike_129, ↓fX10_strike_130, ↓fX10_strike_131, ↓fX10_strike_132, ↓e3, ↓eI, ↓eo, r5, u5, u20, r6, u6, and_self, true_and, and_true, false_and, and_false, not_true_eq_false, not_false_eq_true, or_self, true_or, or_true, false_or, or_false, ite_not, Decidable.not_not, decide_eq_true_eq, Bool.not_true, Bool.not_false, Bool.false_eq_true, Bool.not_eq_true, n10, n20, n21, n30, n31, n32, n40, n41, n42, n43, ↓reduceIte]
end BM
