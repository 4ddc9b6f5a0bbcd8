/-! The reference's reader: numbers, names. -/
def nmI (B : Int → Int) (st : StT) : Int := match st with
  | .error _ => 0
  | .ok T => bI (T.1 = 2 ∧ resT B T = false)
def nmT (B : Int → Int) (n : Int) (f g : Nat → Int) (c : Nat) (st : StT) : StT := match st with
  | .error e => .error e
  | .ok T => rdName B n f g c T
/-- the names so far -/
def nmR (G L : Nat → Nat → Int) (m : Nat) (B : Int → Int) (f g : Nat → Int) (c : Nat) : Prop := G m 32 = c ∧ ∀ i, i < c → wrdB B (f i) (g i) ∧ L (m + 12) i = wvS B (f i) (g i - f i).toNat
section BM
variable {E : AE} {G G1 G2 G' L L' L1 L2 : Nat → Nat → Int} {r : Nat → Nat → Option Nat} {h : AH} {Q : AH → Value → Prop} {m M c : Nat} {B : Int → Int} {T : TkT} {st : StT} {f g : Nat → Int} {s e y x w i p v lo hi t b d n : Int}
theorem m_takesNumber (hm : shM E r m) (hS : rdS G L m B n st) (hl : 0 ≤ lo ∧ lo ≤ 10000) (hh : 0 ≤ hi ∧ hi ≤ 10000) : ∃ G' L', prW G L G' L' m ∧ rdS G' L' m B n (nbS B n st lo hi) ∧ ∀ Q, RK MX10_takesNumber 0 [.ref m, .int (zi lo), .int (zi hi), jk] [] (0, 0) (E, zg G, zk L, r) Q = Q (E, zg G', zk L', r) (.int (zi (nbV B n st lo hi))) := by
  have m0 := hm.1
  obtain ⟨h1, h2, h3, h4, h4b, h5⟩ := id hS
  have hc1 : ∃ c1 : Int, (c1 = 0 ∨ c1 = 1) ∧ (c1 = 1 ↔ G m 25 = 2) := by
    by_cases q : G m 25 = 2
    · exact ⟨1, Or.inr rfl, ⟨fun _ => q, fun _ => rfl⟩⟩
    · exact ⟨0, Or.inl rfl, ⟨fun z => absurd z (by decide), fun z => absurd z q⟩⟩
  obtain ⟨c1, d1, d2⟩ := hc1
  obtain ⟨G1, f1, s1, j1, e1⟩ := m_must (y := 2) hm hS d1 (by decide)
  have k26 := j1 26 (by decide) (by decide)
  have hin := bI_01 (lo ≤ G m 26 ∧ G m 26 ≤ hi)
  obtain ⟨G2, f2, s2, j2, e2⟩ := m_must (y := 3) hm s1 hin (by decide)
  have l26 : G2 m 26 = G m 26 := (j2 26 (by decide) (by decide)).trans k26
  have eN : nxS B n (mustS (mustS st c1 2) (bI (lo ≤ G m 26 ∧ G m 26 ≤ hi)) 3) = nbS B n st lo hi ∧ (∀ T, mustS (mustS st c1 2) (bI (lo ≤ G m 26 ∧ G m 26 ≤ hi)) 3 = .ok T → T.1 = 2 ∨ T.1 = 3 ∨ T.1 = 4) ∧ (if gdI (nbS B n st lo hi) = 1 then G m 26 else lo) = nbV B n st lo hi ∧ (gdI (nbS B n st lo hi) = 0 ∨ gdI (nbS B n st lo hi) = 1) := by
    cases st with
    | error e => exact ⟨rfl, fun T h => (by cases h), if_neg (show ¬ (0 : Int) = 1 by decide), Or.inl rfl⟩
    | ok T =>
      obtain ⟨h6, ht, hr⟩ := h5
      have sb := srM_b hr.1
      have e25 := ht.2.1
      by_cases c3 : T.1 = 3
      · have e1' : c1 = 1 := d2.mpr (by rw [e25]; exact sb.2.2.2.1.mpr c3)
        have e26 := ht.2.2.2.1 c3
        have em1 : mustS (.ok T) c1 2 = .ok T := by
          unfold mustS
          dsimp only
          rw [if_pos e1']
        rw [em1, e26]
        by_cases c4 : lo ≤ T.2.2.2 ∧ T.2.2.2 ≤ hi
        · have er : rdNum B n lo hi T = .ok (T.2.2.2, nxT B n T.2.2.1) := by unfold rdNum; rw [if_pos c3, if_pos c4]
          have em2 : mustS (.ok T) (bI (lo ≤ T.2.2.2 ∧ T.2.2.2 ≤ hi)) 3 = .ok T := by
            unfold mustS
            dsimp only
            rw [if_pos (bI_p c4)]
          have en : nbS B n (.ok T) lo hi = .ok (nxT B n T.2.2.1) := by
            unfold nbS
            dsimp only
            rw [er]
          have ev : nbV B n (.ok T) lo hi = T.2.2.2 := by
            unfold nbV
            dsimp only
            rw [er]
          rw [em2, en, ev]
          exact ⟨rfl, fun T' h => by cases h; exact Or.inr (Or.inl c3), if_pos rfl, Or.inr rfl⟩
        · have er : rdNum B n lo hi T = .error (3, T) := by unfold rdNum; rw [if_pos c3, if_neg c4]
          have em2 : mustS (.ok T) (bI (lo ≤ T.2.2.2 ∧ T.2.2.2 ≤ hi)) 3 = .error (3, T) := by
            unfold mustS
            dsimp only
            rw [if_neg (by rw [bI_n c4]; decide), if_neg (by decide)]
          have en : nbS B n (.ok T) lo hi = .error (3, T) := by
            unfold nbS
            dsimp only
            rw [er]
          have ev : nbV B n (.ok T) lo hi = lo := by
            unfold nbV
            dsimp only
            rw [er]
          rw [em2, en, ev]
          exact ⟨rfl, fun T' h => by (cases h), if_neg (show ¬ (0 : Int) = 1 by decide), Or.inl rfl⟩
      · have e1' : ¬ c1 = 1 := fun z => c3 (sb.2.2.2.1.mp (by rw [← e25]; exact d2.mp z))
        have er : rdNum B n lo hi T = .error (unK T, T) := by unfold rdNum; rw [if_neg c3]
        have em1 : mustS (.ok T) c1 2 = .error (unK T, T) := by
          unfold mustS
          dsimp only
          rw [if_neg e1', if_pos rfl]
        have en : nbS B n (.ok T) lo hi = .error (unK T, T) := by
          unfold nbS
          dsimp only
          rw [er]
        have ev : nbV B n (.ok T) lo hi = lo := by
          unfold nbV
          dsimp only
          rw [er]
        rw [em1, en, ev]
        exact ⟨rfl, fun T' h => by (cases h), if_neg (show ¬ (0 : Int) = 1 by decide), Or.inl rfl⟩
  obtain ⟨n1, n2, n3, n4⟩ := eN
  obtain ⟨G3, L3, f3, s3, e3⟩ := m_goesOn hm s2 n2
  rw [n1] at s3
  have eg := fun Q => m_good (Q := Q) hm s3
  refine ⟨G3, L3, (f1.trans f2).trans (prW_F f3), s3, fun Q => ?_⟩
  rw [← n3]
  have start : RK MX10_takesNumber 0 [.ref m, .int (zi lo), .int (zi hi), jk] [] (0, 0) (E, zg G, zk L, r) Q = RK MX10_takesNumber 15 [.ref m, .int (zi lo), .int (zi hi), jk] [.int (zi 2), .int (zi c1), .ref m] (0, 0) (E, zg G, zk L, r) Q := by
    by_cases q : G m 25 = 2
    · have e := d2.mpr q
      subst e
      simp (disch := first | assumption | exact c2_int _ | exact c2_ref _ | exact c2_jk | exact c2_null | omega | exact bI_r _ | exact bI_01 _) only [↓fX10_takesNumber_0, ↓fX10_takesNumber_1, ↓fX10_takesNumber_2, ↓fX10_takesNumber_5, ↓fX10_takesNumber_6, ↓fX10_takesNumber_9, ↓fX10_takesNumber_10, ↓fX10_takesNumber_13, ↓fX10_takesNumber_14, ↓fX10_takesNumber_18, ↓fX10_takesNumber_19, ↓fX10_takesNumber_20, ↓fX10_takesNumber_23, ↓fX10_takesNumber_24, ↓fX10_takesNumber_25, ↓fX10_takesNumber_26, ↓fX10_takesNumber_27, ↓fX10_takesNumber_28, ↓fX10_takesNumber_31, ↓fX10_takesNumber_32, ↓fX10_takesNumber_35, ↓fX10_takesNumber_36, ↓fX10_takesNumber_39, ↓fX10_takesNumber_40, ↓fX10_takesNumber_41, ↓fX10_takesNumber_44, ↓fX10_takesNumber_45, ↓fX10_takesNumber_48, ↓fX10_takesNumber_51, ↓fX10_takesNumber_52, ↓fX10_takesNumber_55, ↓fX10_takesNumber_56, q, and_self, true_and, and_true, false_and, and_false, not_true_eq_false, not_false_eq_true, or_self, true_or, or_true, false_or, or_false, ite_not, Decidable.not_not, decide_eq_true_eq, Bool.not_true, Bool.not_false, Bool.false_eq_true, Bool.not_eq_true, n10, n20, n21, n30, n31, n32, n40, n41, n42, n43, ↓reduceIte]
    · have e : c1 = 0 := by
        rcases d1 with z | z
        · exact z
        · exact absurd (d2.mp z) q
      subst e
      simp (disch := first | assumption | exact c2_int _ | exact c2_ref _ | exact c2_jk | exact c2_null | omega | exact bI_r _ | exact bI_01 _) only [↓fX10_takesNumber_0, ↓fX10_takesNumber_1, ↓fX10_takesNumber_2, ↓fX10_takesNumber_5, ↓fX10_takesNumber_6, ↓fX10_takesNumber_9, ↓fX10_takesNumber_10, ↓fX10_takesNumber_13, ↓fX10_takesNumber_14, ↓fX10_takesNumber_18, ↓fX10_takesNumber_19, ↓fX10_takesNumber_20, ↓fX10_takesNumber_23, ↓fX10_takesNumber_24, ↓fX10_takesNumber_25, ↓fX10_takesNumber_26, ↓fX10_takesNumber_27, ↓fX10_takesNumber_28, ↓fX10_takesNumber_31, ↓fX10_takesNumber_32, ↓fX10_takesNumber_35, ↓fX10_takesNumber_36, ↓fX10_takesNumber_39, ↓fX10_takesNumber_40, ↓fX10_takesNumber_41, ↓fX10_takesNumber_44, ↓fX10_takesNumber_45, ↓fX10_takesNumber_48, ↓fX10_takesNumber_51, ↓fX10_takesNumber_52, ↓fX10_takesNumber_55, ↓fX10_takesNumber_56, q, and_self, true_and, and_true, false_and, and_false, not_true_eq_false, not_false_eq_true, or_self, true_or, or_true, false_or, or_false, ite_not, Decidable.not_not, decide_eq_true_eq, Bool.not_true, Bool.not_false, Bool.false_eq_true, Bool.not_eq_true, n10, n20, n21, n30, n31, n32, n40, n41, n42, n43, ↓reduceIte]
  rw [start]
  by_cases q : gdI (nbS B n st lo hi) = 1
  · rw [if_pos q]
    rw [q] at eg
    simp (disch := first | assumption | exact c2_int _ | exact c2_ref _ | exact c2_jk | exact c2_null | omega | exact bI_r _ | exact bI_01 _) only [↓fX10_takesNumber_0, ↓fX10_takesNumber_1, ↓fX10_takesNumber_2, ↓fX10_takesNumber_5, ↓fX10_takesNumber_6, ↓fX10_takesNumber_9, ↓fX10_takesNumber_10, ↓fX10_takesNumber_13, ↓fX10_takesNumber_14, ↓fX10_takesNumber_15, ↓fX10_takesNumber_18, ↓fX10_takesNumber_19, ↓fX10_takesNumber_20, ↓fX10_takesNumber_23, ↓fX10_takesNumber_24, ↓fX10_takesNumber_25, ↓fX10_takesNumber_26, ↓fX10_takesNumber_27, ↓fX10_takesNumber_28, ↓fX10_takesNumber_31, ↓fX10_takesNumber_32, ↓fX10_takesNumber_35, ↓fX10_takesNumber_36, ↓fX10_takesNumber_39, ↓fX10_takesNumber_40, ↓fX10_takesNumber_41, ↓fX10_takesNumber_44, ↓fX10_takesNumber_45, ↓fX10_takesNumber_48, ↓fX10_takesNumber_51, ↓fX10_takesNumber_52, ↓fX10_takesNumber_55, ↓fX10_takesNumber_56, ↓e1, ↓m_isIn, k26, ↓e2, l26, ↓e3, ↓eg, and_self, true_and, and_true, false_and, and_false, not_true_eq_false, not_false_eq_true, or_self, true_or, or_true, false_or, or_false, ite_not, Decidable.not_not, decide_eq_true_eq, Bool.not_true, Bool.not_false, Bool.false_eq_true, Bool.not_eq_true, n10, n20, n21, n30, n31, n32, n40, n41, n42, n43, ↓reduceIte]
  · have q0 : gdI (nbS B n st lo hi) = 0 := by omega
    rw [if_neg q]
    rw [q0] at eg
    simp (disch := first | assumption | exact c2_int _ | exact c2_ref _ | exact c2_jk | exact c2_null | omega | exact bI_r _ | exact bI_01 _) only [↓fX10_takesNumber_0, ↓fX10_takesNumber_1, ↓fX10_takesNumber_2, ↓fX10_takesNumber_5, ↓fX10_takesNumber_6, ↓fX10_takesNumber_9, ↓fX10_takesNumber_10, ↓fX10_takesNumber_13, ↓fX10_takesNumber_14, ↓fX10_takesNumber_15, ↓fX10_takesNumber_18, ↓fX10_takesNumber_19, ↓fX10_takesNumber_20, ↓fX10_takesNumber_23, ↓fX10_takesNumber_24, ↓fX10_takesNumber_25, ↓fX10_takesNumber_26, ↓fX10_takesNumber_27, ↓fX10_takesNumber_28, ↓fX10_takesNumber_31, ↓fX10_takesNumber_32, ↓fX10_takesNumber_35, ↓fX10_takesNumber_36, ↓fX10_takesNumber_39, ↓fX10_takesNumber_40, ↓fX10_takesNumber_41, ↓fX10_takesNumber_44, ↓fX10_takesNumber_45, ↓fX10_takesNumber_48, ↓fX10_takesNumber_51, ↓fX10_takesNumber_52, ↓fX10_takesNumber_55, ↓fX10_takesNumber_56, ↓e1, ↓m_isIn, k26, ↓e2, l26, ↓e3, ↓eg, and_self, true_and, and_true, false_and, and_false, not_true_eq_false, not_false_eq_true, or_self, true_or, or_true, false_or, or_false, ite_not, Decidable.not_not, decide_eq_true_eq, Bool.not_true, Bool.not_false, Bool.false_eq_true, Bool.not_eq_true, n10, n20, n21, n30, n31, n32, n40, n41, n42, n43, ↓reduceIte]
theorem res_wix (T : TkT) : resT B T = true ↔ ∃ i, i < 12 ∧ isT B T (wdL (wix i)) = true := by
  have hlaw : lawT B T ≠ -1 ↔ (isT B T (wdL 135) = true ∨ isT B T (wdL 137) = true ∨ isT B T (wdL 139) = true ∨ isT B T (wdL 141) = true ∨ isT B T (wdL 143) = true ∨ isT B T (wdL 145) = true) := by
    unfold lawT
    repeat' split
    all_goals simp_all
  unfold resT
  simp only [Bool.or_eq_true, decide_eq_true_eq, hlaw]
  constructor
  · rintro ((((((h | h) | h) | h) | h) | h) | h)
    · rcases h with h | h | h | h | h | h
      · exact ⟨4, by decide, h⟩
      · exact ⟨5, by decide, h⟩
      · exact ⟨6, by decide, h⟩
      · exact ⟨7, by decide, h⟩
      · exact ⟨8, by decide, h⟩
      · exact ⟨10, by decide, h⟩
    · exact ⟨0, by decide, h⟩
    · exact ⟨1, by decide, h⟩
    · exact ⟨2, by decide, h⟩
    · exact ⟨3, by decide, h⟩
    · exact ⟨9, by decide, h⟩
    · exact ⟨11, by decide, h⟩
  · rintro ⟨i, hi, h⟩
    have hx : i = 0 ∨ i = 1 ∨ i = 2 ∨ i = 3 ∨ i = 4 ∨ i = 5 ∨ i = 6 ∨ i = 7 ∨ i = 8 ∨ i = 9 ∨ i = 10 ∨ i = 11 := by omega
    rcases hx with rfl | rfl | rfl | rfl | rfl | rfl | rfl | rfl | rfl | rfl | rfl | rfl <;> simp only [wix] at h <;> simp [h]
theorem isName_loop (hm : shM E r m) (hK : kWd L m) (hw : 0 ≤ L m 30 ∧ L m 30 < 1000000000000000) : ∀ (k i : Nat), 12 - i ≤ k → i ≤ 12 → ((∃ j, j < 12 ∧ i ≤ j ∧ L m 30 = wvF (wdL (wix j))) ∧ RK MX10_isName 19 [.ref m, .int (zi (i : Int))] [] (0, 0) (E, zg G, zk L, r) Q = Q (E, zg G, zk L, r) (.int (zi 0))) ∨ ((∀ j, j < 12 → i ≤ j → ¬ L m 30 = wvF (wdL (wix j))) ∧ RK MX10_isName 19 [.ref m, .int (zi (i : Int))] [] (0, 0) (E, zg G, zk L, r) Q = Q (E, zg G, zk L, r) (.int (zi 1))) := by
  have m0 := hm.1
  obtain ⟨k13, l13, r13⟩ := hm.2.2.2.2.2.2.2.2.2.2.2.2.2
  have hl : ((le E (m + 13) : Nat) : Int) = 12 := by rw [l13]; rfl
  intro k
  induction k with
  | zero =>
    intro i h1 h2
    have e : i = 12 := by omega
    subst e
    have h6 : ¬ ((12 : Nat) : Int) < 12 := by decide
    refine Or.inr ⟨fun j a b => by omega, ?_⟩
    simp (disch := first | assumption | exact c2_int _ | exact c2_ref _ | exact c2_jk | exact c2_null | omega | exact bI_r _ | exact bI_01 _) only [↓fX10_isName_0, ↓fX10_isName_1, ↓fX10_isName_4, ↓fX10_isName_7, ↓fX10_isName_8, ↓fX10_isName_11, ↓fX10_isName_12, ↓fX10_isName_15, ↓fX10_isName_16, ↓fX10_isName_17, ↓fX10_isName_18, ↓fX10_isName_19, ↓fX10_isName_20, ↓fX10_isName_21, ↓fX10_isName_24, ↓fX10_isName_25, ↓fX10_isName_28, ↓fX10_isName_29, ↓fX10_isName_32, ↓fX10_isName_33, ↓fX10_isName_36, ↓fX10_isName_37, ↓fX10_isName_38, ↓fX10_isName_42, ↓fX10_isName_43, ↓fX10_isName_44, ↓fX10_isName_47, ↓fX10_isName_50, ↓fX10_isName_51, hl, h6, and_self, true_and, and_true, false_and, and_false, not_true_eq_false, not_false_eq_true, or_self, true_or, or_true, false_or, or_false, ite_not, Decidable.not_not, decide_eq_true_eq, Bool.not_true, Bool.not_false, Bool.false_eq_true, Bool.not_eq_true, n10, n20, n21, n30, n31, n32, n40, n41, n42, n43, ↓reduceIte]
  | succ k ih =>
    intro i h1 h2
    by_cases hi : i < 12
    · have h6 : (i : Int) < 12 := by omega
      have hb := wvF_b i hi
      have ek : L (m + 13) (i : Int).toNat = wvF (wdL (wix i)) := by rw [Int.toNat_natCast]; exact hK i hi
      by_cases q : L m 30 = wvF (wdL (wix i))
      · refine Or.inl ⟨⟨i, hi, Nat.le_refl _, q⟩, ?_⟩
        rw [fX10_isName_19]
        simp (disch := first | assumption | exact c2_int _ | exact c2_ref _ | exact c2_jk | exact c2_null | omega | exact bI_r _ | exact bI_01 _) only [↓fX10_isName_0, ↓fX10_isName_1, ↓fX10_isName_4, ↓fX10_isName_7, ↓fX10_isName_8, ↓fX10_isName_11, ↓fX10_isName_12, ↓fX10_isName_15, ↓fX10_isName_16, ↓fX10_isName_17, ↓fX10_isName_18, ↓fX10_isName_20, ↓fX10_isName_21, ↓fX10_isName_24, ↓fX10_isName_25, ↓fX10_isName_28, ↓fX10_isName_29, ↓fX10_isName_32, ↓fX10_isName_33, ↓fX10_isName_36, ↓fX10_isName_37, ↓fX10_isName_38, ↓fX10_isName_42, ↓fX10_isName_43, ↓fX10_isName_44, ↓fX10_isName_47, ↓fX10_isName_50, ↓fX10_isName_51, hl, h6, ek, q, and_self, true_and, and_true, false_and, and_false, not_true_eq_false, not_false_eq_true, or_self, true_or, or_true, false_or, or_false, ite_not, Decidable.not_not, decide_eq_true_eq, Bool.not_true, Bool.not_false, Bool.false_eq_true, Bool.not_eq_true, n10, n20, n21, n30, n31, n32, n40, n41, n42, n43, ↓reduceIte]
      · have ih' := ih (i + 1) (by omega) (by omega)
        rw [Int.natCast_add] at ih'
        have hs : RK MX10_isName 19 [.ref m, .int (zi (i : Int))] [] (0, 0) (E, zg G, zk L, r) Q = RK MX10_isName 19 [.ref m, .int (zi ((i : Int) + 1))] [] (0, 0) (E, zg G, zk L, r) Q := by
          conv => lhs; rw [fX10_isName_19]
          simp (disch := first | assumption | exact c2_int _ | exact c2_ref _ | exact c2_jk | exact c2_null | omega | exact bI_r _ | exact bI_01 _) only [↓fX10_isName_0, ↓fX10_isName_1, ↓fX10_isName_4, ↓fX10_isName_7, ↓fX10_isName_8, ↓fX10_isName_11, ↓fX10_isName_12, ↓fX10_isName_15, ↓fX10_isName_16, ↓fX10_isName_17, ↓fX10_isName_18, ↓fX10_isName_20, ↓fX10_isName_21, ↓fX10_isName_24, ↓fX10_isName_25, ↓fX10_isName_28, ↓fX10_isName_29, ↓fX10_isName_32, ↓fX10_isName_33, ↓fX10_isName_36, ↓fX10_isName_37, ↓fX10_isName_38, ↓fX10_isName_42, ↓fX10_isName_43, ↓fX10_isName_44, ↓fX10_isName_47, ↓fX10_isName_50, ↓fX10_isName_51, hl, h6, ek, q, and_self, true_and, and_true, false_and, and_false, not_true_eq_false, not_false_eq_true, or_self, true_or, or_true, false_or, or_false, ite_not, Decidable.not_not, decide_eq_true_eq, Bool.not_true, Bool.not_false, Bool.false_eq_true, Bool.not_eq_true, n10, n20, n21, n30, n31, n32, n40, n41, n42, n43, ↓reduceIte]
        rw [hs]
        rcases ih' with ⟨⟨j, a, b, d⟩, z⟩ | ⟨a, z⟩
        · exact Or.inl ⟨⟨j, a, by omega, d⟩, z⟩
        · refine Or.inr ⟨fun j j1 j2 => ?_, z⟩
          by_cases y : j = i
          · rw [y]
            exact q
          · exact a j j1 (by omega)
    · have e : i = 12 := by omega
      subst e
      have h6 : ¬ ((12 : Nat) : Int) < 12 := by decide
      refine Or.inr ⟨fun j a b => by omega, ?_⟩
      simp (disch := first | assumption | exact c2_int _ | exact c2_ref _ | exact c2_jk | exact c2_null | omega | exact bI_r _ | exact bI_01 _) only [↓fX10_isName_0, ↓fX10_isName_1, ↓fX10_isName_4, ↓fX10_isName_7, ↓fX10_isName_8, ↓fX10_isName_11, ↓fX10_isName_12, ↓fX10_isName_15, ↓fX10_isName_16, ↓fX10_isName_17, ↓fX10_isName_18, ↓fX10_isName_19, ↓fX10_isName_20, ↓fX10_isName_21, ↓fX10_isName_24, ↓fX10_isName_25, ↓fX10_isName_28, ↓fX10_isName_29, ↓fX10_isName_32, ↓fX10_isName_33, ↓fX10_isName_36, ↓fX10_isName_37, ↓fX10_isName_38, ↓fX10_isName_42, ↓fX10_isName_43, ↓fX10_isName_44, ↓fX10_isName_47, ↓fX10_isName_50, ↓fX10_isName_51, hl, h6, and_self, true_and, and_true, false_and, and_false, not_true_eq_false, not_false_eq_true, or_self, true_or, or_true, false_or, or_false, ite_not, Decidable.not_not, decide_eq_true_eq, Bool.not_true, Bool.not_false, Bool.false_eq_true, Bool.not_eq_true, n10, n20, n21, n30, n31, n32, n40, n41, n42, n43, ↓reduceIte]
theorem m_isName (hm : shM E r m) (hK : kWd L m) (hS : rdS G L m B n st) : RK MX10_isName 0 [.ref m, jk] [] (0, 0) (E, zg G, zk L, r) Q = Q (E, zg G, zk L, r) (.int (zi (nmI B st))) := by
  have m0 := hm.1
  have eg := fun Q => m_good (Q := Q) hm hS
  cases st with
  | error e =>
    have eg' : ∀ Q, RK MX10_good 0 [.ref m] [] (0, 0) (E, zg G, zk L, r) Q = Q (E, zg G, zk L, r) (.int (zi 0)) := eg
    simp (disch := first | assumption | exact c2_int _ | exact c2_ref _ | exact c2_jk | exact c2_null | omega | exact bI_r _ | exact bI_01 _) only [↓fX10_isName_0, ↓fX10_isName_1, ↓fX10_isName_4, ↓fX10_isName_7, ↓fX10_isName_8, ↓fX10_isName_11, ↓fX10_isName_12, ↓fX10_isName_15, ↓fX10_isName_16, ↓fX10_isName_17, ↓fX10_isName_18, ↓fX10_isName_19, ↓fX10_isName_20, ↓fX10_isName_21, ↓fX10_isName_24, ↓fX10_isName_25, ↓fX10_isName_28, ↓fX10_isName_29, ↓fX10_isName_32, ↓fX10_isName_33, ↓fX10_isName_36, ↓fX10_isName_37, ↓fX10_isName_38, ↓fX10_isName_42, ↓fX10_isName_43, ↓fX10_isName_44, ↓fX10_isName_47, ↓fX10_isName_50, ↓fX10_isName_51, ↓eg', nmI, and_self, true_and, and_true, false_and, and_false, not_true_eq_false, not_false_eq_true, or_self, true_or, or_true, false_or, or_false, ite_not, Decidable.not_not, decide_eq_true_eq, Bool.not_true, Bool.not_false, Bool.false_eq_true, Bool.not_eq_true, n10, n20, n21, n30, n31, n32, n40, n41, n42, n43, ↓reduceIte]
  | ok T =>
    have eg' : ∀ Q, RK MX10_good 0 [.ref m] [] (0, 0) (E, zg G, zk L, r) Q = Q (E, zg G, zk L, r) (.int (zi 1)) := eg
    obtain ⟨h1, h2, h3, h4, h4b, h6, h7, h8⟩ := id hS
    have sb := srM_b h8.1
    have e25 := h7.2.1
    by_cases c : T.1 = 2
    · obtain ⟨w1, w2⟩ := tk_wrd hS c
      have e1 : G m 25 = 1 := by rw [e25]; exact sb.2.2.1.mpr c
      have lp := isName_loop (G := G) (Q := Q) hm hK h4 12 0 (by omega) (by omega)
      have start : RK MX10_isName 0 [.ref m, jk] [] (0, 0) (E, zg G, zk L, r) Q = RK MX10_isName 19 [.ref m, .int (zi ((0 : Nat) : Int))] [] (0, 0) (E, zg G, zk L, r) Q := by
        simp (disch := first | assumption | exact c2_int _ | exact c2_ref _ | exact c2_jk | exact c2_null | omega | exact bI_r _ | exact bI_01 _) only [↓fX10_isName_0, ↓fX10_isName_1, ↓fX10_isName_4, ↓fX10_isName_7, ↓fX10_isName_8, ↓fX10_isName_11, ↓fX10_isName_12, ↓fX10_isName_15, ↓fX10_isName_16, ↓fX10_isName_17, ↓fX10_isName_18, ↓fX10_isName_20, ↓fX10_isName_21, ↓fX10_isName_24, ↓fX10_isName_25, ↓fX10_isName_28, ↓fX10_isName_29, ↓fX10_isName_32, ↓fX10_isName_33, ↓fX10_isName_36, ↓fX10_isName_37, ↓fX10_isName_38, ↓fX10_isName_42, ↓fX10_isName_43, ↓fX10_isName_44, ↓fX10_isName_47, ↓fX10_isName_50, ↓fX10_isName_51, ↓eg', e1, and_self, true_and, and_true, false_and, and_false, not_true_eq_false, not_false_eq_true, or_self, true_or, or_true, false_or, or_false, ite_not, Decidable.not_not, decide_eq_true_eq, Bool.not_true, Bool.not_false, Bool.false_eq_true, Bool.not_eq_true, n10, n20, n21, n30, n31, n32, n40, n41, n42, n43, ↓reduceIte]
        rfl
      rw [start]
      rcases lp with ⟨⟨j, a, -, d⟩, z⟩ | ⟨a, z⟩
      · have hr : resT B T = true := (res_wix T).mpr ⟨j, a, (isT_wv c w1 j a).mp (w2.symm.trans d)⟩
        have ev : nmI B (.ok T) = 0 := bI_n (fun y => by rw [hr] at y; exact absurd y.2 (by decide))
        rw [ev]
        exact z
      · have hr : resT B T = false := by
          cases y : resT B T
          · rfl
          · obtain ⟨i, i1, i2⟩ := (res_wix T).mp y
            exact absurd (w2.trans ((isT_wv c w1 i i1).mpr i2)) (a i i1 (Nat.zero_le _))
        have ev : nmI B (.ok T) = 1 := bI_p ⟨c, hr⟩
        rw [ev]
        exact z
    · have e1 : ¬ G m 25 = 1 := by rw [e25]; exact fun z => c (sb.2.2.1.mp z)
      have ev : nmI B (.ok T) = 0 := bI_n (fun z => c z.1)
      rw [ev]
      simp (disch := first | assumption | exact c2_int _ | exact c2_ref _ | exact c2_jk | exact c2_null | omega | exact bI_r _ | exact bI_01 _) only [↓fX10_isName_0, ↓fX10_isName_1, ↓fX10_isName_4, ↓fX10_isName_7, ↓fX10_isName_8, ↓fX10_isName_11, ↓fX10_isName_12, ↓fX10_isName_15, ↓fX10_isName_16, ↓fX10_isName_17, ↓fX10_isName_18, ↓fX10_isName_19, ↓fX10_isName_20, ↓fX10_isName_21, ↓fX10_isName_24, ↓fX10_isName_25, ↓fX10_isName_28, ↓fX10_isName_29, ↓fX10_isName_32, ↓fX10_isName_33, ↓fX10_isName_36, ↓fX10_isName_37, ↓fX10_isName_38, ↓fX10_isName_42, ↓fX10_isName_43, ↓fX10_isName_44, ↓fX10_isName_47, ↓fX10_isName_50, ↓fX10_isName_51, ↓eg', e1, and_self, true_and, and_true, false_and, and_false, not_true_eq_false, not_false_eq_true, or_self, true_or, or_true, false_or, or_false, ite_not, Decidable.not_not, decide_eq_true_eq, Bool.not_true, Bool.not_false, Bool.false_eq_true, Bool.not_eq_true, n10, n20, n21, n30, n31, n32, n40, n41, n42, n43, ↓reduceIte]
end BM
