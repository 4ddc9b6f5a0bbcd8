/-! The reference's reader: a name is taken. -/
def prN (G L G' L' : Nat → Nat → Int) (m : Nat) : Prop := (∀ x, x ≠ m → G' x = G x) ∧ (∀ j, ¬ (21 ≤ j ∧ j ≤ 26) → j ≠ 32 → G' m j = G m j) ∧ (∀ x, x ≠ m → x ≠ m + 12 → L' x = L x) ∧ ∀ j, j ≠ 30 → L' m j = L m j
theorem wvS_b (B : Int → Int) (s : Int) : ∀ a : Nat, (∀ j : Nat, j < a → 97 ≤ B (s + j) ∧ B (s + j) ≤ 122) → wvS B s a < 27 ^ a := by
  intro a
  induction a with
  | zero => intro _; show (0 : Int) < 1; decide
  | succ a ih =>
    intro h
    have h1 := ih fun j hj => h j (by omega)
    have h2 := h a (by omega)
    have e10 : (27 : Int) ^ (a + 1) = 27 ^ a * 27 := Int.pow_succ _ _
    unfold wvS
    omega
theorem wvS_r {B : Int → Int} {s e : Int} (h : wrdB B s e) : 0 ≤ wvS B s (e - s).toNat ∧ wvS B s (e - s).toNat < 1000000000000000 := by
  have h1 := (wvS_0 B s _ (wrdB_l h)).1
  have h2 := wvS_b B s _ (wrdB_l h)
  have e8 : (27 : Int) ^ 8 = 282429536481 := by decide
  have h3 : (27 : Int) ^ (e - s).toNat ≤ 27 ^ 8 := by
    have := Nat.pow_le_pow_right (n := 27) (by decide) (show (e - s).toNat ≤ 8 by have := h.2.2; omega)
    exact_mod_cast this
  omega
section BM
variable {E : AE} {G G1 G2 G' L L' L1 L2 : Nat → Nat → Int} {r : Nat → Nat → Option Nat} {h : AH} {Q : AH → Value → Prop} {m M c : Nat} {B : Int → Int} {T : TkT} {st : StT} {f g : Nat → Int} {s e y x w i p v lo hi t b d n : Int}
theorem prN.rf (G L : Nat → Nat → Int) (m : Nat) : prN G L G L m := ⟨fun _ _ => rfl, fun _ _ _ => rfl, fun _ _ _ => rfl, fun _ _ => rfl⟩
theorem prN.trans (h1 : prN G L G1 L1 m) (h2 : prN G1 L1 G2 L2 m) : prN G L G2 L2 m := ⟨fun x a => (h2.1 x a).trans (h1.1 x a), fun j a b => (h2.2.1 j a b).trans (h1.2.1 j a b), fun x a b => (h2.2.2.1 x a b).trans (h1.2.2.1 x a b), fun j a => (h2.2.2.2 j a).trans (h1.2.2.2 j a)⟩
theorem prN_W (h : prW G L G1 L1 m) : prN G L G1 L1 m := ⟨h.1, fun j a _ => h.2.1 j a, fun x a _ => h.2.2.1 x a, h.2.2.2⟩
theorem nmR_W (hN : nmR G L m B f g c) (h : prW G L G1 L1 m) : nmR G1 L1 m B f g c := ⟨(h.2.1 32 (by decide)).trans hN.1, fun i hi => by rw [h.2.2.1 _ (by omega)]; exact hN.2 i hi⟩
theorem kWd_N (h : kWd L m) (h2 : prN G L G1 L1 m) : kWd L1 m := fun i hi => by rw [h2.2.2.1 _ (by omega) (by omega)]; exact h i hi
theorem rdS_c (hS : rdS G L m B n st) (h1 : ∀ j, 21 ≤ j → j ≤ 27 → G1 m j = G m j) (h2 : G1 (m + 11) = G (m + 11)) (h3 : L1 m 30 = L m 30) : rdS G1 L1 m B n st := by
  obtain ⟨a1, a2, a3, a4, a5, a6⟩ := hS
  refine ⟨tpR_c a1 h2, (h1 27 (by decide) (by decide)).trans a2, by rw [h1 26 (by decide) (by decide)]; exact a3, by rw [h3]; exact a4, by rw [h1 25 (by decide) (by decide)]; exact a5, ?_⟩
  cases st with
  | error e =>
    obtain ⟨k, T⟩ := e
    exact ⟨a6.1, (h1 21 (by decide) (by decide)).trans a6.2.1, (h1 22 (by decide) (by decide)).trans a6.2.2⟩
  | ok T =>
    obtain ⟨b1, b2, b3⟩ := a6
    obtain ⟨c1, c2, c3, c4, c5, c6, c7⟩ := b2
    refine ⟨(h1 21 (by decide) (by decide)).trans b1, ⟨(h1 23 (by decide) (by decide)).trans c1, (h1 25 (by decide) (by decide)).trans c2, fun z => (h1 24 (by decide) (by decide)).trans (c3 z), fun z => (h1 26 (by decide) (by decide)).trans (c4 z), by rw [h1 26 (by decide) (by decide)]; exact c5, by rw [h3]; exact c6, fun z => ?_⟩, b3⟩
    rw [h3]
    exact c7 z
theorem tn_loop (hm : shM E r m) (hS : rdS G L m B n (.ok T)) (h2 : T.1 = 2) (hN : nmR G L m B f g c) (hc : c ≤ 7) : ∀ (k i : Nat), c - i ≤ k → i ≤ c →
    ((∃ j, j < c ∧ i ≤ j ∧ smT B T (f j) (g j) = true) ∧ ∃ (G' : Nat → Nat → Int) (i' : Int), prW G L G' L m ∧ rdS G' L m B n (.error (4, T)) ∧ ∀ Q, RK MX10_takesName 11 [.ref m, .int (zi (i : Int))] [] (0, 0) (E, zg G, zk L, r) Q = RK MX10_takesName 56 [.ref m, .int (zi i')] [] (0, 0) (E, zg G', zk L, r) Q) ∨
    ((∀ j, j < c → i ≤ j → smT B T (f j) (g j) = false) ∧ ∀ Q, RK MX10_takesName 11 [.ref m, .int (zi (i : Int))] [] (0, 0) (E, zg G, zk L, r) Q = RK MX10_takesName 56 [.ref m, .int (zi (c : Int))] [] (0, 0) (E, zg G, zk L, r) Q) := by
  have m0 := hm.1
  obtain ⟨k12, l12, r12⟩ := hm.2.2.2.2.2.2.2.2.2.2.2.2.1
  obtain ⟨w1, w2⟩ := tk_wrd hS h2
  have hw30 := hS.2.2.2.1
  have eg : ∀ Q, RK MX10_good 0 [.ref m] [] (0, 0) (E, zg G, zk L, r) Q = Q (E, zg G, zk L, r) (.int (zi 1)) := fun Q => m_good hm hS
  have h32 := hN.1
  intro k
  induction k with
  | zero =>
    intro i h1 h3
    have e : i = c := by omega
    subst e
    have h6 : ¬ (i : Int) < i := by omega
    refine Or.inr ⟨fun j a b => by omega, fun Q => ?_⟩
    simp (disch := first | assumption | exact c2_int _ | exact c2_ref _ | exact c2_jk | exact c2_null | omega | exact bI_r _ | exact bI_01 _) only [↓fX10_takesName_0, ↓fX10_takesName_1, ↓fX10_takesName_2, ↓fX10_takesName_5, ↓fX10_takesName_6, ↓fX10_takesName_9, ↓fX10_takesName_10, ↓fX10_takesName_11, ↓fX10_takesName_12, ↓fX10_takesName_13, ↓fX10_takesName_16, ↓fX10_takesName_19, ↓fX10_takesName_20, ↓fX10_takesName_23, ↓fX10_takesName_26, ↓fX10_takesName_27, ↓fX10_takesName_28, ↓fX10_takesName_31, ↓fX10_takesName_32, ↓fX10_takesName_33, ↓fX10_takesName_34, ↓fX10_takesName_37, ↓fX10_takesName_41, ↓fX10_takesName_42, ↓fX10_takesName_45, ↓fX10_takesName_46, ↓fX10_takesName_47, ↓fX10_takesName_50, ↓fX10_takesName_53, ↓fX10_takesName_57, ↓fX10_takesName_60, ↓fX10_takesName_63, ↓fX10_takesName_64, ↓fX10_takesName_65, ↓fX10_takesName_68, ↓fX10_takesName_69, ↓fX10_takesName_72, ↓fX10_takesName_73, ↓fX10_takesName_76, ↓fX10_takesName_77, ↓fX10_takesName_78, ↓fX10_takesName_79, ↓fX10_takesName_82, ↓fX10_takesName_83, ↓fX10_takesName_84, ↓fX10_takesName_87, ↓fX10_takesName_88, ↓fX10_takesName_91, h32, h6, and_self, true_and, and_true, false_and, and_false, not_true_eq_false, not_false_eq_true, or_self, true_or, or_true, false_or, or_false, ite_not, Decidable.not_not, decide_eq_true_eq, Bool.not_true, Bool.not_false, Bool.false_eq_true, Bool.not_eq_true, n10, n20, n21, n30, n31, n32, n40, n41, n42, n43, ↓reduceIte]
  | succ k ih =>
    intro i h1 h3
    by_cases hi : i < c
    · have h6 : (i : Int) < c := by omega
      obtain ⟨v1, v2⟩ := hN.2 i hi
      have vb := wvS_r v1
      rw [← v2] at vb
      have ei : (i : Int).toNat = i := Int.toNat_natCast i
      have sw := smT_wv w1 v1
      rw [← w2, ← v2] at sw
      by_cases q : smT B T (f i) (g i) = true
      · have qe : L (m + 12) i = L m 30 := (sw.mpr q).symm
        obtain ⟨G1, f1, s1, j1, e1⟩ := m_must (b := 0) (y := 4) hm hS (Or.inl rfl) (by decide)
        have es : mustS (.ok T) 0 4 = .error (4, T) := by
          unfold mustS
          dsimp only
          rw [if_neg (by decide), if_neg (by decide)]
        rw [es] at s1
        have eg1 : ∀ Q, RK MX10_good 0 [.ref m] [] (0, 0) (E, zg G1, zk L, r) Q = Q (E, zg G1, zk L, r) (.int (zi 0)) := fun Q => m_good hm s1
        have h321 : G1 m 32 = c := (f1.2.1 32 (by decide)).trans h32
        refine Or.inl ⟨⟨i, hi, Nat.le_refl _, q⟩, G1, (i : Int) + 1, f1, s1, fun Q => ?_⟩
        rw [fX10_takesName_11]
        simp (disch := first | assumption | exact c2_int _ | exact c2_ref _ | exact c2_jk | exact c2_null | omega | exact bI_r _ | exact bI_01 _) only [↓fX10_takesName_0, ↓fX10_takesName_1, ↓fX10_takesName_2, ↓fX10_takesName_5, ↓fX10_takesName_6, ↓fX10_takesName_9, ↓fX10_takesName_10, ↓fX10_takesName_12, ↓fX10_takesName_13, ↓fX10_takesName_16, ↓fX10_takesName_19, ↓fX10_takesName_20, ↓fX10_takesName_23, ↓fX10_takesName_26, ↓fX10_takesName_27, ↓fX10_takesName_28, ↓fX10_takesName_31, ↓fX10_takesName_32, ↓fX10_takesName_33, ↓fX10_takesName_34, ↓fX10_takesName_37, ↓fX10_takesName_41, ↓fX10_takesName_42, ↓fX10_takesName_45, ↓fX10_takesName_46, ↓fX10_takesName_47, ↓fX10_takesName_50, ↓fX10_takesName_53, ↓fX10_takesName_57, ↓fX10_takesName_60, ↓fX10_takesName_63, ↓fX10_takesName_64, ↓fX10_takesName_65, ↓fX10_takesName_68, ↓fX10_takesName_69, ↓fX10_takesName_72, ↓fX10_takesName_73, ↓fX10_takesName_76, ↓fX10_takesName_77, ↓fX10_takesName_78, ↓fX10_takesName_79, ↓fX10_takesName_82, ↓fX10_takesName_83, ↓fX10_takesName_84, ↓fX10_takesName_87, ↓fX10_takesName_88, ↓fX10_takesName_91, h32, h6, ↓eg, ei, qe, ↓e1, and_self, true_and, and_true, false_and, and_false, not_true_eq_false, not_false_eq_true, or_self, true_or, or_true, false_or, or_false, ite_not, Decidable.not_not, decide_eq_true_eq, Bool.not_true, Bool.not_false, Bool.false_eq_true, Bool.not_eq_true, n10, n20, n21, n30, n31, n32, n40, n41, n42, n43, ↓reduceIte]
        rw [fX10_takesName_11]
        by_cases h7 : (i : Int) + 1 < c
        · simp (disch := first | assumption | exact c2_int _ | exact c2_ref _ | exact c2_jk | exact c2_null | omega | exact bI_r _ | exact bI_01 _) only [↓fX10_takesName_0, ↓fX10_takesName_1, ↓fX10_takesName_2, ↓fX10_takesName_5, ↓fX10_takesName_6, ↓fX10_takesName_9, ↓fX10_takesName_10, ↓fX10_takesName_12, ↓fX10_takesName_13, ↓fX10_takesName_16, ↓fX10_takesName_19, ↓fX10_takesName_20, ↓fX10_takesName_23, ↓fX10_takesName_26, ↓fX10_takesName_27, ↓fX10_takesName_28, ↓fX10_takesName_31, ↓fX10_takesName_32, ↓fX10_takesName_33, ↓fX10_takesName_34, ↓fX10_takesName_37, ↓fX10_takesName_41, ↓fX10_takesName_42, ↓fX10_takesName_45, ↓fX10_takesName_46, ↓fX10_takesName_47, ↓fX10_takesName_50, ↓fX10_takesName_53, ↓fX10_takesName_57, ↓fX10_takesName_60, ↓fX10_takesName_63, ↓fX10_takesName_64, ↓fX10_takesName_65, ↓fX10_takesName_68, ↓fX10_takesName_69, ↓fX10_takesName_72, ↓fX10_takesName_73, ↓fX10_takesName_76, ↓fX10_takesName_77, ↓fX10_takesName_78, ↓fX10_takesName_79, ↓fX10_takesName_82, ↓fX10_takesName_83, ↓fX10_takesName_84, ↓fX10_takesName_87, ↓fX10_takesName_88, ↓fX10_takesName_91, h321, h7, ↓eg1, and_self, true_and, and_true, false_and, and_false, not_true_eq_false, not_false_eq_true, or_self, true_or, or_true, false_or, or_false, ite_not, Decidable.not_not, decide_eq_true_eq, Bool.not_true, Bool.not_false, Bool.false_eq_true, Bool.not_eq_true, n10, n20, n21, n30, n31, n32, n40, n41, n42, n43, ↓reduceIte]
        · simp (disch := first | assumption | exact c2_int _ | exact c2_ref _ | exact c2_jk | exact c2_null | omega | exact bI_r _ | exact bI_01 _) only [↓fX10_takesName_0, ↓fX10_takesName_1, ↓fX10_takesName_2, ↓fX10_takesName_5, ↓fX10_takesName_6, ↓fX10_takesName_9, ↓fX10_takesName_10, ↓fX10_takesName_12, ↓fX10_takesName_13, ↓fX10_takesName_16, ↓fX10_takesName_19, ↓fX10_takesName_20, ↓fX10_takesName_23, ↓fX10_takesName_26, ↓fX10_takesName_27, ↓fX10_takesName_28, ↓fX10_takesName_31, ↓fX10_takesName_32, ↓fX10_takesName_33, ↓fX10_takesName_34, ↓fX10_takesName_37, ↓fX10_takesName_41, ↓fX10_takesName_42, ↓fX10_takesName_45, ↓fX10_takesName_46, ↓fX10_takesName_47, ↓fX10_takesName_50, ↓fX10_takesName_53, ↓fX10_takesName_57, ↓fX10_takesName_60, ↓fX10_takesName_63, ↓fX10_takesName_64, ↓fX10_takesName_65, ↓fX10_takesName_68, ↓fX10_takesName_69, ↓fX10_takesName_72, ↓fX10_takesName_73, ↓fX10_takesName_76, ↓fX10_takesName_77, ↓fX10_takesName_78, ↓fX10_takesName_79, ↓fX10_takesName_82, ↓fX10_takesName_83, ↓fX10_takesName_84, ↓fX10_takesName_87, ↓fX10_takesName_88, ↓fX10_takesName_91, h321, h7, and_self, true_and, and_true, false_and, and_false, not_true_eq_false, not_false_eq_true, or_self, true_or, or_true, false_or, or_false, ite_not, Decidable.not_not, decide_eq_true_eq, Bool.not_true, Bool.not_false, Bool.false_eq_true, Bool.not_eq_true, n10, n20, n21, n30, n31, n32, n40, n41, n42, n43, ↓reduceIte]
      · have q0 : smT B T (f i) (g i) = false := by simpa using q
        have qe : ¬ L (m + 12) i = L m 30 := fun z => q (sw.mp z.symm)
        obtain ⟨G1, f1, s1, j1, e1⟩ := m_must (b := 1) (y := 4) hm hS (Or.inr rfl) (by decide)
        have em : ∀ Q, RK MX10_must 0 [.ref m, .int (zi 1), .int (zi 4)] [] (0, 0) (E, zg G, zk L, r) Q = Q (E, zg G, zk L, r) .null := fun Q => by
          simp (disch := first | assumption | exact c2_int _ | exact c2_ref _ | exact c2_jk | exact c2_null | omega | exact bI_r _ | exact bI_01 _) only [↓fX10_must_0, ↓fX10_must_1, ↓fX10_must_4, ↓fX10_must_5, ↓fX10_must_8, ↓fX10_must_11, ↓fX10_must_12, ↓fX10_must_13, ↓fX10_must_14, ↓fX10_must_15, ↓fX10_must_18, ↓fX10_must_19, ↓fX10_must_22, ↓fX10_must_23, ↓fX10_must_26, ↓fX10_must_27, ↓fX10_must_30, ↓fX10_must_31, ↓fX10_must_34, ↓fX10_must_35, ↓fX10_must_36, ↓fX10_must_39, ↓fX10_must_42, and_self, true_and, and_true, false_and, and_false, not_true_eq_false, not_false_eq_true, or_self, true_or, or_true, false_or, or_false, ite_not, Decidable.not_not, decide_eq_true_eq, Bool.not_true, Bool.not_false, Bool.false_eq_true, Bool.not_eq_true, n10, n20, n21, n30, n31, n32, n40, n41, n42, n43, ↓reduceIte]
        have ih' := ih (i + 1) (by omega) (by omega)
        rw [Int.natCast_add] at ih'
        have hs : ∀ Q, RK MX10_takesName 11 [.ref m, .int (zi (i : Int))] [] (0, 0) (E, zg G, zk L, r) Q = RK MX10_takesName 11 [.ref m, .int (zi ((i : Int) + 1))] [] (0, 0) (E, zg G, zk L, r) Q := fun Q => by
          conv => lhs; rw [fX10_takesName_11]
          simp (disch := first | assumption | exact c2_int _ | exact c2_ref _ | exact c2_jk | exact c2_null | omega | exact bI_r _ | exact bI_01 _) only [↓fX10_takesName_0, ↓fX10_takesName_1, ↓fX10_takesName_2, ↓fX10_takesName_5, ↓fX10_takesName_6, ↓fX10_takesName_9, ↓fX10_takesName_10, ↓fX10_takesName_12, ↓fX10_takesName_13, ↓fX10_takesName_16, ↓fX10_takesName_19, ↓fX10_takesName_20, ↓fX10_takesName_23, ↓fX10_takesName_26, ↓fX10_takesName_27, ↓fX10_takesName_28, ↓fX10_takesName_31, ↓fX10_takesName_32, ↓fX10_takesName_33, ↓fX10_takesName_34, ↓fX10_takesName_37, ↓fX10_takesName_41, ↓fX10_takesName_42, ↓fX10_takesName_45, ↓fX10_takesName_46, ↓fX10_takesName_47, ↓fX10_takesName_50, ↓fX10_takesName_53, ↓fX10_takesName_57, ↓fX10_takesName_60, ↓fX10_takesName_63, ↓fX10_takesName_64, ↓fX10_takesName_65, ↓fX10_takesName_68, ↓fX10_takesName_69, ↓fX10_takesName_72, ↓fX10_takesName_73, ↓fX10_takesName_76, ↓fX10_takesName_77, ↓fX10_takesName_78, ↓fX10_takesName_79, ↓fX10_takesName_82, ↓fX10_takesName_83, ↓fX10_takesName_84, ↓fX10_takesName_87, ↓fX10_takesName_88, ↓fX10_takesName_91, h32, h6, ↓eg, ei, qe, ↓em, and_self, true_and, and_true, false_and, and_false, not_true_eq_false, not_false_eq_true, or_self, true_or, or_true, false_or, or_false, ite_not, Decidable.not_not, decide_eq_true_eq, Bool.not_true, Bool.not_false, Bool.false_eq_true, Bool.not_eq_true, n10, n20, n21, n30, n31, n32, n40, n41, n42, n43, ↓reduceIte]
        rcases ih' with ⟨⟨j, a, b, d⟩, G', i', z1, z2, z3⟩ | ⟨a, z⟩
        · exact Or.inl ⟨⟨j, a, by omega, d⟩, G', i', z1, z2, fun Q => (hs Q).trans (z3 Q)⟩
        · refine Or.inr ⟨fun j j1 j2 => ?_, fun Q => (hs Q).trans (z Q)⟩
          by_cases y : j = i
          · rw [y]
            exact q0
          · exact a j j1 (by omega)
    · have e : i = c := by omega
      subst e
      have h6 : ¬ (i : Int) < i := by omega
      refine Or.inr ⟨fun j a b => by omega, fun Q => ?_⟩
      simp (disch := first | assumption | exact c2_int _ | exact c2_ref _ | exact c2_jk | exact c2_null | omega | exact bI_r _ | exact bI_01 _) only [↓fX10_takesName_0, ↓fX10_takesName_1, ↓fX10_takesName_2, ↓fX10_takesName_5, ↓fX10_takesName_6, ↓fX10_takesName_9, ↓fX10_takesName_10, ↓fX10_takesName_11, ↓fX10_takesName_12, ↓fX10_takesName_13, ↓fX10_takesName_16, ↓fX10_takesName_19, ↓fX10_takesName_20, ↓fX10_takesName_23, ↓fX10_takesName_26, ↓fX10_takesName_27, ↓fX10_takesName_28, ↓fX10_takesName_31, ↓fX10_takesName_32, ↓fX10_takesName_33, ↓fX10_takesName_34, ↓fX10_takesName_37, ↓fX10_takesName_41, ↓fX10_takesName_42, ↓fX10_takesName_45, ↓fX10_takesName_46, ↓fX10_takesName_47, ↓fX10_takesName_50, ↓fX10_takesName_53, ↓fX10_takesName_57, ↓fX10_takesName_60, ↓fX10_takesName_63, ↓fX10_takesName_64, ↓fX10_takesName_65, ↓fX10_takesName_68, ↓fX10_takesName_69, ↓fX10_takesName_72, ↓fX10_takesName_73, ↓fX10_takesName_76, ↓fX10_takesName_77, ↓fX10_takesName_78, ↓fX10_takesName_79, ↓fX10_takesName_82, ↓fX10_takesName_83, ↓fX10_takesName_84, ↓fX10_takesName_87, ↓fX10_takesName_88, ↓fX10_takesName_91, h32, h6, and_self, true_and, and_true, false_and, and_false, not_true_eq_false, not_false_eq_true, or_self, true_or, or_true, false_or, or_false, ite_not, Decidable.not_not, decide_eq_true_eq, Bool.not_true, Bool.not_false, Bool.false_eq_true, Bool.not_eq_true, n10, n20, n21, n30, n31, n32, n40, n41, n42, n43, ↓reduceIte]
theorem m_takesName (hm : shM E r m) (hK : kWd L m) (hS : rdS G L m B n st) (hN : nmR G L m B f g c) (hc : c ≤ 7) (hc6 : ∀ T, st = .ok T → c ≤ 6) : ∃ G' L', prN G L G' L' m ∧ rdS G' L' m B n (nmT B n f g c st) ∧ (∀ T T', st = .ok T → nmT B n f g c st = .ok T' → nmR G' L' m B (upN f c T.2.1) (upN g c T.2.2.1) (c + 1)) ∧ ∀ Q, RK MX10_takesName 0 [.ref m, jk] [] (0, 0) (E, zg G, zk L, r) Q = Q (E, zg G', zk L', r) .null := by
  have m0 := hm.1
  obtain ⟨k12, l12, r12⟩ := hm.2.2.2.2.2.2.2.2.2.2.2.2.1
  have e0 := fun Q => m_isName (Q := Q) hm hK hS
  have hnb : nmI B st = 0 ∨ nmI B st = 1 := by
    cases st with
    | error e => exact Or.inl rfl
    | ok T => exact bI_01 _
  obtain ⟨G1, f1, s1, j1, e1⟩ := m_must (y := 2) hm hS hnb (by decide)
  have hN1 := nmR_W hN f1
  have start : ∀ Q, RK MX10_takesName 0 [.ref m, jk] [] (0, 0) (E, zg G, zk L, r) Q = RK MX10_takesName 11 [.ref m, .int (zi 0)] [] (0, 0) (E, zg G1, zk L, r) Q := fun Q => by
    simp (disch := first | assumption | exact c2_int _ | exact c2_ref _ | exact c2_jk | exact c2_null | omega | exact bI_r _ | exact bI_01 _) only [↓fX10_takesName_0, ↓fX10_takesName_1, ↓fX10_takesName_2, ↓fX10_takesName_5, ↓fX10_takesName_6, ↓fX10_takesName_9, ↓fX10_takesName_10, ↓fX10_takesName_12, ↓fX10_takesName_13, ↓fX10_takesName_16, ↓fX10_takesName_19, ↓fX10_takesName_20, ↓fX10_takesName_23, ↓fX10_takesName_26, ↓fX10_takesName_27, ↓fX10_takesName_28, ↓fX10_takesName_31, ↓fX10_takesName_32, ↓fX10_takesName_33, ↓fX10_takesName_34, ↓fX10_takesName_37, ↓fX10_takesName_41, ↓fX10_takesName_42, ↓fX10_takesName_45, ↓fX10_takesName_46, ↓fX10_takesName_47, ↓fX10_takesName_50, ↓fX10_takesName_53, ↓fX10_takesName_56, ↓fX10_takesName_57, ↓fX10_takesName_60, ↓fX10_takesName_63, ↓fX10_takesName_64, ↓fX10_takesName_65, ↓fX10_takesName_68, ↓fX10_takesName_69, ↓fX10_takesName_72, ↓fX10_takesName_73, ↓fX10_takesName_76, ↓fX10_takesName_77, ↓fX10_takesName_78, ↓fX10_takesName_79, ↓fX10_takesName_82, ↓fX10_takesName_83, ↓fX10_takesName_84, ↓fX10_takesName_87, ↓fX10_takesName_88, ↓fX10_takesName_91, ↓e0, ↓e1, and_self, true_and, and_true, false_and, and_false, not_true_eq_false, not_false_eq_true, or_self, true_or, or_true, false_or, or_false, ite_not, Decidable.not_not, decide_eq_true_eq, Bool.not_true, Bool.not_false, Bool.false_eq_true, Bool.not_eq_true, n10, n20, n21, n30, n31, n32, n40, n41, n42, n43, ↓reduceIte]
  -- not a name, or a fault before
  have bad : ∀ er : ER, mustS st (nmI B st) 2 = .error er → nmT B n f g c st = .error er → ∃ G' L', prN G L G' L' m ∧ rdS G' L' m B n (nmT B n f g c st) ∧ (∀ T T', st = .ok T → nmT B n f g c st = .ok T' → nmR G' L' m B (upN f c T.2.1) (upN g c T.2.2.1) (c + 1)) ∧ ∀ Q, RK MX10_takesName 0 [.ref m, jk] [] (0, 0) (E, zg G, zk L, r) Q = Q (E, zg G', zk L', r) .null := by
    intro er h1 h2
    rw [h1] at s1
    have eg1 : ∀ Q, RK MX10_good 0 [.ref m] [] (0, 0) (E, zg G1, zk L, r) Q = Q (E, zg G1, zk L, r) (.int (zi 0)) := fun Q => m_good hm s1
    refine ⟨G1, L, prN_W f1, by rw [h2]; exact s1, fun T T' _ h => (by rw [h2] at h; cases h), fun Q => ?_⟩
    rw [start Q, fX10_takesName_11]
    have h32 := hN1.1
    by_cases h7 : (0 : Int) < c
    · simp (disch := first | assumption | exact c2_int _ | exact c2_ref _ | exact c2_jk | exact c2_null | omega | exact bI_r _ | exact bI_01 _) only [↓fX10_takesName_0, ↓fX10_takesName_1, ↓fX10_takesName_2, ↓fX10_takesName_5, ↓fX10_takesName_6, ↓fX10_takesName_9, ↓fX10_takesName_10, ↓fX10_takesName_12, ↓fX10_takesName_13, ↓fX10_takesName_16, ↓fX10_takesName_19, ↓fX10_takesName_20, ↓fX10_takesName_23, ↓fX10_takesName_26, ↓fX10_takesName_27, ↓fX10_takesName_28, ↓fX10_takesName_31, ↓fX10_takesName_32, ↓fX10_takesName_33, ↓fX10_takesName_34, ↓fX10_takesName_37, ↓fX10_takesName_41, ↓fX10_takesName_42, ↓fX10_takesName_45, ↓fX10_takesName_46, ↓fX10_takesName_47, ↓fX10_takesName_50, ↓fX10_takesName_53, ↓fX10_takesName_56, ↓fX10_takesName_57, ↓fX10_takesName_60, ↓fX10_takesName_63, ↓fX10_takesName_64, ↓fX10_takesName_65, ↓fX10_takesName_68, ↓fX10_takesName_69, ↓fX10_takesName_72, ↓fX10_takesName_73, ↓fX10_takesName_76, ↓fX10_takesName_77, ↓fX10_takesName_78, ↓fX10_takesName_79, ↓fX10_takesName_82, ↓fX10_takesName_83, ↓fX10_takesName_84, ↓fX10_takesName_87, ↓fX10_takesName_88, ↓fX10_takesName_91, h32, h7, ↓eg1, and_self, true_and, and_true, false_and, and_false, not_true_eq_false, not_false_eq_true, or_self, true_or, or_true, false_or, or_false, ite_not, Decidable.not_not, decide_eq_true_eq, Bool.not_true, Bool.not_false, Bool.false_eq_true, Bool.not_eq_true, n10, n20, n21, n30, n31, n32, n40, n41, n42, n43, ↓reduceIte]
    · simp (disch := first | assumption | exact c2_int _ | exact c2_ref _ | exact c2_jk | exact c2_null | omega | exact bI_r _ | exact bI_01 _) only [↓fX10_takesName_0, ↓fX10_takesName_1, ↓fX10_takesName_2, ↓fX10_takesName_5, ↓fX10_takesName_6, ↓fX10_takesName_9, ↓fX10_takesName_10, ↓fX10_takesName_12, ↓fX10_takesName_13, ↓fX10_takesName_16, ↓fX10_takesName_19, ↓fX10_takesName_20, ↓fX10_takesName_23, ↓fX10_takesName_26, ↓fX10_takesName_27, ↓fX10_takesName_28, ↓fX10_takesName_31, ↓fX10_takesName_32, ↓fX10_takesName_33, ↓fX10_takesName_34, ↓fX10_takesName_37, ↓fX10_takesName_41, ↓fX10_takesName_42, ↓fX10_takesName_45, ↓fX10_takesName_46, ↓fX10_takesName_47, ↓fX10_takesName_50, ↓fX10_takesName_53, ↓fX10_takesName_56, ↓fX10_takesName_57, ↓fX10_takesName_60, ↓fX10_takesName_63, ↓fX10_takesName_64, ↓fX10_takesName_65, ↓fX10_takesName_68, ↓fX10_takesName_69, ↓fX10_takesName_72, ↓fX10_takesName_73, ↓fX10_takesName_76, ↓fX10_takesName_77, ↓fX10_takesName_78, ↓fX10_takesName_79, ↓fX10_takesName_82, ↓fX10_takesName_83, ↓fX10_takesName_84, ↓fX10_takesName_87, ↓fX10_takesName_88, ↓fX10_takesName_91, h32, h7, ↓eg1, and_self, true_and, and_true, false_and, and_false, not_true_eq_false, not_false_eq_true, or_self, true_or, or_true, false_or, or_false, ite_not, Decidable.not_not, decide_eq_true_eq, Bool.not_true, Bool.not_false, Bool.false_eq_true, Bool.not_eq_true, n10, n20, n21, n30, n31, n32, n40, n41, n42, n43, ↓reduceIte]
  cases st with
  | error e => exact bad e rfl rfl
  | ok T =>
    by_cases q : T.1 = 2 ∧ resT B T = false
    · have en : nmI B (.ok T) = 1 := bI_p q
      have em : mustS (.ok T) (nmI B (.ok T)) 2 = .ok T := by
        unfold mustS
        dsimp only
        rw [if_pos en]
      rw [em] at s1
      have hc7 := hc6 T rfl
      rcases tn_loop hm s1 q.1 hN1 hc c 0 (by omega) (by omega) with ⟨⟨j, a, -, d⟩, G2, i', z1, z2, z3⟩ | ⟨a, z⟩
      · have hh : hasN B T f g c = true := by
          unfold hasN
          exact decide_eq_true ⟨j, a, d⟩
        have er : nmT B n f g c (.ok T) = .error (4, T) := by
          show rdName B n f g c T = _
          unfold rdName
          rw [if_pos q, if_pos hh]
        have eg2 : ∀ Q, RK MX10_good 0 [.ref m] [] (0, 0) (E, zg G2, zk L, r) Q = Q (E, zg G2, zk L, r) (.int (zi 0)) := fun Q => m_good hm z2
        refine ⟨G2, L, prN_W (f1.trans z1), by rw [er]; exact z2, fun T1 T' _ h => (by rw [er] at h; cases h), fun Q => ?_⟩
        have z3' : ∀ Q, RK MX10_takesName 11 [.ref m, .int (zi 0)] [] (0, 0) (E, zg G1, zk L, r) Q = _ := z3
        rw [start Q, z3' Q]
        simp (disch := first | assumption | exact c2_int _ | exact c2_ref _ | exact c2_jk | exact c2_null | omega | exact bI_r _ | exact bI_01 _) only [↓fX10_takesName_0, ↓fX10_takesName_1, ↓fX10_takesName_2, ↓fX10_takesName_5, ↓fX10_takesName_6, ↓fX10_takesName_9, ↓fX10_takesName_10, ↓fX10_takesName_11, ↓fX10_takesName_12, ↓fX10_takesName_13, ↓fX10_takesName_16, ↓fX10_takesName_19, ↓fX10_takesName_20, ↓fX10_takesName_23, ↓fX10_takesName_26, ↓fX10_takesName_27, ↓fX10_takesName_28, ↓fX10_takesName_31, ↓fX10_takesName_32, ↓fX10_takesName_33, ↓fX10_takesName_34, ↓fX10_takesName_37, ↓fX10_takesName_41, ↓fX10_takesName_42, ↓fX10_takesName_45, ↓fX10_takesName_46, ↓fX10_takesName_47, ↓fX10_takesName_50, ↓fX10_takesName_53, ↓fX10_takesName_56, ↓fX10_takesName_57, ↓fX10_takesName_60, ↓fX10_takesName_63, ↓fX10_takesName_64, ↓fX10_takesName_65, ↓fX10_takesName_68, ↓fX10_takesName_69, ↓fX10_takesName_72, ↓fX10_takesName_73, ↓fX10_takesName_76, ↓fX10_takesName_77, ↓fX10_takesName_78, ↓fX10_takesName_79, ↓fX10_takesName_82, ↓fX10_takesName_83, ↓fX10_takesName_84, ↓fX10_takesName_87, ↓fX10_takesName_88, ↓fX10_takesName_91, ↓eg2, and_self, true_and, and_true, false_and, and_false, not_true_eq_false, not_false_eq_true, or_self, true_or, or_true, false_or, or_false, ite_not, Decidable.not_not, decide_eq_true_eq, Bool.not_true, Bool.not_false, Bool.false_eq_true, Bool.not_eq_true, n10, n20, n21, n30, n31, n32, n40, n41, n42, n43, ↓reduceIte]
      · have hh : ¬ hasN B T f g c = true := by
          unfold hasN
          rw [decide_eq_true_eq]
          rintro ⟨j, b, d⟩
          rw [a j b (Nat.zero_le _)] at d
          exact absurd d (by decide)
        have er : nmT B n f g c (.ok T) = .ok (nxT B n T.2.2.1) := by
          show rdName B n f g c T = _
          unfold rdName
          rw [if_pos q, if_neg hh]
        obtain ⟨w1, w2⟩ := tk_wrd s1 q.1
        have h32 := hN1.1
        let G2 : Nat → Nat → Int := u2 G1 m 32 ((c : Int) + 1)
        let L2 : Nat → Nat → Int := u2 L (m + 12) c (L m 30)
        have l30 : L2 m 30 = L m 30 := by
          show u2 L (m + 12) c (L m 30) m 30 = _
          rw [u2_a _ _ _ _ (by omega)]
        have s2 : rdS G2 L2 m B n (.ok T) := rdS_c s1 (fun j a b => u2_i _ _ _ _ (by omega)) (u2_a _ _ _ _ (by omega)) l30
        obtain ⟨G3, L3, f3, s3, e3⟩ := m_next hm s2 (Or.inl q.1)
        have eg1 : ∀ Q, RK MX10_good 0 [.ref m] [] (0, 0) (E, zg G1, zk L, r) Q = Q (E, zg G1, zk L, r) (.int (zi 1)) := fun Q => m_good hm s1
        have fr2 : prN G1 L G2 L2 m := ⟨fun x a => u2_a _ _ _ _ a, fun j a b => u2_i _ _ _ _ b, fun x a b => u2_a _ _ _ _ b, fun j a => by
          show u2 L (m + 12) c (L m 30) m j = _
          rw [u2_a _ _ _ _ (by omega)]⟩
        refine ⟨G3, L3, ((prN_W f1).trans fr2).trans (prN_W (prW_F f3)), by rw [er]; exact s3, fun T1 T' h1 _ => ?_, fun Q => ?_⟩
        · cases h1
          refine ⟨?_, fun i hi => ?_⟩
          · rw [f3.2.1 32 (by decide)]
            exact (u2_s _ _ _ _).trans (by omega)
          · rw [f3.2.2.1 _ (by omega)]
            by_cases y : i = c
            · subst y
              have a1 : upN f i T.2.1 i = T.2.1 := if_pos rfl
              have a2 : upN g i T.2.2.1 i = T.2.2.1 := if_pos rfl
              rw [a1, a2]
              exact ⟨w1, (u2_s _ _ _ _).trans w2⟩
            · have a1 : upN f c T.2.1 i = f i := if_neg y
              have a2 : upN g c T.2.2.1 i = g i := if_neg y
              rw [a1, a2]
              obtain ⟨b1, b2⟩ := hN1.2 i (by omega)
              exact ⟨b1, (u2_i _ _ _ _ y).trans b2⟩
        · have z' : ∀ Q, RK MX10_takesName 11 [.ref m, .int (zi 0)] [] (0, 0) (E, zg G1, zk L, r) Q = _ := z
          have ec : (c : Int).toNat = c := Int.toNat_natCast c
          have e12 : u2 L (m + 12) c (L m 30) = L2 := rfl
          have e32 : u2 G1 m 32 ((c : Int) + 1) = G2 := rfl
          rw [start Q, z' Q]
          simp (disch := first | assumption | exact c2_int _ | exact c2_ref _ | exact c2_jk | exact c2_null | omega | exact bI_r _ | exact bI_01 _) only [↓fX10_takesName_0, ↓fX10_takesName_1, ↓fX10_takesName_2, ↓fX10_takesName_5, ↓fX10_takesName_6, ↓fX10_takesName_9, ↓fX10_takesName_10, ↓fX10_takesName_11, ↓fX10_takesName_12, ↓fX10_takesName_13, ↓fX10_takesName_16, ↓fX10_takesName_19, ↓fX10_takesName_20, ↓fX10_takesName_23, ↓fX10_takesName_26, ↓fX10_takesName_27, ↓fX10_takesName_28, ↓fX10_takesName_31, ↓fX10_takesName_32, ↓fX10_takesName_33, ↓fX10_takesName_34, ↓fX10_takesName_37, ↓fX10_takesName_41, ↓fX10_takesName_42, ↓fX10_takesName_45, ↓fX10_takesName_46, ↓fX10_takesName_47, ↓fX10_takesName_50, ↓fX10_takesName_53, ↓fX10_takesName_56, ↓fX10_takesName_57, ↓fX10_takesName_60, ↓fX10_takesName_63, ↓fX10_takesName_64, ↓fX10_takesName_65, ↓fX10_takesName_68, ↓fX10_takesName_69, ↓fX10_takesName_72, ↓fX10_takesName_73, ↓fX10_takesName_76, ↓fX10_takesName_77, ↓fX10_takesName_78, ↓fX10_takesName_79, ↓fX10_takesName_82, ↓fX10_takesName_83, ↓fX10_takesName_84, ↓fX10_takesName_87, ↓fX10_takesName_88, ↓fX10_takesName_91, ↓eg1, h32, ec, e12, e32, ↓e3, and_self, true_and, and_true, false_and, and_false, not_true_eq_false, not_false_eq_true, or_self, true_or, or_true, false_or, or_false, ite_not, Decidable.not_not, decide_eq_true_eq, Bool.not_true, Bool.not_false, Bool.false_eq_true, Bool.not_eq_true, n10, n20, n21, n30, n31, n32, n40, n41, n42, n43, ↓reduceIte]
    · have en : nmI B (.ok T) = 0 := bI_n q
      have em : mustS (.ok T) (nmI B (.ok T)) 2 = .error (unK T, T) := by
        unfold mustS
        dsimp only
        rw [en, if_neg (by decide), if_pos rfl]
      have er : nmT B n f g c (.ok T) = .error (unK T, T) := by
        show rdName B n f g c T = _
        unfold rdName
        rw [if_neg q]
      exact bad _ em er
end BM
