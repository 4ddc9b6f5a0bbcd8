/-! Listed.takeOver; the shelf takes over what the reader holds. -/
def LH (G : Nat → Nat → Int) (H cl : Nat) (ln : Nat → Nat) (lv : Nat → Nat → Int) : Prop := (G H 3 = cl ∧ cl ≤ 3) ∧ (∀ t, t < 3 → rgL G (H + 30 + 2 * t)) ∧ ∀ t, t < cl → G (H + 30 + 2 * t) 1 = ln t ∧ (1 ≤ ln t ∧ ln t ≤ 10) ∧ ∀ j, j < ln t → G (H + 30 + 2 * t + 1) j = lv t j ∧ 0 ≤ lv t j ∧ lv t j ≤ 9999
section BS
variable {E : AE} {G G' L : Nat → Nat → Int} {r : Nat → Nat → Option Nat} {h : AH} {Q : AH → Value → Prop} {D H S a c l o cl cs n : Nat} {p q : Nat → Nat} {σ τ : Nat → Nat → Int} {ln : Nat → Nat} {lv : Nat → Nat → Int} {kk nn : Nat → Int}
def ltG (G : Nat → Nat → Int) (l o : Nat) : Nat → Nat → Int := cpG9 (u2 G l 1 (G o 1)) (o + 1) (l + 1) 10
theorem c2_takeOver (hl : shL E r l) (ho : shL E r o) (hd : o + 1 < l ∨ l + 1 < o) : RK MX2_takeOver 0 [.ref l, .ref o] [] (0, 0) (E, zg G, zk L, r) Q = Q (E, zg (ltG G l o), zk L, r) .null := by
  obtain ⟨m0, m1, m2, m3⟩ := id hl
  obtain ⟨o0, o1, o2, o3⟩ := id ho
  have e : cpG9 (u2 G l 1 (G o 1)) (o + 1) (l + 1) (min (le E (o + 1)) (le E (l + 1))) = ltG G l o := by
    rw [o2, m2]
    rfl
  have hne : o + 1 ≠ l + 1 := by omega
  simp (disch := first | assumption | exact c2_int _ | exact c2_ref _ | exact c2_jk | exact c2_null | omega | (apply rN1; assumption) | (apply rN2; assumption) | (apply rN3; assumption) | (apply rN4; assumption) | exact bI_r _ | exact bI_01 _) only [↓fX2_takeOver_0, ↓fX2_takeOver_1, ↓fX2_takeOver_1n, ↓fX2_takeOver_2, ↓fX2_takeOver_5, ↓fX2_takeOver_8, ↓fX2_takeOver_8n, ↓fX2_takeOver_9, ↓fX2_takeOver_12, ↓fX2_takeOver_13, ↓fX2_takeOver_16, ↓fX2_takeOver_19, ↓c9_copyCells, e, and_self, true_and, and_true, false_and, and_false, not_true_eq_false, not_false_eq_true, or_self, true_or, or_true, false_or, or_false, ite_not, Decidable.not_not, decide_eq_true_eq, Bool.not_true, Bool.not_false, Bool.false_eq_true, Bool.not_eq_true, n10, n20, n21, n30, n31, n32, n40, n41, n42, n43, ↓reduceIte]
theorem ltG_q {x : Nat} (h : x ≠ l) (h2 : x ≠ l + 1) : ltG G l o x = G x := by
  funext j
  show (if x = l + 1 ∧ j < 10 then _ else u2 G l 1 (G o 1) x j) = _
  rw [if_neg (by omega), u2_a _ _ _ _ h]
theorem ltG_1 : ltG G l o l 1 = G o 1 := by
  show (if l = l + 1 ∧ 1 < 10 then _ else u2 G l 1 (G o 1) l 1) = _
  rw [if_neg (by omega), u2_s]
theorem ltG_n {j : Nat} (hj : j < 10) (h : o + 1 ≠ l) : ltG G l o (l + 1) j = G (o + 1) j := by
  show (if l + 1 = l + 1 ∧ j < 10 then u2 G l 1 (G o 1) (o + 1) j else _) = _
  rw [if_pos ⟨rfl, hj⟩, u2_a _ _ _ _ h]
theorem ltG_rg (hl : rgL G l) (ho : rgL G o) (h : o + 1 ≠ l) : rgL (ltG G l o) l := by
  refine ⟨by rw [ltG_1]; exact ho.1, fun j => ?_⟩
  by_cases c : j < 10
  · rw [ltG_n c h]
    exact ho.2 j
  · have : ltG G l o (l + 1) j = G (l + 1) j := by
      show (if l + 1 = l + 1 ∧ j < 10 then _ else u2 G l 1 (G o 1) (l + 1) j) = _
      rw [if_neg (by omega), u2_a _ _ _ _ (by omega)]
    rw [this]
    exact hl.2 j
theorem over_loop1 (hH : shH E r H) (hD : shD E r D) (hp : sP r H p) (hDH : D + 35 < H) (hn : n ≤ 4) : ∀ (k s : Nat) (l3 l4 : Value) (G : Nat → Nat → Int), c2 l3 = false → c2 l4 = false → n - s ≤ k → s ≤ n → G H 1 = n → (∀ t, t < 4 → rgS G (H + 6 + 6 * p t)) → (∀ t, t < n → RS G (D + 6 + 6 * t) (σ t) ∧ WF (σ t)) → (∀ t, t < s → RS G (H + 6 + 6 * p t) (σ t)) →
    ∃ (G' : Nat → Nat → Int) (l3' l4' : Value), c2 l3' = false ∧ c2 l4' = false ∧ (∀ x, x < H + 6 ∨ H + 29 < x → G' x = G x) ∧ (∀ t, t < 4 → rgS G' (H + 6 + 6 * p t)) ∧ (∀ t, t < n → RS G' (H + 6 + 6 * p t) (σ t)) ∧ ∀ Q, RK MX6_takeOver 23 [.ref H, .ref D, .int (zi (s : Int)), l3, l4] [] (0, 0) (E, zg G, zk L, r) Q = RK MX6_takeOver 65 [.ref H, .ref D, .int (zi (n : Int)), l3', l4'] [] (0, 0) (E, zg G', zk L, r) Q := by
  have h0 := hH.1
  have d0 := hD.1
  intro k
  induction k with
  | zero =>
    intro s l3 l4 G x3 x4 h1 h2 hc hg hr hs
    have e : s = n := by omega
    subst e
    refine ⟨G, l3, l4, x3, x4, fun _ _ => rfl, hg, hs, fun Q => ?_⟩
    have h6 : ¬ (s : Int) < G H 1 := by omega
    simp (disch := first | assumption | exact c2_int _ | exact c2_ref _ | exact c2_jk | exact c2_null | omega | (apply rN1; assumption) | (apply rN2; assumption) | (apply rN3; assumption) | (apply rN4; assumption) | exact bI_r _ | exact bI_01 _) only [↓fX6_takeOver_0, ↓fX6_takeOver_1, ↓fX6_takeOver_2, ↓fX6_takeOver_5, ↓fX6_takeOver_6, ↓fX6_takeOver_6n, ↓fX6_takeOver_7, ↓fX6_takeOver_10, ↓fX6_takeOver_13, ↓fX6_takeOver_14, ↓fX6_takeOver_14n, ↓fX6_takeOver_15, ↓fX6_takeOver_18, ↓fX6_takeOver_21, ↓fX6_takeOver_22, ↓fX6_takeOver_23, ↓fX6_takeOver_24, ↓fX6_takeOver_25, ↓fX6_takeOver_28, ↓fX6_takeOver_31, ↓fX6_takeOver_32, ↓fX6_takeOver_33, ↓fX6_takeOver_36, ↓fX6_takeOver_36n, ↓fX6_takeOver_37, ↓fX6_takeOver_37n, ↓fX6_takeOver_38, ↓fX6_takeOver_39, ↓fX6_takeOver_42, ↓fX6_takeOver_42n, ↓fX6_takeOver_44, ↓fX6_takeOver_44n, ↓fX6_takeOver_45, ↓fX6_takeOver_45r, ↓fX6_takeOver_48, ↓fX6_takeOver_48n, ↓fX6_takeOver_50, ↓fX6_takeOver_50r, ↓fX6_takeOver_53, ↓fX6_takeOver_53n, ↓fX6_takeOver_54, ↓fX6_takeOver_54n, ↓fX6_takeOver_56, ↓fX6_takeOver_59, ↓fX6_takeOver_62, ↓fX6_takeOver_66, ↓fX6_takeOver_67, ↓fX6_takeOver_68, ↓fX6_takeOver_69, ↓fX6_takeOver_72, ↓fX6_takeOver_75, ↓fX6_takeOver_76, ↓fX6_takeOver_77, ↓fX6_takeOver_80, ↓fX6_takeOver_80n, ↓fX6_takeOver_81, ↓fX6_takeOver_81n, ↓fX6_takeOver_82, ↓fX6_takeOver_83, ↓fX6_takeOver_86, ↓fX6_takeOver_86n, ↓fX6_takeOver_88, ↓fX6_takeOver_88n, ↓fX6_takeOver_89, ↓fX6_takeOver_89r, ↓fX6_takeOver_92, ↓fX6_takeOver_92n, ↓fX6_takeOver_94, ↓fX6_takeOver_94r, ↓fX6_takeOver_97, ↓fX6_takeOver_97n, ↓fX6_takeOver_98, ↓fX6_takeOver_98n, ↓fX6_takeOver_100, ↓fX6_takeOver_103, ↓fX6_takeOver_106, ↓fX6_takeOver_109, h6, and_self, true_and, and_true, false_and, and_false, not_true_eq_false, not_false_eq_true, or_self, true_or, or_true, false_or, or_false, ite_not, Decidable.not_not, decide_eq_true_eq, Bool.not_true, Bool.not_false, Bool.false_eq_true, Bool.not_eq_true, n10, n20, n21, n30, n31, n32, n40, n41, n42, n43, ↓reduceIte]
  | succ k ih =>
    intro s l3 l4 G x3 x4 h1 h2 hc hg hr hs
    by_cases h6 : s < n
    · have hps := (hp.1 s (by omega)).2
      have hsS := hH.2.2.2.2.1 (p s) hps
      have hsD := (hD.2.2.2.2.1 s (by omega)).1
      obtain ⟨G1, f1, R1, e1⟩ := c7_takeOverS (L := L) hsS hsD (hg s (by omega)) (hr s h6).1 (hr s h6).2 (by omega)
      have c0 : ∀ x, ¬ (H + 6 + 6 * p s ≤ x ∧ x ≤ H + 6 + 6 * p s + 5) → G1 x = G x := fun x hx => f1 x (by omega)
      have ne : ∀ t, t < 4 → t ≠ s → p t ≠ p s := fun t ht hts z => hts (hp.2 t s ht (by omega) z)
      have g6 : ∀ t, t < 4 → t ≠ s → eqS G G1 (H + 6 + 6 * p t) := fun t ht hts x xa xb => by
        have := ne t ht hts
        exact c0 x (by omega)
      obtain ⟨G', l3', l4', y3, y4, b1, b2, b3, b4⟩ := ih (s + 1) (.ref (H + 6 + 6 * p s)) (.ref (D + 6 + 6 * s)) G1 (c2_ref _) (c2_ref _) (by omega) (by omega) (by rw [c0 H (by omega)]; exact hc) (fun t ht => by
        by_cases z : t = s
        · rw [z]
          exact R1.1
        · exact rgS_c (g6 t ht z) (hg t ht)) (fun t ht => ⟨RS_c (fun x xa xb => c0 x (by omega)) (hr t ht).1, (hr t ht).2⟩) (fun t ht => by
        by_cases z : t = s
        · rw [z]
          exact R1
        · exact RS_c (g6 t (by omega) z) (hs t (by omega)))
      refine ⟨G', l3', l4', y3, y4, fun x hx => (b1 x hx).trans (c0 x (by omega)), b2, b3, fun Q => ?_⟩
      have h7 : (s : Int) < G H 1 := by omega
      have a1 : ∀ Q, RK MX6_sieveAt 0 [.ref H, .int (zi (s : Int))] [] (0, 0) (E, zg G, zk L, r) Q = Q (E, zg G, zk L, r) (.ref (H + 6 + 6 * p s)) := fun Q => by
        rw [c6_sieveAt hH hp (by omega) (by omega), if_pos (by omega), Int.toNat_natCast]
      have a2 : ∀ Q, RK MX5_sieveAt 0 [.ref D, .int (zi (s : Int))] [] (0, 0) (E, zg G, zk L, r) Q = Q (E, zg G, zk L, r) (.ref (D + 6 + 6 * s)) := fun Q => by
        rw [c5_sieveAt hD (by omega), if_pos (by omega)]
      have k14 := hsS.1
      rw [← b4 Q, fX6_takeOver_23]
      simp (disch := first | assumption | exact c2_int _ | exact c2_ref _ | exact c2_jk | exact c2_null | omega | (apply rN1; assumption) | (apply rN2; assumption) | (apply rN3; assumption) | (apply rN4; assumption) | exact bI_r _ | exact bI_01 _) only [↓fX6_takeOver_0, ↓fX6_takeOver_1, ↓fX6_takeOver_2, ↓fX6_takeOver_5, ↓fX6_takeOver_6, ↓fX6_takeOver_6n, ↓fX6_takeOver_7, ↓fX6_takeOver_10, ↓fX6_takeOver_13, ↓fX6_takeOver_14, ↓fX6_takeOver_14n, ↓fX6_takeOver_15, ↓fX6_takeOver_18, ↓fX6_takeOver_21, ↓fX6_takeOver_22, ↓fX6_takeOver_24, ↓fX6_takeOver_25, ↓fX6_takeOver_28, ↓fX6_takeOver_31, ↓fX6_takeOver_32, ↓fX6_takeOver_33, ↓fX6_takeOver_36, ↓fX6_takeOver_36n, ↓fX6_takeOver_37, ↓fX6_takeOver_37n, ↓fX6_takeOver_38, ↓fX6_takeOver_39, ↓fX6_takeOver_42, ↓fX6_takeOver_42n, ↓fX6_takeOver_44, ↓fX6_takeOver_44n, ↓fX6_takeOver_45, ↓fX6_takeOver_45r, ↓fX6_takeOver_48, ↓fX6_takeOver_48n, ↓fX6_takeOver_50, ↓fX6_takeOver_50r, ↓fX6_takeOver_53, ↓fX6_takeOver_53n, ↓fX6_takeOver_54, ↓fX6_takeOver_54n, ↓fX6_takeOver_56, ↓fX6_takeOver_59, ↓fX6_takeOver_62, ↓fX6_takeOver_66, ↓fX6_takeOver_67, ↓fX6_takeOver_68, ↓fX6_takeOver_69, ↓fX6_takeOver_72, ↓fX6_takeOver_75, ↓fX6_takeOver_76, ↓fX6_takeOver_77, ↓fX6_takeOver_80, ↓fX6_takeOver_80n, ↓fX6_takeOver_81, ↓fX6_takeOver_81n, ↓fX6_takeOver_82, ↓fX6_takeOver_83, ↓fX6_takeOver_86, ↓fX6_takeOver_86n, ↓fX6_takeOver_88, ↓fX6_takeOver_88n, ↓fX6_takeOver_89, ↓fX6_takeOver_89r, ↓fX6_takeOver_92, ↓fX6_takeOver_92n, ↓fX6_takeOver_94, ↓fX6_takeOver_94r, ↓fX6_takeOver_97, ↓fX6_takeOver_97n, ↓fX6_takeOver_98, ↓fX6_takeOver_98n, ↓fX6_takeOver_100, ↓fX6_takeOver_103, ↓fX6_takeOver_106, ↓fX6_takeOver_109, ↓a1, ↓a2, ↓e1, h7, and_self, true_and, and_true, false_and, and_false, not_true_eq_false, not_false_eq_true, or_self, true_or, or_true, false_or, or_false, ite_not, Decidable.not_not, decide_eq_true_eq, Bool.not_true, Bool.not_false, Bool.false_eq_true, Bool.not_eq_true, n10, n20, n21, n30, n31, n32, n40, n41, n42, n43, ↓reduceIte]
      rfl
    · have e : s = n := by omega
      subst e
      refine ⟨G, l3, l4, x3, x4, fun _ _ => rfl, hg, hs, fun Q => ?_⟩
      have h6 : ¬ (s : Int) < G H 1 := by omega
      simp (disch := first | assumption | exact c2_int _ | exact c2_ref _ | exact c2_jk | exact c2_null | omega | (apply rN1; assumption) | (apply rN2; assumption) | (apply rN3; assumption) | (apply rN4; assumption) | exact bI_r _ | exact bI_01 _) only [↓fX6_takeOver_0, ↓fX6_takeOver_1, ↓fX6_takeOver_2, ↓fX6_takeOver_5, ↓fX6_takeOver_6, ↓fX6_takeOver_6n, ↓fX6_takeOver_7, ↓fX6_takeOver_10, ↓fX6_takeOver_13, ↓fX6_takeOver_14, ↓fX6_takeOver_14n, ↓fX6_takeOver_15, ↓fX6_takeOver_18, ↓fX6_takeOver_21, ↓fX6_takeOver_22, ↓fX6_takeOver_23, ↓fX6_takeOver_24, ↓fX6_takeOver_25, ↓fX6_takeOver_28, ↓fX6_takeOver_31, ↓fX6_takeOver_32, ↓fX6_takeOver_33, ↓fX6_takeOver_36, ↓fX6_takeOver_36n, ↓fX6_takeOver_37, ↓fX6_takeOver_37n, ↓fX6_takeOver_38, ↓fX6_takeOver_39, ↓fX6_takeOver_42, ↓fX6_takeOver_42n, ↓fX6_takeOver_44, ↓fX6_takeOver_44n, ↓fX6_takeOver_45, ↓fX6_takeOver_45r, ↓fX6_takeOver_48, ↓fX6_takeOver_48n, ↓fX6_takeOver_50, ↓fX6_takeOver_50r, ↓fX6_takeOver_53, ↓fX6_takeOver_53n, ↓fX6_takeOver_54, ↓fX6_takeOver_54n, ↓fX6_takeOver_56, ↓fX6_takeOver_59, ↓fX6_takeOver_62, ↓fX6_takeOver_66, ↓fX6_takeOver_67, ↓fX6_takeOver_68, ↓fX6_takeOver_69, ↓fX6_takeOver_72, ↓fX6_takeOver_75, ↓fX6_takeOver_76, ↓fX6_takeOver_77, ↓fX6_takeOver_80, ↓fX6_takeOver_80n, ↓fX6_takeOver_81, ↓fX6_takeOver_81n, ↓fX6_takeOver_82, ↓fX6_takeOver_83, ↓fX6_takeOver_86, ↓fX6_takeOver_86n, ↓fX6_takeOver_88, ↓fX6_takeOver_88n, ↓fX6_takeOver_89, ↓fX6_takeOver_89r, ↓fX6_takeOver_92, ↓fX6_takeOver_92n, ↓fX6_takeOver_94, ↓fX6_takeOver_94r, ↓fX6_takeOver_97, ↓fX6_takeOver_97n, ↓fX6_takeOver_98, ↓fX6_takeOver_98n, ↓fX6_takeOver_100, ↓fX6_takeOver_103, ↓fX6_takeOver_106, ↓fX6_takeOver_109, h6, and_self, true_and, and_true, false_and, and_false, not_true_eq_false, not_false_eq_true, or_self, true_or, or_true, false_or, or_false, ite_not, Decidable.not_not, decide_eq_true_eq, Bool.not_true, Bool.not_false, Bool.false_eq_true, Bool.not_eq_true, n10, n20, n21, n30, n31, n32, n40, n41, n42, n43, ↓reduceIte]
theorem over_loop2 (hH : shH E r H) (hD : shD E r D) (hDH : D + 35 < H) (hn : n ≤ 3) : ∀ (k s : Nat) (l3 l4 : Value) (G : Nat → Nat → Int), c2 l3 = false → c2 l4 = false → n - s ≤ k → s ≤ n → G H 3 = n → (∀ t, t < 3 → rgL G (H + 30 + 2 * t)) → (∀ t, t < n → rgL G (D + 30 + 2 * t)) → (∀ t, t < s → G (H + 30 + 2 * t) 1 = G (D + 30 + 2 * t) 1 ∧ ∀ j, j < 10 → G (H + 30 + 2 * t + 1) j = G (D + 30 + 2 * t + 1) j) →
    ∃ (G' : Nat → Nat → Int), (∀ x, x < H + 30 ∨ H + 35 < x → G' x = G x) ∧ (∀ t, t < 3 → rgL G' (H + 30 + 2 * t)) ∧ (∀ t, t < n → G' (H + 30 + 2 * t) 1 = G (D + 30 + 2 * t) 1 ∧ ∀ j, j < 10 → G' (H + 30 + 2 * t + 1) j = G (D + 30 + 2 * t + 1) j) ∧ ∀ Q, RK MX6_takeOver 67 [.ref H, .ref D, .int (zi (s : Int)), l3, l4] [] (0, 0) (E, zg G, zk L, r) Q = Q (E, zg G', zk L, r) .null := by
  have h0 := hH.1
  have d0 := hD.1
  intro k
  induction k with
  | zero =>
    intro s l3 l4 G x3 x4 h1 h2 hc hg hr hs
    have e : s = n := by omega
    subst e
    refine ⟨G, fun _ _ => rfl, hg, hs, fun Q => ?_⟩
    have h6 : ¬ (s : Int) < G H 3 := by omega
    simp (disch := first | assumption | exact c2_int _ | exact c2_ref _ | exact c2_jk | exact c2_null | omega | (apply rN1; assumption) | (apply rN2; assumption) | (apply rN3; assumption) | (apply rN4; assumption) | exact bI_r _ | exact bI_01 _) only [↓fX6_takeOver_0, ↓fX6_takeOver_1, ↓fX6_takeOver_2, ↓fX6_takeOver_5, ↓fX6_takeOver_6, ↓fX6_takeOver_6n, ↓fX6_takeOver_7, ↓fX6_takeOver_10, ↓fX6_takeOver_13, ↓fX6_takeOver_14, ↓fX6_takeOver_14n, ↓fX6_takeOver_15, ↓fX6_takeOver_18, ↓fX6_takeOver_21, ↓fX6_takeOver_22, ↓fX6_takeOver_23, ↓fX6_takeOver_24, ↓fX6_takeOver_25, ↓fX6_takeOver_28, ↓fX6_takeOver_31, ↓fX6_takeOver_32, ↓fX6_takeOver_33, ↓fX6_takeOver_36, ↓fX6_takeOver_36n, ↓fX6_takeOver_37, ↓fX6_takeOver_37n, ↓fX6_takeOver_38, ↓fX6_takeOver_39, ↓fX6_takeOver_42, ↓fX6_takeOver_42n, ↓fX6_takeOver_44, ↓fX6_takeOver_44n, ↓fX6_takeOver_45, ↓fX6_takeOver_45r, ↓fX6_takeOver_48, ↓fX6_takeOver_48n, ↓fX6_takeOver_50, ↓fX6_takeOver_50r, ↓fX6_takeOver_53, ↓fX6_takeOver_53n, ↓fX6_takeOver_54, ↓fX6_takeOver_54n, ↓fX6_takeOver_56, ↓fX6_takeOver_59, ↓fX6_takeOver_62, ↓fX6_takeOver_65, ↓fX6_takeOver_66, ↓fX6_takeOver_67, ↓fX6_takeOver_68, ↓fX6_takeOver_69, ↓fX6_takeOver_72, ↓fX6_takeOver_75, ↓fX6_takeOver_76, ↓fX6_takeOver_77, ↓fX6_takeOver_80, ↓fX6_takeOver_80n, ↓fX6_takeOver_81, ↓fX6_takeOver_81n, ↓fX6_takeOver_82, ↓fX6_takeOver_83, ↓fX6_takeOver_86, ↓fX6_takeOver_86n, ↓fX6_takeOver_88, ↓fX6_takeOver_88n, ↓fX6_takeOver_89, ↓fX6_takeOver_89r, ↓fX6_takeOver_92, ↓fX6_takeOver_92n, ↓fX6_takeOver_94, ↓fX6_takeOver_94r, ↓fX6_takeOver_97, ↓fX6_takeOver_97n, ↓fX6_takeOver_98, ↓fX6_takeOver_98n, ↓fX6_takeOver_100, ↓fX6_takeOver_103, ↓fX6_takeOver_106, ↓fX6_takeOver_109, h6, and_self, true_and, and_true, false_and, and_false, not_true_eq_false, not_false_eq_true, or_self, true_or, or_true, false_or, or_false, ite_not, Decidable.not_not, decide_eq_true_eq, Bool.not_true, Bool.not_false, Bool.false_eq_true, Bool.not_eq_true, n10, n20, n21, n30, n31, n32, n40, n41, n42, n43, ↓reduceIte]
  | succ k ih =>
    intro s l3 l4 G x3 x4 h1 h2 hc hg hr hs
    by_cases h6 : s < n
    · have hlS := hH.2.2.2.2.2.1 s (by omega)
      have hlD := (hD.2.2.2.2.2.1 s (by omega)).1
      have e1 := fun Q => c2_takeOver (G := G) (L := L) (Q := Q) hlS hlD (by omega)
      have c0 : ∀ x, x ≠ H + 30 + 2 * s → x ≠ H + 30 + 2 * s + 1 → ltG G (H + 30 + 2 * s) (D + 30 + 2 * s) x = G x := fun x xa xb => ltG_q xa xb
      obtain ⟨G', b1, b2, b3, b4⟩ := ih (s + 1) (.ref (H + 30 + 2 * s)) (.ref (D + 30 + 2 * s)) (ltG G (H + 30 + 2 * s) (D + 30 + 2 * s)) (c2_ref _) (c2_ref _) (by omega) (by omega) (by rw [c0 H (by omega) (by omega)]; exact hc) (fun t ht => by
        by_cases z : t = s
        · rw [z]
          exact ltG_rg (hg s (by omega)) (hr s h6) (by omega)
        · exact rgL_c (c0 _ (by omega) (by omega)) (c0 _ (by omega) (by omega)) (hg t ht)) (fun t ht => rgL_c (c0 _ (by omega) (by omega)) (c0 _ (by omega) (by omega)) (hr t ht)) (fun t ht => by
        rw [c0 (D + 30 + 2 * t) (by omega) (by omega), c0 (D + 30 + 2 * t + 1) (by omega) (by omega)]
        by_cases z : t = s
        · rw [z]
          exact ⟨ltG_1, fun j hj => ltG_n hj (by omega)⟩
        · rw [c0 (H + 30 + 2 * t) (by omega) (by omega), c0 (H + 30 + 2 * t + 1) (by omega) (by omega)]
          exact hs t (by omega))
      refine ⟨G', fun x hx => (b1 x hx).trans (c0 x (by omega) (by omega)), b2, fun t ht => ?_, fun Q => ?_⟩
      · have := b3 t ht
        rw [c0 (D + 30 + 2 * t) (by omega) (by omega), c0 (D + 30 + 2 * t + 1) (by omega) (by omega)] at this
        exact this
      · have h7 : (s : Int) < G H 3 := by omega
        have a1 : ∀ Q, RK MX6_listAt 0 [.ref H, .int (zi (s : Int))] [] (0, 0) (E, zg G, zk L, r) Q = Q (E, zg G, zk L, r) (.ref (H + 30 + 2 * s)) := fun Q => by
          rw [c6_listAt hH (by omega) (by omega), if_pos (by omega), Int.toNat_natCast]
        have a2 : ∀ Q, RK MX5_listAt 0 [.ref D, .int (zi (s : Int))] [] (0, 0) (E, zg G, zk L, r) Q = Q (E, zg G, zk L, r) (.ref (D + 30 + 2 * s)) := fun Q => by
          rw [c5_listAt hD (by omega), if_pos (by omega)]
        have k10 := hlS.1
        rw [← b4 Q, fX6_takeOver_67]
        simp (disch := first | assumption | exact c2_int _ | exact c2_ref _ | exact c2_jk | exact c2_null | omega | (apply rN1; assumption) | (apply rN2; assumption) | (apply rN3; assumption) | (apply rN4; assumption) | exact bI_r _ | exact bI_01 _) only [↓fX6_takeOver_0, ↓fX6_takeOver_1, ↓fX6_takeOver_2, ↓fX6_takeOver_5, ↓fX6_takeOver_6, ↓fX6_takeOver_6n, ↓fX6_takeOver_7, ↓fX6_takeOver_10, ↓fX6_takeOver_13, ↓fX6_takeOver_14, ↓fX6_takeOver_14n, ↓fX6_takeOver_15, ↓fX6_takeOver_18, ↓fX6_takeOver_21, ↓fX6_takeOver_22, ↓fX6_takeOver_23, ↓fX6_takeOver_24, ↓fX6_takeOver_25, ↓fX6_takeOver_28, ↓fX6_takeOver_31, ↓fX6_takeOver_32, ↓fX6_takeOver_33, ↓fX6_takeOver_36, ↓fX6_takeOver_36n, ↓fX6_takeOver_37, ↓fX6_takeOver_37n, ↓fX6_takeOver_38, ↓fX6_takeOver_39, ↓fX6_takeOver_42, ↓fX6_takeOver_42n, ↓fX6_takeOver_44, ↓fX6_takeOver_44n, ↓fX6_takeOver_45, ↓fX6_takeOver_45r, ↓fX6_takeOver_48, ↓fX6_takeOver_48n, ↓fX6_takeOver_50, ↓fX6_takeOver_50r, ↓fX6_takeOver_53, ↓fX6_takeOver_53n, ↓fX6_takeOver_54, ↓fX6_takeOver_54n, ↓fX6_takeOver_56, ↓fX6_takeOver_59, ↓fX6_takeOver_62, ↓fX6_takeOver_65, ↓fX6_takeOver_66, ↓fX6_takeOver_68, ↓fX6_takeOver_69, ↓fX6_takeOver_72, ↓fX6_takeOver_75, ↓fX6_takeOver_76, ↓fX6_takeOver_77, ↓fX6_takeOver_80, ↓fX6_takeOver_80n, ↓fX6_takeOver_81, ↓fX6_takeOver_81n, ↓fX6_takeOver_82, ↓fX6_takeOver_83, ↓fX6_takeOver_86, ↓fX6_takeOver_86n, ↓fX6_takeOver_88, ↓fX6_takeOver_88n, ↓fX6_takeOver_89, ↓fX6_takeOver_89r, ↓fX6_takeOver_92, ↓fX6_takeOver_92n, ↓fX6_takeOver_94, ↓fX6_takeOver_94r, ↓fX6_takeOver_97, ↓fX6_takeOver_97n, ↓fX6_takeOver_98, ↓fX6_takeOver_98n, ↓fX6_takeOver_100, ↓fX6_takeOver_103, ↓fX6_takeOver_106, ↓fX6_takeOver_109, ↓a1, ↓a2, ↓e1, h7, and_self, true_and, and_true, false_and, and_false, not_true_eq_false, not_false_eq_true, or_self, true_or, or_true, false_or, or_false, ite_not, Decidable.not_not, decide_eq_true_eq, Bool.not_true, Bool.not_false, Bool.false_eq_true, Bool.not_eq_true, n10, n20, n21, n30, n31, n32, n40, n41, n42, n43, ↓reduceIte]
        rfl
    · have e : s = n := by omega
      subst e
      refine ⟨G, fun _ _ => rfl, hg, hs, fun Q => ?_⟩
      have h6 : ¬ (s : Int) < G H 3 := by omega
      simp (disch := first | assumption | exact c2_int _ | exact c2_ref _ | exact c2_jk | exact c2_null | omega | (apply rN1; assumption) | (apply rN2; assumption) | (apply rN3; assumption) | (apply rN4; assumption) | exact bI_r _ | exact bI_01 _) only [↓fX6_takeOver_0, ↓fX6_takeOver_1, ↓fX6_takeOver_2, ↓fX6_takeOver_5, ↓fX6_takeOver_6, ↓fX6_takeOver_6n, ↓fX6_takeOver_7, ↓fX6_takeOver_10, ↓fX6_takeOver_13, ↓fX6_takeOver_14, ↓fX6_takeOver_14n, ↓fX6_takeOver_15, ↓fX6_takeOver_18, ↓fX6_takeOver_21, ↓fX6_takeOver_22, ↓fX6_takeOver_23, ↓fX6_takeOver_24, ↓fX6_takeOver_25, ↓fX6_takeOver_28, ↓fX6_takeOver_31, ↓fX6_takeOver_32, ↓fX6_takeOver_33, ↓fX6_takeOver_36, ↓fX6_takeOver_36n, ↓fX6_takeOver_37, ↓fX6_takeOver_37n, ↓fX6_takeOver_38, ↓fX6_takeOver_39, ↓fX6_takeOver_42, ↓fX6_takeOver_42n, ↓fX6_takeOver_44, ↓fX6_takeOver_44n, ↓fX6_takeOver_45, ↓fX6_takeOver_45r, ↓fX6_takeOver_48, ↓fX6_takeOver_48n, ↓fX6_takeOver_50, ↓fX6_takeOver_50r, ↓fX6_takeOver_53, ↓fX6_takeOver_53n, ↓fX6_takeOver_54, ↓fX6_takeOver_54n, ↓fX6_takeOver_56, ↓fX6_takeOver_59, ↓fX6_takeOver_62, ↓fX6_takeOver_65, ↓fX6_takeOver_66, ↓fX6_takeOver_67, ↓fX6_takeOver_68, ↓fX6_takeOver_69, ↓fX6_takeOver_72, ↓fX6_takeOver_75, ↓fX6_takeOver_76, ↓fX6_takeOver_77, ↓fX6_takeOver_80, ↓fX6_takeOver_80n, ↓fX6_takeOver_81, ↓fX6_takeOver_81n, ↓fX6_takeOver_82, ↓fX6_takeOver_83, ↓fX6_takeOver_86, ↓fX6_takeOver_86n, ↓fX6_takeOver_88, ↓fX6_takeOver_88n, ↓fX6_takeOver_89, ↓fX6_takeOver_89r, ↓fX6_takeOver_92, ↓fX6_takeOver_92n, ↓fX6_takeOver_94, ↓fX6_takeOver_94r, ↓fX6_takeOver_97, ↓fX6_takeOver_97n, ↓fX6_takeOver_98, ↓fX6_takeOver_98n, ↓fX6_takeOver_100, ↓fX6_takeOver_103, ↓fX6_takeOver_106, ↓fX6_takeOver_109, h6, and_self, true_and, and_true, false_and, and_false, not_true_eq_false, not_false_eq_true, or_self, true_or, or_true, false_or, or_false, ite_not, Decidable.not_not, decide_eq_true_eq, Bool.not_true, Bool.not_false, Bool.false_eq_true, Bool.not_eq_true, n10, n20, n21, n30, n31, n32, n40, n41, n42, n43, ↓reduceIte]
theorem c6_takeOver {n0 a0 : Nat} {σ0 : Nat → Nat → Int} (hF : SHF E r G H p q n0 σ0 a0 kk nn τ) (hL3 : ∀ t, t < 3 → rgL G (H + 30 + 2 * t)) (hD : shD E r D) (hDH : D + 35 < H) (hw : RW G D) (hR : RH G D cs cl σ ln lv) :
    ∃ G' : Nat → Nat → Int, SHF E r G' H p q cs σ 0 kk nn τ ∧ LH G' H cl ln lv ∧ (∀ x, x < H ∨ H + 83 < x → G' x = G x) ∧ ∀ Q, RK MX6_takeOver 0 [.ref H, .ref D, jk, jk, jk] [] (0, 0) (E, zg G, zk L, r) Q = Q (E, zg G', zk L, r) .null := by
  obtain ⟨hH, hp, hq, ⟨n1, n2⟩, hS, hR0, ⟨a1, a2⟩, hT, hA⟩ := hF
  obtain ⟨⟨c1, c2'⟩, ⟨c3, c4⟩, hs, hls⟩ := hR
  have h0 := hH.1
  have d0 := hD.1
  let G0 : Nat → Nat → Int := u2 (u2 (u2 G H 7 0) H 1 cs) H 3 cl
  have g0 : ∀ x, x ≠ H → G0 x = G x := fun x hx => (u2_a _ _ _ _ hx).trans ((u2_a _ _ _ _ hx).trans (u2_a _ _ _ _ hx))
  have e3 : G0 H 3 = cl := u2_s _ _ _ _
  have e1 : G0 H 1 = cs := (u2_i _ _ _ _ (by decide)).trans (u2_s _ _ _ _)
  have e7 : G0 H 7 = 0 := (u2_i _ _ _ _ (by decide)).trans ((u2_i _ _ _ _ (by decide)).trans (u2_s _ _ _ _))
  obtain ⟨G1, l3, l4, y3, y4, b1, b2, b3, b4⟩ := over_loop1 (L := L) (σ := σ) hH hD hp hDH c2' 4 0 jk jk G0 c2_jk c2_jk (by omega) (by omega) e1 (fun t ht => rgS_c (fun x x1 x2 => g0 x (by omega)) (hS t ht)) (fun t ht => ⟨RS_c (fun x x1 x2 => g0 x (by omega)) (hs t ht).1, (hs t ht).2⟩) (fun t ht => absurd ht (by omega))
  have k1 : ∀ x, x ≠ H → (x < H + 6 ∨ H + 29 < x) → G1 x = G x := fun x x1 x2 => (b1 x x2).trans (g0 x x1)
  have e13 : G1 H 3 = cl := by rw [b1 H (by omega), e3]
  obtain ⟨G2, d1, d2, d3, d4⟩ := over_loop2 (L := L) hH hD hDH c4 3 0 l3 l4 G1 y3 y4 (by omega) (by omega) e13 (fun t ht => rgL_c (k1 _ (by omega) (by omega)) (k1 _ (by omega) (by omega)) (hL3 t ht)) (fun t ht => rgL_c (k1 _ (by omega) (by omega)) (k1 _ (by omega) (by omega)) (hw.2 t (by omega))) (fun t ht => absurd ht (by omega))
  have hpp : ∀ t, t < 4 → eqS G1 G2 (H + 6 + 6 * p t) := fun t ht x x1 x2 => by
    have := (hp.1 t ht).2
    exact d1 x (by omega)
  have hqq : ∀ t, t < 8 → eqS G G2 (H + 36 + 6 * q t) := fun t ht x x1 x2 => by
    rw [d1 x (by omega), k1 x (by omega) (by omega)]
  refine ⟨G2, ⟨hH, hp, hq, ⟨?_, c2'⟩, fun t ht => rgS_c (hpp t ht) (b2 t ht), fun t ht => ⟨RS_c (hpp t (by omega)) (b3 t ht), (hs t ht).2⟩, ⟨?_, by omega⟩, fun t ht => rgS_c (hqq t ht) (hT t ht), fun t ht => absurd ht (by omega)⟩, ⟨⟨?_, c4⟩, d2, fun t ht => ?_⟩, fun x hx => ?_, fun Q => ?_⟩
  · rw [d1 H (by omega), b1 H (by omega), e1]
  · rw [d1 H (by omega), b1 H (by omega), e7]
    rfl
  · rw [d1 H (by omega), e13]
  · obtain ⟨v1, v2, v3⟩ := hls t ht
    obtain ⟨w1, w2⟩ := d3 t ht
    rw [w1, k1 (D + 30 + 2 * t) (by omega) (by omega)]
    refine ⟨v1, v2, fun j hj => ?_⟩
    rw [w2 j (by omega), k1 (D + 30 + 2 * t + 1) (by omega) (by omega)]
    exact v3 j hj
  · rw [d1 x (by omega), k1 x (by omega) (by omega)]
  · have f1 : u2 G H 7 0 D 10 = cs := by rw [u2_a _ _ _ _ (by omega), c1]
    have f2 : u2 (u2 G H 7 0) H 1 cs D 12 = cl := by rw [u2_a _ _ _ _ (by omega), u2_a _ _ _ _ (by omega), c3]
    have b4' : ∀ Q, RK MX6_takeOver 23 [.ref H, .ref D, .int (zi 0), jk, jk] [] (0, 0) (E, zg (u2 (u2 (u2 G H 7 0) H 1 cs) H 3 cl), zk L, r) Q = RK MX6_takeOver 65 [.ref H, .ref D, .int (zi (cs : Int)), l3, l4] [] (0, 0) (E, zg G1, zk L, r) Q := b4
    have d4' : ∀ Q, RK MX6_takeOver 67 [.ref H, .ref D, .int (zi 0), l3, l4] [] (0, 0) (E, zg G1, zk L, r) Q = Q (E, zg G2, zk L, r) .null := d4
    simp (disch := first | assumption | exact c2_int _ | exact c2_ref _ | exact c2_jk | exact c2_null | omega | (apply rN1; assumption) | (apply rN2; assumption) | (apply rN3; assumption) | (apply rN4; assumption) | exact bI_r _ | exact bI_01 _) only [↓fX6_takeOver_0, ↓fX6_takeOver_1, ↓fX6_takeOver_2, ↓fX6_takeOver_5, ↓fX6_takeOver_6, ↓fX6_takeOver_6n, ↓fX6_takeOver_7, ↓fX6_takeOver_10, ↓fX6_takeOver_13, ↓fX6_takeOver_14, ↓fX6_takeOver_14n, ↓fX6_takeOver_15, ↓fX6_takeOver_18, ↓fX6_takeOver_21, ↓fX6_takeOver_22, ↓fX6_takeOver_24, ↓fX6_takeOver_25, ↓fX6_takeOver_28, ↓fX6_takeOver_31, ↓fX6_takeOver_32, ↓fX6_takeOver_33, ↓fX6_takeOver_36, ↓fX6_takeOver_36n, ↓fX6_takeOver_37, ↓fX6_takeOver_37n, ↓fX6_takeOver_38, ↓fX6_takeOver_39, ↓fX6_takeOver_42, ↓fX6_takeOver_42n, ↓fX6_takeOver_44, ↓fX6_takeOver_44n, ↓fX6_takeOver_45, ↓fX6_takeOver_45r, ↓fX6_takeOver_48, ↓fX6_takeOver_48n, ↓fX6_takeOver_50, ↓fX6_takeOver_50r, ↓fX6_takeOver_53, ↓fX6_takeOver_53n, ↓fX6_takeOver_54, ↓fX6_takeOver_54n, ↓fX6_takeOver_56, ↓fX6_takeOver_59, ↓fX6_takeOver_62, ↓fX6_takeOver_65, ↓fX6_takeOver_66, ↓fX6_takeOver_68, ↓fX6_takeOver_69, ↓fX6_takeOver_72, ↓fX6_takeOver_75, ↓fX6_takeOver_76, ↓fX6_takeOver_77, ↓fX6_takeOver_80, ↓fX6_takeOver_80n, ↓fX6_takeOver_81, ↓fX6_takeOver_81n, ↓fX6_takeOver_82, ↓fX6_takeOver_83, ↓fX6_takeOver_86, ↓fX6_takeOver_86n, ↓fX6_takeOver_88, ↓fX6_takeOver_88n, ↓fX6_takeOver_89, ↓fX6_takeOver_89r, ↓fX6_takeOver_92, ↓fX6_takeOver_92n, ↓fX6_takeOver_94, ↓fX6_takeOver_94r, ↓fX6_takeOver_97, ↓fX6_takeOver_97n, ↓fX6_takeOver_98, ↓fX6_takeOver_98n, ↓fX6_takeOver_100, ↓fX6_takeOver_103, ↓fX6_takeOver_106, ↓fX6_takeOver_109, f1, f2, ↓b4', ↓d4', and_self, true_and, and_true, false_and, and_false, not_true_eq_false, not_false_eq_true, or_self, true_or, or_true, false_or, or_false, ite_not, Decidable.not_not, decide_eq_true_eq, Bool.not_true, Bool.not_false, Bool.false_eq_true, Bool.not_eq_true, n10, n20, n21, n30, n31, n32, n40, n41, n42, n43, ↓reduceIte]
end BS
