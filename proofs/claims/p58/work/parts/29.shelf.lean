/-! The shelf: sieves and lists, the acts. -/
def shH (E : AE) (r : Nat → Nat → Option Nat) (H : Nat) : Prop := kd E H = 13 ∧ (kd E (H + 1) = 5 ∧ kd E (H + 2) = 6 ∧ kd E (H + 3) = 1 ∧ kd E (H + 4) = 1 ∧ kd E (H + 5) = 5) ∧ (le E (H + 1) = 4 ∧ le E (H + 2) = 3 ∧ le E (H + 3) = 8 ∧ le E (H + 4) = 8 ∧ le E (H + 5) = 8) ∧ (r H 0 = some (H + 1) ∧ r H 2 = some (H + 2) ∧ r H 4 = some (H + 3) ∧ r H 5 = some (H + 4) ∧ r H 6 = some (H + 5)) ∧ (∀ t, t < 4 → shS E r (H + 6 + 6 * t)) ∧ (∀ t, t < 3 → shL E r (H + 30 + 2 * t)) ∧ (∀ t, t < 8 → shS E r (H + 36 + 6 * t)) ∧ (∀ t, t < 3 → r (H + 2) t = some (H + 30 + 2 * t))
def sP (r : Nat → Nat → Option Nat) (H : Nat) (p : Nat → Nat) : Prop := (∀ t, t < 4 → r (H + 1) t = some (H + 6 + 6 * p t) ∧ p t < 4) ∧ ∀ t u, t < 4 → u < 4 → p t = p u → t = u
def sA (r : Nat → Nat → Option Nat) (H : Nat) (q : Nat → Nat) : Prop := (∀ t, t < 8 → r (H + 5) t = some (H + 36 + 6 * q t) ∧ q t < 8) ∧ ∀ t u, t < 8 → u < 8 → q t = q u → t = u
def shG (G : Nat → Nat → Int) (H n : Nat) : Nat → Nat → Int := fun a j => if (a = H + 3 ∨ a = H + 4) ∧ j < n then G a (j + 1) else G a j
def shR (r : Nat → Nat → Option Nat) (a0 n : Nat) : Nat → Nat → Option Nat := fun a j => if a = a0 ∧ j < n then r a (j + 1) else r a j
def fgG (G : Nat → Nat → Int) (H : Nat) : Nat → Nat → Int := u2 (shG G H 7) H 7 (G H 7 - 1)
def fgR (r : Nat → Nat → Option Nat) (H : Nat) : Nat → Nat → Option Nat := u2 (shR r (H + 5) 7) (H + 5) 7 (r (H + 5) 0)
section BS
variable {E : AE} {G L : Nat → Nat → Int} {r : Nat → Nat → Option Nat} {h : AH} {Q : AH → Value → Prop} {S H : Nat} {p q : Nat → Nat} {i v n x b u s kk : Int}
theorem shR_0 {a : Nat} : shR r a 0 = r := by
  funext a j
  exact if_neg (by omega)
theorem shG_0 : shG G H 0 = G := by
  funext a j
  exact if_neg (by omega)
theorem c6_sieveAt (hH : shH E r H) (hp : sP r H p) (hn : 0 ≤ G H 1 ∧ G H 1 ≤ 4) (hx : I32 s) : RK MX6_sieveAt 0 [.ref H, .int (zi s)] [] (0, 0) (E, zg G, zk L, r) Q = Q (E, zg G, zk L, r) (if 0 ≤ s ∧ s ≤ G H 1 - 1 then .ref (H + 6 + 6 * p s.toNat) else .null) := by
  obtain ⟨h0, ⟨h1, h2, h3, h4, h5⟩, ⟨l1, l2, l3, l4, l5⟩, ⟨r0, r2, r4, r5, r6⟩, -⟩ := id hH
  by_cases h6 : 0 ≤ s ∧ s ≤ G H 1 - 1
  · have e := (hp.1 s.toNat (by omega)).1
    have h7 : s < (le E (H + 1) : Int) := by omega
    rw [if_pos h6]
    simp (disch := first | assumption | exact c2_int _ | exact c2_ref _ | exact c2_jk | exact c2_null | omega | (apply rN1; assumption) | (apply rN2; assumption) | (apply rN3; assumption) | (apply rN4; assumption) | exact bI_r _ | exact bI_01 _) only [↓fX6_sieveAt_0, ↓fX6_sieveAt_1, ↓fX6_sieveAt_2, ↓fX6_sieveAt_3, ↓fX6_sieveAt_6, ↓fX6_sieveAt_7, ↓fX6_sieveAt_8, ↓fX6_sieveAt_11, ↓fX6_sieveAt_14, ↓fX6_sieveAt_15, ↓fX6_sieveAt_16, ↓fX6_sieveAt_19, ↓fX6_sieveAt_20, ↓fX6_sieveAt_23, ↓fX6_sieveAt_24, ↓fX6_sieveAt_27, ↓fX6_sieveAt_28, ↓fX6_sieveAt_29, ↓fX6_sieveAt_32, ↓fX6_sieveAt_33, ↓fX6_sieveAt_33n, ↓c9_within, bI_0, h6, h7, and_self, true_and, and_true, false_and, and_false, not_true_eq_false, not_false_eq_true, or_self, true_or, or_true, false_or, or_false, ite_not, Decidable.not_not, decide_eq_true_eq, Bool.not_true, Bool.not_false, Bool.false_eq_true, Bool.not_eq_true, n10, n20, n21, n30, n31, n32, n40, n41, n42, n43, ↓reduceIte]
  · rw [if_neg h6]
    simp (disch := first | assumption | exact c2_int _ | exact c2_ref _ | exact c2_jk | exact c2_null | omega | (apply rN1; assumption) | (apply rN2; assumption) | (apply rN3; assumption) | (apply rN4; assumption) | exact bI_r _ | exact bI_01 _) only [↓fX6_sieveAt_0, ↓fX6_sieveAt_1, ↓fX6_sieveAt_2, ↓fX6_sieveAt_3, ↓fX6_sieveAt_6, ↓fX6_sieveAt_7, ↓fX6_sieveAt_8, ↓fX6_sieveAt_11, ↓fX6_sieveAt_14, ↓fX6_sieveAt_15, ↓fX6_sieveAt_16, ↓fX6_sieveAt_19, ↓fX6_sieveAt_20, ↓fX6_sieveAt_23, ↓fX6_sieveAt_24, ↓fX6_sieveAt_27, ↓fX6_sieveAt_28, ↓fX6_sieveAt_29, ↓fX6_sieveAt_32, ↓fX6_sieveAt_33, ↓fX6_sieveAt_33n, ↓c9_within, bI_0, h6, and_self, true_and, and_true, false_and, and_false, not_true_eq_false, not_false_eq_true, or_self, true_or, or_true, false_or, or_false, ite_not, Decidable.not_not, decide_eq_true_eq, Bool.not_true, Bool.not_false, Bool.false_eq_true, Bool.not_eq_true, n10, n20, n21, n30, n31, n32, n40, n41, n42, n43, ↓reduceIte]
theorem c6_listAt (hH : shH E r H) (hn : 0 ≤ G H 3 ∧ G H 3 ≤ 3) (hx : I32 s) : RK MX6_listAt 0 [.ref H, .int (zi s)] [] (0, 0) (E, zg G, zk L, r) Q = Q (E, zg G, zk L, r) (if 0 ≤ s ∧ s ≤ G H 3 - 1 then .ref (H + 30 + 2 * s.toNat) else .null) := by
  obtain ⟨h0, ⟨h1, h2, h3, h4, h5⟩, ⟨l1, l2, l3, l4, l5⟩, ⟨r0, r2, r4, r5, r6⟩, -, -, -, rl⟩ := id hH
  by_cases h6 : 0 ≤ s ∧ s ≤ G H 3 - 1
  · have e := rl s.toNat (by omega)
    have h7 : s < (le E (H + 2) : Int) := by omega
    rw [if_pos h6]
    simp (disch := first | assumption | exact c2_int _ | exact c2_ref _ | exact c2_jk | exact c2_null | omega | (apply rN1; assumption) | (apply rN2; assumption) | (apply rN3; assumption) | (apply rN4; assumption) | exact bI_r _ | exact bI_01 _) only [↓fX6_listAt_0, ↓fX6_listAt_1, ↓fX6_listAt_2, ↓fX6_listAt_3, ↓fX6_listAt_6, ↓fX6_listAt_7, ↓fX6_listAt_8, ↓fX6_listAt_11, ↓fX6_listAt_14, ↓fX6_listAt_15, ↓fX6_listAt_16, ↓fX6_listAt_19, ↓fX6_listAt_20, ↓fX6_listAt_23, ↓fX6_listAt_24, ↓fX6_listAt_27, ↓fX6_listAt_28, ↓fX6_listAt_29, ↓fX6_listAt_32, ↓fX6_listAt_33, ↓fX6_listAt_33n, ↓c9_within, bI_0, h6, h7, and_self, true_and, and_true, false_and, and_false, not_true_eq_false, not_false_eq_true, or_self, true_or, or_true, false_or, or_false, ite_not, Decidable.not_not, decide_eq_true_eq, Bool.not_true, Bool.not_false, Bool.false_eq_true, Bool.not_eq_true, n10, n20, n21, n30, n31, n32, n40, n41, n42, n43, ↓reduceIte]
  · rw [if_neg h6]
    simp (disch := first | assumption | exact c2_int _ | exact c2_ref _ | exact c2_jk | exact c2_null | omega | (apply rN1; assumption) | (apply rN2; assumption) | (apply rN3; assumption) | (apply rN4; assumption) | exact bI_r _ | exact bI_01 _) only [↓fX6_listAt_0, ↓fX6_listAt_1, ↓fX6_listAt_2, ↓fX6_listAt_3, ↓fX6_listAt_6, ↓fX6_listAt_7, ↓fX6_listAt_8, ↓fX6_listAt_11, ↓fX6_listAt_14, ↓fX6_listAt_15, ↓fX6_listAt_16, ↓fX6_listAt_19, ↓fX6_listAt_20, ↓fX6_listAt_23, ↓fX6_listAt_24, ↓fX6_listAt_27, ↓fX6_listAt_28, ↓fX6_listAt_29, ↓fX6_listAt_32, ↓fX6_listAt_33, ↓fX6_listAt_33n, ↓c9_within, bI_0, h6, and_self, true_and, and_true, false_and, and_false, not_true_eq_false, not_false_eq_true, or_self, true_or, or_true, false_or, or_false, ite_not, Decidable.not_not, decide_eq_true_eq, Bool.not_true, Bool.not_false, Bool.false_eq_true, Bool.not_eq_true, n10, n20, n21, n30, n31, n32, n40, n41, n42, n43, ↓reduceIte]
theorem c6_forget_loop {rr : Nat} (hr : r (H + 5) 0 = some rr) (hrr : kd E rr = 14) (hH : shH E r H) (hA : ∀ t, t < 8 → ∃ w, r (H + 5) t = some w ∧ kd E w = 14) : ∀ (k n : Nat), 7 - n ≤ k → n ≤ 7 →
    RK MX6_forgetOldest 22 [.ref H, .int (zi 7), .ref rr, .int (zi (n : Int))] [] (0, 0) (E, zg (shG G H n), zk L, shR r (H + 5) n) Q = Q (E, zg (fgG G H), zk L, fgR r H) .null := by
  obtain ⟨h0, ⟨h1, h2, h3, h4, h5⟩, ⟨l1, l2, l3, l4, l5⟩, ⟨r0, r2, r4, r5, r6⟩, -⟩ := id hH
  have hl : ∀ n, shR r (H + 5) n H 4 = some (H + 3) ∧ shR r (H + 5) n H 5 = some (H + 4) ∧ shR r (H + 5) n H 6 = some (H + 5) := fun n => by
    refine ⟨?_, ?_, ?_⟩ <;>
    · unfold shR
      rw [if_neg (by omega)]
      assumption
  have fin : RK MX6_forgetOldest 83 [.ref H, .int (zi 7), .ref rr, .int (zi ((7 : Nat) : Int))] [] (0, 0) (E, zg (shG G H 7), zk L, shR r (H + 5) 7) Q = Q (E, zg (fgG G H), zk L, fgR r H) .null := by
    obtain ⟨e1, e2, e3⟩ := hl 7
    have e4 : shG G H 7 H 7 = G H 7 := if_neg (by omega)
    unfold fgG fgR
    simp (disch := first | assumption | exact c2_int _ | exact c2_ref _ | exact c2_jk | exact c2_null | omega | (apply rN1; assumption) | (apply rN2; assumption) | (apply rN3; assumption) | (apply rN4; assumption) | exact bI_r _ | exact bI_01 _) only [↓fX6_forgetOldest_0, ↓fX6_forgetOldest_1, ↓fX6_forgetOldest_4, ↓fX6_forgetOldest_5, ↓fX6_forgetOldest_6, ↓fX6_forgetOldest_7, ↓fX6_forgetOldest_8, ↓fX6_forgetOldest_9, ↓fX6_forgetOldest_12, ↓fX6_forgetOldest_13, ↓fX6_forgetOldest_14, ↓fX6_forgetOldest_17, ↓fX6_forgetOldest_18, ↓fX6_forgetOldest_19, ↓fX6_forgetOldest_19n, ↓fX6_forgetOldest_20, ↓fX6_forgetOldest_21, ↓fX6_forgetOldest_22, ↓fX6_forgetOldest_23, ↓fX6_forgetOldest_24, ↓fX6_forgetOldest_27, ↓fX6_forgetOldest_28, ↓fX6_forgetOldest_31, ↓fX6_forgetOldest_32, ↓fX6_forgetOldest_33, ↓fX6_forgetOldest_36, ↓fX6_forgetOldest_37, ↓fX6_forgetOldest_38, ↓fX6_forgetOldest_39, ↓fX6_forgetOldest_42, ↓fX6_forgetOldest_45, ↓fX6_forgetOldest_46, ↓fX6_forgetOldest_49, ↓fX6_forgetOldest_50, ↓fX6_forgetOldest_51, ↓fX6_forgetOldest_54, ↓fX6_forgetOldest_55, ↓fX6_forgetOldest_56, ↓fX6_forgetOldest_57, ↓fX6_forgetOldest_60, ↓fX6_forgetOldest_63, ↓fX6_forgetOldest_64, ↓fX6_forgetOldest_67, ↓fX6_forgetOldest_68, ↓fX6_forgetOldest_69, ↓fX6_forgetOldest_72, ↓fX6_forgetOldest_73, ↓fX6_forgetOldest_74, ↓fX6_forgetOldest_75, ↓fX6_forgetOldest_76, ↓fX6_forgetOldest_77, ↓fX6_forgetOldest_80, ↓fX6_forgetOldest_83, ↓fX6_forgetOldest_84, ↓fX6_forgetOldest_87, ↓fX6_forgetOldest_88, ↓fX6_forgetOldest_88n, ↓fX6_forgetOldest_89, ↓fX6_forgetOldest_90, ↓fX6_forgetOldest_91, ↓fX6_forgetOldest_92, ↓fX6_forgetOldest_95, ↓fX6_forgetOldest_96, ↓fX6_forgetOldest_97, ↓fX6_forgetOldest_100, e4, hr, and_self, true_and, and_true, false_and, and_false, not_true_eq_false, not_false_eq_true, or_self, true_or, or_true, false_or, or_false, ite_not, Decidable.not_not, decide_eq_true_eq, Bool.not_true, Bool.not_false, Bool.false_eq_true, Bool.not_eq_true, n10, n20, n21, n30, n31, n32, n40, n41, n42, n43, ↓reduceIte]
    rfl
  intro k
  induction k with
  | zero =>
    intro n h1 h2
    have e : n = 7 := by omega
    subst e
    have h6 : ¬ ((7 : Nat) : Int) < 7 := by omega
    obtain ⟨e1, e2, e3⟩ := hl 7
    rw [← fin]
    simp (disch := first | assumption | exact c2_int _ | exact c2_ref _ | exact c2_jk | exact c2_null | omega | (apply rN1; assumption) | (apply rN2; assumption) | (apply rN3; assumption) | (apply rN4; assumption) | exact bI_r _ | exact bI_01 _) only [↓fX6_forgetOldest_0, ↓fX6_forgetOldest_1, ↓fX6_forgetOldest_4, ↓fX6_forgetOldest_5, ↓fX6_forgetOldest_6, ↓fX6_forgetOldest_7, ↓fX6_forgetOldest_8, ↓fX6_forgetOldest_9, ↓fX6_forgetOldest_12, ↓fX6_forgetOldest_13, ↓fX6_forgetOldest_14, ↓fX6_forgetOldest_17, ↓fX6_forgetOldest_18, ↓fX6_forgetOldest_19, ↓fX6_forgetOldest_19n, ↓fX6_forgetOldest_20, ↓fX6_forgetOldest_21, ↓fX6_forgetOldest_22, ↓fX6_forgetOldest_23, ↓fX6_forgetOldest_24, ↓fX6_forgetOldest_27, ↓fX6_forgetOldest_28, ↓fX6_forgetOldest_31, ↓fX6_forgetOldest_32, ↓fX6_forgetOldest_33, ↓fX6_forgetOldest_36, ↓fX6_forgetOldest_37, ↓fX6_forgetOldest_38, ↓fX6_forgetOldest_39, ↓fX6_forgetOldest_42, ↓fX6_forgetOldest_45, ↓fX6_forgetOldest_46, ↓fX6_forgetOldest_49, ↓fX6_forgetOldest_50, ↓fX6_forgetOldest_51, ↓fX6_forgetOldest_54, ↓fX6_forgetOldest_55, ↓fX6_forgetOldest_56, ↓fX6_forgetOldest_57, ↓fX6_forgetOldest_60, ↓fX6_forgetOldest_63, ↓fX6_forgetOldest_64, ↓fX6_forgetOldest_67, ↓fX6_forgetOldest_68, ↓fX6_forgetOldest_69, ↓fX6_forgetOldest_72, ↓fX6_forgetOldest_73, ↓fX6_forgetOldest_74, ↓fX6_forgetOldest_75, ↓fX6_forgetOldest_76, ↓fX6_forgetOldest_77, ↓fX6_forgetOldest_80, ↓fX6_forgetOldest_84, ↓fX6_forgetOldest_87, ↓fX6_forgetOldest_88, ↓fX6_forgetOldest_88n, ↓fX6_forgetOldest_89, ↓fX6_forgetOldest_90, ↓fX6_forgetOldest_91, ↓fX6_forgetOldest_92, ↓fX6_forgetOldest_95, ↓fX6_forgetOldest_96, ↓fX6_forgetOldest_97, ↓fX6_forgetOldest_100, h6, and_self, true_and, and_true, false_and, and_false, not_true_eq_false, not_false_eq_true, or_self, true_or, or_true, false_or, or_false, ite_not, Decidable.not_not, decide_eq_true_eq, Bool.not_true, Bool.not_false, Bool.false_eq_true, Bool.not_eq_true, n10, n20, n21, n30, n31, n32, n40, n41, n42, n43, ↓reduceIte]
  | succ k ih =>
    intro n g1 g2
    by_cases h6 : n < 7
    · obtain ⟨e1, e2, e3⟩ := hl n
      obtain ⟨w, w1, w2⟩ := hA (n + 1) (by omega)
      have h7 : (n : Int) < 7 := by omega
      have f1 : cAt E (shG G H n) (H + 3) ((n : Int) + 1) = G (H + 3) (n + 1) := by
        unfold cAt shG
        rw [if_pos (by omega), if_neg (by omega)]
        rfl
      have f2 : ∀ v, cAt E (u2 (shG G H n) (H + 3) n v) (H + 4) ((n : Int) + 1) = G (H + 4) (n + 1) := fun v => by
        unfold cAt
        rw [if_pos (by omega), u2_a _ _ _ _ (by omega)]
        unfold shG
        rw [if_neg (by omega)]
        rfl
      have f3 : ∀ v, (if 0 ≤ (n : Int) ∧ (n : Int) < (le E (H + 3) : Int) then u2 (shG G H n) (H + 3) n v else shG G H n) = u2 (shG G H n) (H + 3) n v := fun v => if_pos (by omega)
      have f4 : ∀ v w, (if 0 ≤ (n : Int) ∧ (n : Int) < (le E (H + 4) : Int) then u2 (u2 (shG G H n) (H + 3) n v) (H + 4) n w else (u2 (shG G H n) (H + 3) n v)) = u2 (u2 (shG G H n) (H + 3) n v) (H + 4) n w := fun v w => if_pos (by omega)
      have f5 : u2 (u2 (shG G H n) (H + 3) n (G (H + 3) (n + 1))) (H + 4) n (G (H + 4) (n + 1)) = shG G H (n + 1) := by
        funext a j
        simp only [u2, shG]
        by_cases a4 : a = H + 4
        · subst a4
          by_cases j1 : j = n
          · subst j1
            simp
          · rw [if_neg (by omega), if_neg (by omega)]
            by_cases j2 : j < n
            · rw [if_pos (by omega), if_pos (by omega)]
            · rw [if_neg (by omega), if_neg (by omega)]
        · by_cases a3 : a = H + 3
          · subst a3
            rw [if_neg (by omega)]
            by_cases j1 : j = n
            · subst j1
              simp
            · rw [if_neg (by omega)]
              by_cases j2 : j < n
              · rw [if_pos (by omega), if_pos (by omega)]
              · rw [if_neg (by omega), if_neg (by omega)]
          · rw [if_neg (by omega), if_neg (by omega), if_neg (by omega), if_neg (by omega)]
      have f6 : u2 (shR r (H + 5) n) (H + 5) n (some w) = shR r (H + 5) (n + 1) := by
        funext a j
        simp only [u2, shR]
        by_cases a4 : a = H + 5
        · subst a4
          by_cases j1 : j = n
          · subst j1
            simp [w1]
          · rw [if_neg (by omega)]
            by_cases j2 : j < n
            · rw [if_pos (by omega), if_pos (by omega)]
            · rw [if_neg (by omega), if_neg (by omega)]
        · rw [if_neg (by omega), if_neg (by omega), if_neg (by omega)]
      have f7 : shR r (H + 5) n (H + 5) ((n : Int) + 1).toNat = some w := by
        unfold shR
        rw [if_neg (by omega)]
        exact w1
      have ih' := ih (n + 1) (by omega) (by omega)
      rw [← f5, ← f6, Int.natCast_add] at ih'
      have ih'' : RK MX6_forgetOldest 22 [.ref H, .int (zi 7), .ref rr, .int (zi ((n : Int) + 1))] [] (0, 0) _ Q = _ := ih'
      rw [fX6_forgetOldest_22]
      simp (disch := first | assumption | exact c2_int _ | exact c2_ref _ | exact c2_jk | exact c2_null | omega | (apply rN1; assumption) | (apply rN2; assumption) | (apply rN3; assumption) | (apply rN4; assumption) | exact bI_r _ | exact bI_01 _) only [↓fX6_forgetOldest_0, ↓fX6_forgetOldest_1, ↓fX6_forgetOldest_4, ↓fX6_forgetOldest_5, ↓fX6_forgetOldest_6, ↓fX6_forgetOldest_7, ↓fX6_forgetOldest_8, ↓fX6_forgetOldest_9, ↓fX6_forgetOldest_12, ↓fX6_forgetOldest_13, ↓fX6_forgetOldest_14, ↓fX6_forgetOldest_17, ↓fX6_forgetOldest_18, ↓fX6_forgetOldest_19, ↓fX6_forgetOldest_19n, ↓fX6_forgetOldest_20, ↓fX6_forgetOldest_21, ↓fX6_forgetOldest_23, ↓fX6_forgetOldest_24, ↓fX6_forgetOldest_27, ↓fX6_forgetOldest_28, ↓fX6_forgetOldest_31, ↓fX6_forgetOldest_32, ↓fX6_forgetOldest_33, ↓fX6_forgetOldest_36, ↓fX6_forgetOldest_37, ↓fX6_forgetOldest_38, ↓fX6_forgetOldest_39, ↓fX6_forgetOldest_42, ↓fX6_forgetOldest_45, ↓fX6_forgetOldest_46, ↓fX6_forgetOldest_49, ↓fX6_forgetOldest_50, ↓fX6_forgetOldest_51, ↓fX6_forgetOldest_54, ↓fX6_forgetOldest_55, ↓fX6_forgetOldest_56, ↓fX6_forgetOldest_57, ↓fX6_forgetOldest_60, ↓fX6_forgetOldest_63, ↓fX6_forgetOldest_64, ↓fX6_forgetOldest_67, ↓fX6_forgetOldest_68, ↓fX6_forgetOldest_69, ↓fX6_forgetOldest_72, ↓fX6_forgetOldest_73, ↓fX6_forgetOldest_74, ↓fX6_forgetOldest_75, ↓fX6_forgetOldest_76, ↓fX6_forgetOldest_77, ↓fX6_forgetOldest_80, ↓fX6_forgetOldest_84, ↓fX6_forgetOldest_87, ↓fX6_forgetOldest_88, ↓fX6_forgetOldest_88n, ↓fX6_forgetOldest_89, ↓fX6_forgetOldest_90, ↓fX6_forgetOldest_91, ↓fX6_forgetOldest_92, ↓fX6_forgetOldest_95, ↓fX6_forgetOldest_96, ↓fX6_forgetOldest_97, ↓fX6_forgetOldest_100, ↓c9_at, ↓c9_put, f1, f2, f3, f4, Int.toNat_natCast, h7, and_self, true_and, and_true, false_and, and_false, not_true_eq_false, not_false_eq_true, or_self, true_or, or_true, false_or, or_false, ite_not, Decidable.not_not, decide_eq_true_eq, Bool.not_true, Bool.not_false, Bool.false_eq_true, Bool.not_eq_true, n10, n20, n21, n30, n31, n32, n40, n41, n42, n43, ↓reduceIte]
      exact ih''
    · have e : n = 7 := by omega
      subst e
      have h6 : ¬ ((7 : Nat) : Int) < 7 := by omega
      obtain ⟨e1, e2, e3⟩ := hl 7
      rw [← fin]
      simp (disch := first | assumption | exact c2_int _ | exact c2_ref _ | exact c2_jk | exact c2_null | omega | (apply rN1; assumption) | (apply rN2; assumption) | (apply rN3; assumption) | (apply rN4; assumption) | exact bI_r _ | exact bI_01 _) only [↓fX6_forgetOldest_0, ↓fX6_forgetOldest_1, ↓fX6_forgetOldest_4, ↓fX6_forgetOldest_5, ↓fX6_forgetOldest_6, ↓fX6_forgetOldest_7, ↓fX6_forgetOldest_8, ↓fX6_forgetOldest_9, ↓fX6_forgetOldest_12, ↓fX6_forgetOldest_13, ↓fX6_forgetOldest_14, ↓fX6_forgetOldest_17, ↓fX6_forgetOldest_18, ↓fX6_forgetOldest_19, ↓fX6_forgetOldest_19n, ↓fX6_forgetOldest_20, ↓fX6_forgetOldest_21, ↓fX6_forgetOldest_22, ↓fX6_forgetOldest_23, ↓fX6_forgetOldest_24, ↓fX6_forgetOldest_27, ↓fX6_forgetOldest_28, ↓fX6_forgetOldest_31, ↓fX6_forgetOldest_32, ↓fX6_forgetOldest_33, ↓fX6_forgetOldest_36, ↓fX6_forgetOldest_37, ↓fX6_forgetOldest_38, ↓fX6_forgetOldest_39, ↓fX6_forgetOldest_42, ↓fX6_forgetOldest_45, ↓fX6_forgetOldest_46, ↓fX6_forgetOldest_49, ↓fX6_forgetOldest_50, ↓fX6_forgetOldest_51, ↓fX6_forgetOldest_54, ↓fX6_forgetOldest_55, ↓fX6_forgetOldest_56, ↓fX6_forgetOldest_57, ↓fX6_forgetOldest_60, ↓fX6_forgetOldest_63, ↓fX6_forgetOldest_64, ↓fX6_forgetOldest_67, ↓fX6_forgetOldest_68, ↓fX6_forgetOldest_69, ↓fX6_forgetOldest_72, ↓fX6_forgetOldest_73, ↓fX6_forgetOldest_74, ↓fX6_forgetOldest_75, ↓fX6_forgetOldest_76, ↓fX6_forgetOldest_77, ↓fX6_forgetOldest_80, ↓fX6_forgetOldest_84, ↓fX6_forgetOldest_87, ↓fX6_forgetOldest_88, ↓fX6_forgetOldest_88n, ↓fX6_forgetOldest_89, ↓fX6_forgetOldest_90, ↓fX6_forgetOldest_91, ↓fX6_forgetOldest_92, ↓fX6_forgetOldest_95, ↓fX6_forgetOldest_96, ↓fX6_forgetOldest_97, ↓fX6_forgetOldest_100, h6, and_self, true_and, and_true, false_and, and_false, not_true_eq_false, not_false_eq_true, or_self, true_or, or_true, false_or, or_false, ite_not, Decidable.not_not, decide_eq_true_eq, Bool.not_true, Bool.not_false, Bool.false_eq_true, Bool.not_eq_true, n10, n20, n21, n30, n31, n32, n40, n41, n42, n43, ↓reduceIte]
theorem c6_forgetOldest (hH : shH E r H) (hA : sA r H q) : RK MX6_forgetOldest 0 [.ref H, jk, jk, jk] [] (0, 0) (E, zg G, zk L, r) Q = Q (E, zg (fgG G H), zk L, fgR r H) .null := by
  obtain ⟨h0, ⟨h1, h2, h3, h4, h5⟩, ⟨l1, l2, l3, l4, l5⟩, ⟨r0, r2, r4, r5, r6⟩, -, -, hs, -⟩ := id hH
  have hA' : ∀ t, t < 8 → ∃ w, r (H + 5) t = some w ∧ kd E w = 14 := fun t ht => ⟨_, (hA.1 t ht).1, (hs _ (hA.1 t ht).2).1⟩
  have a0 := (hA.1 0 (by omega)).1
  have := c6_forget_loop (G := G) (L := L) (Q := Q) a0 ((hs _ (hA.1 0 (by omega)).2).1) hH hA' 7 0 (by omega) (by omega)
  rw [shG_0, shR_0] at this
  have a0' : r (H + 5) (0 : Int).toNat = some (H + 36 + 6 * q 0) := a0
  have e5 : (le E (H + 5) : Int) - 1 = 7 := by omega
  have e6 : ¬ (7 : Int) < 0 := by omega
  simp (disch := first | assumption | exact c2_int _ | exact c2_ref _ | exact c2_jk | exact c2_null | omega | (apply rN1; assumption) | (apply rN2; assumption) | (apply rN3; assumption) | (apply rN4; assumption) | exact bI_r _ | exact bI_01 _) only [↓fX6_forgetOldest_0, ↓fX6_forgetOldest_1, ↓fX6_forgetOldest_4, ↓fX6_forgetOldest_5, ↓fX6_forgetOldest_6, ↓fX6_forgetOldest_7, ↓fX6_forgetOldest_8, ↓fX6_forgetOldest_9, ↓fX6_forgetOldest_12, ↓fX6_forgetOldest_13, ↓fX6_forgetOldest_14, ↓fX6_forgetOldest_17, ↓fX6_forgetOldest_18, ↓fX6_forgetOldest_19, ↓fX6_forgetOldest_19n, ↓fX6_forgetOldest_20, ↓fX6_forgetOldest_21, ↓fX6_forgetOldest_23, ↓fX6_forgetOldest_24, ↓fX6_forgetOldest_27, ↓fX6_forgetOldest_28, ↓fX6_forgetOldest_31, ↓fX6_forgetOldest_32, ↓fX6_forgetOldest_33, ↓fX6_forgetOldest_36, ↓fX6_forgetOldest_37, ↓fX6_forgetOldest_38, ↓fX6_forgetOldest_39, ↓fX6_forgetOldest_42, ↓fX6_forgetOldest_45, ↓fX6_forgetOldest_46, ↓fX6_forgetOldest_49, ↓fX6_forgetOldest_50, ↓fX6_forgetOldest_51, ↓fX6_forgetOldest_54, ↓fX6_forgetOldest_55, ↓fX6_forgetOldest_56, ↓fX6_forgetOldest_57, ↓fX6_forgetOldest_60, ↓fX6_forgetOldest_63, ↓fX6_forgetOldest_64, ↓fX6_forgetOldest_67, ↓fX6_forgetOldest_68, ↓fX6_forgetOldest_69, ↓fX6_forgetOldest_72, ↓fX6_forgetOldest_73, ↓fX6_forgetOldest_74, ↓fX6_forgetOldest_75, ↓fX6_forgetOldest_76, ↓fX6_forgetOldest_77, ↓fX6_forgetOldest_80, ↓fX6_forgetOldest_83, ↓fX6_forgetOldest_84, ↓fX6_forgetOldest_87, ↓fX6_forgetOldest_88, ↓fX6_forgetOldest_88n, ↓fX6_forgetOldest_89, ↓fX6_forgetOldest_90, ↓fX6_forgetOldest_91, ↓fX6_forgetOldest_92, ↓fX6_forgetOldest_95, ↓fX6_forgetOldest_96, ↓fX6_forgetOldest_97, ↓fX6_forgetOldest_100, e5, e6, and_self, true_and, and_true, false_and, and_false, not_true_eq_false, not_false_eq_true, or_self, true_or, or_true, false_or, or_false, ite_not, Decidable.not_not, decide_eq_true_eq, Bool.not_true, Bool.not_false, Bool.false_eq_true, Bool.not_eq_true, n10, n20, n21, n30, n31, n32, n40, n41, n42, n43, ↓reduceIte]
  exact this
end BS
