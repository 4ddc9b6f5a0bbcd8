/-! Functional part: a sieve begun, a round done. -/
theorem nA_c2 {G G' : Nat → Nat → Int} {S : Nat} (h : G' S = G S) (h5 : G' (S + 5) = G (S + 5)) : nA G' S = nA G S := by
  funext p
  unfold nA
  rw [h, h5]
theorem iX_c1 {G G' : Nat → Nat → Int} {S : Nat} (h : G' S = G S) : iX G' S = iX G S := by
  funext p
  unfold iX
  rw [h]
/-- filled with v up to n -/
def flG (G : Nat → Nat → Int) (b : Nat) (n : Nat) (v : Int) : Nat → Nat → Int := fun q i => if q = b ∧ i < n then v else G q i
def swP (G : Nat → Nat → Int) (S : Nat) (gap p : Int) (j : Nat) : Bool := decide ((j : Int) < G S 3) && hX G S j && decide (ctN (hX G S) j + 1 < p) && spC (G S 0) (G S 6) (ctN (hX G S) j + 1) (G S 1 + G S 2 * j) gap
def swF (G : Nat → Nat → Int) (S : Nat) (gap ev p : Int) : Nat → Nat → Int := fun q j => if q = S + 2 ∧ swP G S gap p j = true then ev else G q j
/-- only S to S + 5 differ -/
def fr6 (G G' : Nat → Nat → Int) (S : Nat) : Prop := ∀ q, q < S ∨ S + 5 < q → G' q = G q
section BS
variable {E : AE} {G L : Nat → Nat → Int} {r : Nat → Nat → Option Nat} {h : AH} {Q : AH → Value → Prop} {S T : Nat} {i v n p x kk en ev idx gap : Int}
theorem c7_begin_loop (hs : shS E r S) : ∀ (k : Nat) (j : Nat), 600 ≤ k + j → j ≤ 600 → ∀ G,
    RK MX7_begin 17 [.ref S, .int (zi (j : Int))] [] (0, 0) (E, zg (flG G (S + 2) j 2147483647), zk L, r) Q = RK MX7_begin 40 [.ref S, .int (zi 600)] [] (0, 0) (E, zg (flG G (S + 2) 600 2147483647), zk L, r) Q := by
  obtain ⟨s0, ⟨s1, s2, s3, s4, s5⟩, ⟨l1, l2, l3, l4, l5⟩, r1, r2, r3, r4, r5⟩ := id hs
  intro k
  induction k with
  | zero =>
    intro j h1 h2 G
    have e : j = 600 := by omega
    subst e
    have h6 : ¬ ((600 : Nat) : Int) < (le E (S + 2) : Int) := by omega
    simp (disch := first | assumption | exact c2_int _ | exact c2_ref _ | exact c2_jk | exact c2_null | omega | (apply rN1; assumption) | (apply rN2; assumption) | (apply rN3; assumption) | (apply rN4; assumption) | exact bI_r _ | exact bI_01 _) only [↓fX7_begin_0, ↓fX7_begin_1, ↓fX7_begin_2, ↓fX7_begin_5, ↓fX7_begin_6, ↓fX7_begin_7, ↓fX7_begin_10, ↓fX7_begin_11, ↓fX7_begin_12, ↓fX7_begin_15, ↓fX7_begin_16, ↓fX7_begin_17, ↓fX7_begin_18, ↓fX7_begin_19, ↓fX7_begin_22, ↓fX7_begin_23, ↓fX7_begin_26, ↓fX7_begin_27, ↓fX7_begin_30, ↓fX7_begin_31, ↓fX7_begin_33, ↓fX7_begin_34, ↓fX7_begin_37, ↓fX7_begin_41, ↓fX7_begin_42, ↓fX7_begin_43, ↓fX7_begin_44, ↓fX7_begin_47, ↓fX7_begin_50, ↓fX7_begin_51, ↓fX7_begin_54, ↓fX7_begin_55, ↓fX7_begin_56, ↓fX7_begin_57, ↓fX7_begin_60, ↓fX7_begin_63, ↓fX7_begin_66, ↓fX7_begin_69, ↓fX7_begin_70, ↓fX7_begin_71, ↓fX7_begin_74, ↓fX7_begin_77, h6, and_self, true_and, and_true, false_and, and_false, not_true_eq_false, not_false_eq_true, or_self, true_or, or_true, false_or, or_false, ite_not, Decidable.not_not, decide_eq_true_eq, Bool.not_true, Bool.not_false, Bool.false_eq_true, Bool.not_eq_true, n10, n20, n21, n30, n31, n32, n40, n41, n42, n43, ↓reduceIte]
    rfl
  | succ k ih =>
    intro j h1 h2 G
    by_cases h3 : (j : Int) < (le E (S + 2) : Int)
    · rw [fX7_begin_17]
      simp (disch := first | assumption | exact c2_int _ | exact c2_ref _ | exact c2_jk | exact c2_null | omega | (apply rN1; assumption) | (apply rN2; assumption) | (apply rN3; assumption) | (apply rN4; assumption) | exact bI_r _ | exact bI_01 _) only [↓fX7_begin_0, ↓fX7_begin_1, ↓fX7_begin_2, ↓fX7_begin_5, ↓fX7_begin_6, ↓fX7_begin_7, ↓fX7_begin_10, ↓fX7_begin_11, ↓fX7_begin_12, ↓fX7_begin_15, ↓fX7_begin_16, ↓fX7_begin_18, ↓fX7_begin_19, ↓fX7_begin_22, ↓fX7_begin_23, ↓fX7_begin_26, ↓fX7_begin_27, ↓fX7_begin_30, ↓fX7_begin_31, ↓fX7_begin_33, ↓fX7_begin_34, ↓fX7_begin_37, ↓fX7_begin_41, ↓fX7_begin_42, ↓fX7_begin_43, ↓fX7_begin_44, ↓fX7_begin_47, ↓fX7_begin_50, ↓fX7_begin_51, ↓fX7_begin_54, ↓fX7_begin_55, ↓fX7_begin_56, ↓fX7_begin_57, ↓fX7_begin_60, ↓fX7_begin_63, ↓fX7_begin_66, ↓fX7_begin_69, ↓fX7_begin_70, ↓fX7_begin_71, ↓fX7_begin_74, ↓fX7_begin_77, h3, and_self, true_and, and_true, false_and, and_false, not_true_eq_false, not_false_eq_true, or_self, true_or, or_true, false_or, or_false, ite_not, Decidable.not_not, decide_eq_true_eq, Bool.not_true, Bool.not_false, Bool.false_eq_true, Bool.not_eq_true, n10, n20, n21, n30, n31, n32, n40, n41, n42, n43, ↓reduceIte]
      have e : u2 (flG G (S + 2) j 2147483647) (S + 2) (j : Int).toNat 2147483647 = flG G (S + 2) (j + 1) 2147483647 := by
        funext q i
        simp only [u2, flG, Int.toNat_natCast]
        by_cases hq : q = S + 2
        · subst hq
          by_cases hi : i = j
          · subst hi
            simp
          · simp only [hi, and_false, if_false, true_and]
            by_cases hlt : i < j
            · rw [if_pos hlt, if_pos (by omega)]
            · rw [if_neg hlt, if_neg (by omega)]
        · simp [hq]
      rw [e]
      exact ih (j + 1) (by omega) (by omega) G
    · have e : j = 600 := by omega
      subst e
      simp (disch := first | assumption | exact c2_int _ | exact c2_ref _ | exact c2_jk | exact c2_null | omega | (apply rN1; assumption) | (apply rN2; assumption) | (apply rN3; assumption) | (apply rN4; assumption) | exact bI_r _ | exact bI_01 _) only [↓fX7_begin_0, ↓fX7_begin_1, ↓fX7_begin_2, ↓fX7_begin_5, ↓fX7_begin_6, ↓fX7_begin_7, ↓fX7_begin_10, ↓fX7_begin_11, ↓fX7_begin_12, ↓fX7_begin_15, ↓fX7_begin_16, ↓fX7_begin_17, ↓fX7_begin_18, ↓fX7_begin_19, ↓fX7_begin_22, ↓fX7_begin_23, ↓fX7_begin_26, ↓fX7_begin_27, ↓fX7_begin_30, ↓fX7_begin_31, ↓fX7_begin_33, ↓fX7_begin_34, ↓fX7_begin_37, ↓fX7_begin_41, ↓fX7_begin_42, ↓fX7_begin_43, ↓fX7_begin_44, ↓fX7_begin_47, ↓fX7_begin_50, ↓fX7_begin_51, ↓fX7_begin_54, ↓fX7_begin_55, ↓fX7_begin_56, ↓fX7_begin_57, ↓fX7_begin_60, ↓fX7_begin_63, ↓fX7_begin_66, ↓fX7_begin_69, ↓fX7_begin_70, ↓fX7_begin_71, ↓fX7_begin_74, ↓fX7_begin_77, h3, and_self, true_and, and_true, false_and, and_false, not_true_eq_false, not_false_eq_true, or_self, true_or, or_true, false_or, or_false, ite_not, Decidable.not_not, decide_eq_true_eq, Bool.not_true, Bool.not_false, Bool.false_eq_true, Bool.not_eq_true, n10, n20, n21, n30, n31, n32, n40, n41, n42, n43, ↓reduceIte]
      rfl
theorem c7_begin_row (hs : shS E r S) : ∀ (k : Nat) (i : Nat) (G : Nat → Nat → Int), rgS G S → G S 3 - i ≤ k → (i : Int) ≤ G S 3 →
    ∃ G' : Nat → Nat → Int, (∀ a, a ≠ S + 5 → G' a = G a) ∧ rgS G' S ∧ (∀ t : Nat, t < i → G' (S + 5) t = G (S + 5) t) ∧ (∀ j : Nat, i ≤ j → (j : Int) < G S 3 → G' (S + 5) j = G S 1 + G S 2 * j) ∧
      ∀ Q, RK MX7_begin 42 [.ref S, .int (zi (i : Int))] [] (0, 0) (E, zg G, zk L, r) Q = RK MX7_begin 69 [.ref S, .int (zi (G S 3))] [] (0, 0) (E, zg G', zk L, r) Q := by
  intro k
  induction k with
  | zero =>
    intro i G hg h1 h2
    have h6 : ¬ (i : Int) < G S 3 := by omega
    have e : (i : Int) = G S 3 := by omega
    refine ⟨G, fun _ _ => rfl, hg, fun _ _ => rfl, fun j q1 q2 => absurd q2 (by omega), fun Q => ?_⟩
    obtain ⟨s0, ⟨s1, s2, s3, s4, s5⟩, ⟨l1, l2, l3, l4, l5⟩, r1, r2, r3, r4, r5⟩ := id hs
    obtain ⟨g0, g1, g2, g3, g4, g6, g7, g8, g13, ga1, ga2, ga3, ga4, ga5⟩ := id hg
    rw [e] at h6 ⊢
    simp (disch := first | assumption | exact c2_int _ | exact c2_ref _ | exact c2_jk | exact c2_null | omega | (apply rN1; assumption) | (apply rN2; assumption) | (apply rN3; assumption) | (apply rN4; assumption) | exact bI_r _ | exact bI_01 _) only [↓fX7_begin_0, ↓fX7_begin_1, ↓fX7_begin_2, ↓fX7_begin_5, ↓fX7_begin_6, ↓fX7_begin_7, ↓fX7_begin_10, ↓fX7_begin_11, ↓fX7_begin_12, ↓fX7_begin_15, ↓fX7_begin_16, ↓fX7_begin_17, ↓fX7_begin_18, ↓fX7_begin_19, ↓fX7_begin_22, ↓fX7_begin_23, ↓fX7_begin_26, ↓fX7_begin_27, ↓fX7_begin_30, ↓fX7_begin_31, ↓fX7_begin_33, ↓fX7_begin_34, ↓fX7_begin_37, ↓fX7_begin_40, ↓fX7_begin_41, ↓fX7_begin_42, ↓fX7_begin_43, ↓fX7_begin_44, ↓fX7_begin_47, ↓fX7_begin_50, ↓fX7_begin_51, ↓fX7_begin_54, ↓fX7_begin_55, ↓fX7_begin_56, ↓fX7_begin_57, ↓fX7_begin_60, ↓fX7_begin_63, ↓fX7_begin_66, ↓fX7_begin_70, ↓fX7_begin_71, ↓fX7_begin_74, ↓fX7_begin_77, h6, and_self, true_and, and_true, false_and, and_false, not_true_eq_false, not_false_eq_true, or_self, true_or, or_true, false_or, or_false, ite_not, Decidable.not_not, decide_eq_true_eq, Bool.not_true, Bool.not_false, Bool.false_eq_true, Bool.not_eq_true, n10, n20, n21, n30, n31, n32, n40, n41, n42, n43, ↓reduceIte]
  | succ k ih =>
    intro i G hg h1 h2
    by_cases h6 : (i : Int) < G S 3
    · let G1 : Nat → Nat → Int := u2 G (S + 5) i (G S 1 + G S 2 * i)
      have e0 : ∀ a, a ≠ S + 5 → G1 a = G a := fun a ha => u2_a _ _ _ _ ha
      have e5 : ∀ t, G1 (S + 5) t = if t = i then G S 1 + G S 2 * i else G (S + 5) t := by
        intro t
        show (if S + 5 = S + 5 ∧ t = i then _ else G (S + 5) t) = _
        simp only [true_and]
      have hval : 0 ≤ G S 1 + G S 2 * (i : Int) ∧ G S 1 + G S 2 * (i : Int) ≤ 100000 := by
        obtain ⟨g0, g1, g2, g3, -⟩ := id hg
        have b1 : 0 ≤ G S 2 * (i : Int) := Int.mul_nonneg (by omega) (by omega)
        have b2 : G S 2 * (i : Int) ≤ 99 * (i : Int) := Int.mul_le_mul_of_nonneg_right (by omega) (by omega)
        omega
      have hg1 : rgS G1 S := by
        obtain ⟨g0, g1, g2, g3, g4, g6, g7, g8, g13, ga1, ga2, ga3, ga4, ga5⟩ := id hg
        unfold rgS
        rw [e0 S (by omega), e0 (S + 1) (by omega), e0 (S + 2) (by omega), e0 (S + 3) (by omega), e0 (S + 4) (by omega)]
        refine ⟨g0, g1, g2, g3, g4, g6, g7, g8, g13, ga1, ga2, ga3, ga4, fun t => ?_⟩
        rw [e5]
        split
        · exact hval
        · exact ga5 t
      obtain ⟨G', p1, p2, p3, p4, p5⟩ := ih (i + 1) G1 hg1 (by rw [e0 S (by omega)]; omega) (by rw [e0 S (by omega)]; omega)
      rw [e0 S (by omega)] at p4 p5
      refine ⟨G', fun a ha => (p1 a ha).trans (e0 a ha), p2, fun t ht => ?_, fun j q1 q2 => ?_, fun Q => ?_⟩
      · rw [p3 t (by omega), e5, if_neg (by omega)]
      · by_cases hj : j = i
        · subst hj
          rw [p3 _ (by omega), e5, if_pos rfl]
        · exact p4 j (by omega) q2
      · rw [← p5 Q]
        obtain ⟨s0, ⟨s1, s2, s3, s4, s5⟩, ⟨l1, l2, l3, l4, l5⟩, r1, r2, r3, r4, r5⟩ := id hs
        obtain ⟨g0, g1, g2, g3, g4, g6, g7, g8, g13, ga1, ga2, ga3, ga4, ga5⟩ := id hg
        rw [fX7_begin_42]
        have hput : (if 0 ≤ (i : Int) ∧ (i : Int) < (le E (S + 5) : Int) then u2 G (S + 5) (i : Int).toNat (G S 1 + G S 2 * i) else G) = G1 := if_pos (by omega)
        simp (disch := first | assumption | exact c2_int _ | exact c2_ref _ | exact c2_jk | exact c2_null | omega | (apply rN1; assumption) | (apply rN2; assumption) | (apply rN3; assumption) | (apply rN4; assumption) | exact bI_r _ | exact bI_01 _) only [↓fX7_begin_0, ↓fX7_begin_1, ↓fX7_begin_2, ↓fX7_begin_5, ↓fX7_begin_6, ↓fX7_begin_7, ↓fX7_begin_10, ↓fX7_begin_11, ↓fX7_begin_12, ↓fX7_begin_15, ↓fX7_begin_16, ↓fX7_begin_17, ↓fX7_begin_18, ↓fX7_begin_19, ↓fX7_begin_22, ↓fX7_begin_23, ↓fX7_begin_26, ↓fX7_begin_27, ↓fX7_begin_30, ↓fX7_begin_31, ↓fX7_begin_33, ↓fX7_begin_34, ↓fX7_begin_37, ↓fX7_begin_40, ↓fX7_begin_41, ↓fX7_begin_43, ↓fX7_begin_44, ↓fX7_begin_47, ↓fX7_begin_50, ↓fX7_begin_51, ↓fX7_begin_54, ↓fX7_begin_55, ↓fX7_begin_56, ↓fX7_begin_57, ↓fX7_begin_60, ↓fX7_begin_63, ↓fX7_begin_66, ↓fX7_begin_70, ↓fX7_begin_71, ↓fX7_begin_74, ↓fX7_begin_77, ↓c7_firstNumber, ↓c9_put, h6, hput, and_self, true_and, and_true, false_and, and_false, not_true_eq_false, not_false_eq_true, or_self, true_or, or_true, false_or, or_false, ite_not, Decidable.not_not, decide_eq_true_eq, Bool.not_true, Bool.not_false, Bool.false_eq_true, Bool.not_eq_true, n10, n20, n21, n30, n31, n32, n40, n41, n42, n43, ↓reduceIte]
        rfl
    · have e : (i : Int) = G S 3 := by omega
      refine ⟨G, fun _ _ => rfl, hg, fun _ _ => rfl, fun j q1 q2 => absurd q2 (by omega), fun Q => ?_⟩
      obtain ⟨s0, ⟨s1, s2, s3, s4, s5⟩, ⟨l1, l2, l3, l4, l5⟩, r1, r2, r3, r4, r5⟩ := id hs
      obtain ⟨g0, g1, g2, g3, g4, g6, g7, g8, g13, ga1, ga2, ga3, ga4, ga5⟩ := id hg
      rw [e] at h6 ⊢
      simp (disch := first | assumption | exact c2_int _ | exact c2_ref _ | exact c2_jk | exact c2_null | omega | (apply rN1; assumption) | (apply rN2; assumption) | (apply rN3; assumption) | (apply rN4; assumption) | exact bI_r _ | exact bI_01 _) only [↓fX7_begin_0, ↓fX7_begin_1, ↓fX7_begin_2, ↓fX7_begin_5, ↓fX7_begin_6, ↓fX7_begin_7, ↓fX7_begin_10, ↓fX7_begin_11, ↓fX7_begin_12, ↓fX7_begin_15, ↓fX7_begin_16, ↓fX7_begin_17, ↓fX7_begin_18, ↓fX7_begin_19, ↓fX7_begin_22, ↓fX7_begin_23, ↓fX7_begin_26, ↓fX7_begin_27, ↓fX7_begin_30, ↓fX7_begin_31, ↓fX7_begin_33, ↓fX7_begin_34, ↓fX7_begin_37, ↓fX7_begin_40, ↓fX7_begin_41, ↓fX7_begin_42, ↓fX7_begin_43, ↓fX7_begin_44, ↓fX7_begin_47, ↓fX7_begin_50, ↓fX7_begin_51, ↓fX7_begin_54, ↓fX7_begin_55, ↓fX7_begin_56, ↓fX7_begin_57, ↓fX7_begin_60, ↓fX7_begin_63, ↓fX7_begin_66, ↓fX7_begin_70, ↓fX7_begin_71, ↓fX7_begin_74, ↓fX7_begin_77, h6, and_self, true_and, and_true, false_and, and_false, not_true_eq_false, not_false_eq_true, or_self, true_or, or_true, false_or, or_false, ite_not, Decidable.not_not, decide_eq_true_eq, Bool.not_true, Bool.not_false, Bool.false_eq_true, Bool.not_eq_true, n10, n20, n21, n30, n31, n32, n40, n41, n42, n43, ↓reduceIte]
theorem ctN_tt (P : Int → Bool) : ∀ n : Nat, (∀ i : Nat, i < n → P (i : Int) = true) → ctN P n = n := by
  intro n
  induction n with
  | zero => intro _; rfl
  | succ n ih =>
    intro h
    rw [ctN, ih (fun i hi => h i (by omega)), if_pos (h n (by omega))]
    omega
theorem c7_begin (hs : shS E r S) (hg : rgS G S) (h2 : 1 ≤ G S 2 ∧ 2 ≤ G S 3) :
    ∃ G' : Nat → Nat → Int, fr6 G G' S ∧ (∀ j, j ≤ 4 → G' S j = G S j) ∧ (G' S 6 = 0 ∧ G' S 7 = 0 ∧ G' S 8 = 0) ∧ (∀ q, q = S + 1 ∨ q = S + 3 ∨ q = S + 4 → G' q = G q) ∧ (∀ j, j < 600 → G' (S + 2) j = 2147483647) ∧ rgS G' S ∧ WR G' S ∧ ∀ Q, RK MX7_begin 0 [.ref S, jk] [] (0, 0) (E, zg G, zk L, r) Q = Q (E, zg G', zk L, r) .null := by
  let G1 : Nat → Nat → Int := flG (u2 (u2 (u2 G S 6 0) S 7 0) S 8 0) (S + 2) 600 2147483647
  have e1 : ∀ q j, q ≠ S → q ≠ S + 2 → G1 q j = G q j := by
    intro q j h1 h2
    show (if q = S + 2 ∧ j < 600 then _ else if q = S ∧ j = 8 then _ else if q = S ∧ j = 7 then _ else if q = S ∧ j = 6 then _ else G q j) = _
    rw [if_neg (fun z => h2 z.1), if_neg (fun z => h1 z.1), if_neg (fun z => h1 z.1), if_neg (fun z => h1 z.1)]
  have e2 : ∀ j, G1 (S + 2) j = if j < 600 then 2147483647 else G (S + 2) j := by
    intro j
    show (if S + 2 = S + 2 ∧ j < 600 then _ else if S + 2 = S ∧ j = 8 then _ else if S + 2 = S ∧ j = 7 then _ else if S + 2 = S ∧ j = 6 then _ else G (S + 2) j) = _
    by_cases h : j < 600
    · rw [if_pos ⟨rfl, h⟩, if_pos h]
    · rw [if_neg (fun z => h z.2), if_neg h, if_neg (by omega), if_neg (by omega), if_neg (by omega)]
  have e3 : ∀ j, G1 S j = if j = 8 then 0 else if j = 7 then 0 else if j = 6 then 0 else G S j := by
    intro j
    show (if S = S + 2 ∧ j < 600 then _ else if S = S ∧ j = 8 then _ else if S = S ∧ j = 7 then _ else if S = S ∧ j = 6 then _ else G S j) = _
    rw [if_neg (by omega)]
    simp only [true_and]
  have hg1 : rgS G1 S := by
    obtain ⟨g0, g1, g2, g3, g4, g6, g7, g8, g13, ga1, ga2, ga3, ga4, ga5⟩ := id hg
    unfold rgS
    rw [e3, e3, e3, e3, e3, e3, e3, e3, e3]
    refine ⟨g0, g1, g2, g3, g4, by simp, by simp, by simp, g13, fun t => by rw [e1 _ _ (by omega) (by omega)]; exact ga1 t, fun t => ?_, fun t => by rw [e1 _ _ (by omega) (by omega)]; exact ga3 t, fun t => by rw [e1 _ _ (by omega) (by omega)]; exact ga4 t, fun t => by rw [e1 _ _ (by omega) (by omega)]; exact ga5 t⟩
    rw [e2]
    split
    · decide
    · exact ga2 t
  have h3 := hg.2.2.2.1
  have f3 : G1 S 3 = G S 3 := e3 3
  obtain ⟨G2, p1, p2, p3, p4, p5⟩ := c7_begin_row (L := L) hs 600 0 G1 hg1 (by rw [f3]; omega) (by rw [f3]; omega)
  let G' : Nat → Nat → Int := u2 G2 S 13 (G S 3)
  have d0 : ∀ q, q ≠ S → G' q = G2 q := fun q hq => u2_a _ _ _ _ hq
  have dS : ∀ j, j ≠ 13 → G' S j = G1 S j := by
    intro j hj
    show (if S = S ∧ j = 13 then _ else G2 S j) = _
    rw [if_neg (fun z => hj z.2), p1 S (by omega)]
  have d13 : G' S 13 = G S 3 := u2_s _ _ _ _
  have d2 : ∀ j, j < 600 → G' (S + 2) j = 2147483647 := by
    intro j hj
    rw [d0 _ (by omega), p1 _ (by omega), e2, if_pos hj]
  have hX' : ∀ i : Nat, i < 600 → hX G' S i = true := by
    intro i hi
    unfold hX sK
    rw [if_pos (by omega)]
    show decide (G' (S + 2) (i : Int).toNat = 2147483647) = true
    rw [d2 _ (by omega)]
    rfl
  refine ⟨G', fun q hq => ?_, fun j hj => ?_, ⟨?_, ?_, ?_⟩, fun q hq => ?_, d2, ?_, ⟨?_, ?_, fun i hi hx => ?_⟩, fun Q => ?_⟩
  · rw [d0 q (by omega), p1 q (by omega)]
    funext j
    exact e1 q j (by omega) (by omega)
  · rw [dS j (by omega), e3, if_neg (by omega), if_neg (by omega), if_neg (by omega)]
  · rw [dS 6 (by decide), e3]; rfl
  · rw [dS 7 (by decide), e3]; rfl
  · rw [dS 8 (by decide), e3]; rfl
  · rw [d0 q (by omega), p1 q (by omega)]
    funext j
    exact e1 q j (by omega) (by omega)
  · obtain ⟨g0, g1, g2, g3, g4, g6, g7, g8, g13, ga1, ga2, ga3, ga4, ga5⟩ := id p2
    have dS2 : ∀ j, j ≠ 13 → G' S j = G2 S j := fun j hj => if_neg fun z => hj z.2
    unfold rgS
    rw [dS2 0 (by decide), dS2 1 (by decide), dS2 2 (by decide), dS2 3 (by decide), dS2 4 (by decide), dS2 6 (by decide), dS2 7 (by decide), dS2 8 (by decide), d13, d0 (S + 1) (by omega), d0 (S + 2) (by omega), d0 (S + 3) (by omega), d0 (S + 4) (by omega), d0 (S + 5) (by omega)]
    exact ⟨g0, g1, g2, g3, g4, g6, g7, g8, h3, ga1, ga2, ga3, ga4, ga5⟩
  · rw [dS 2 (by decide), dS 3 (by decide), e3, e3]
    exact h2
  · rw [d13, dS 3 (by decide), f3, ctN_tt _ _ (fun i hi => hX' i (by omega))]
    omega
  · rw [dS 3 (by decide), f3] at hi
    rw [ctN_tt _ _ (fun j hj => hX' j (by omega)), d0 _ (by omega), dS 1 (by decide), dS 2 (by decide)]
    exact p4 i (by omega) (by rw [f3]; exact hi)
  · have hz : flG (u2 (u2 (u2 G S 6 0) S 7 0) S 8 0) (S + 2) 0 2147483647 = u2 (u2 (u2 G S 6 0) S 7 0) S 8 0 := by
      funext q j
      simp [flG]
    have hl := c7_begin_loop (L := L) (Q := Q) hs 600 0 (by omega) (by omega) (u2 (u2 (u2 G S 6 0) S 7 0) S 8 0)
    rw [hz] at hl
    have hl' : RK MX7_begin 17 [.ref S, .int (zi 0)] [] (0, 0) (E, zg (u2 (u2 (u2 G S 6 0) S 7 0) S 8 0), zk L, r) Q = RK MX7_begin 40 [.ref S, .int (zi 600)] [] (0, 0) (E, zg G1, zk L, r) Q := hl
    have p5' : RK MX7_begin 42 [.ref S, .int (zi 0)] [] (0, 0) (E, zg G1, zk L, r) Q = RK MX7_begin 69 [.ref S, .int (zi (G1 S 3))] [] (0, 0) (E, zg G2, zk L, r) Q := p5 Q
    have f4 : G2 S 3 = G S 3 := by rw [p1 S (by omega), f3]
    obtain ⟨s0, ⟨s1, s2, s3, s4, s5⟩, ⟨l1, l2, l3, l4, l5⟩, r1, r2, r3, r4, r5⟩ := id hs
    simp (disch := first | assumption | exact c2_int _ | exact c2_ref _ | exact c2_jk | exact c2_null | omega | (apply rN1; assumption) | (apply rN2; assumption) | (apply rN3; assumption) | (apply rN4; assumption) | exact bI_r _ | exact bI_01 _) only [↓fX7_begin_0, ↓fX7_begin_1, ↓fX7_begin_2, ↓fX7_begin_5, ↓fX7_begin_6, ↓fX7_begin_7, ↓fX7_begin_10, ↓fX7_begin_11, ↓fX7_begin_12, ↓fX7_begin_15, ↓fX7_begin_16, ↓fX7_begin_18, ↓fX7_begin_19, ↓fX7_begin_22, ↓fX7_begin_23, ↓fX7_begin_26, ↓fX7_begin_27, ↓fX7_begin_30, ↓fX7_begin_31, ↓fX7_begin_33, ↓fX7_begin_34, ↓fX7_begin_37, ↓fX7_begin_41, ↓fX7_begin_43, ↓fX7_begin_44, ↓fX7_begin_47, ↓fX7_begin_50, ↓fX7_begin_51, ↓fX7_begin_54, ↓fX7_begin_55, ↓fX7_begin_56, ↓fX7_begin_57, ↓fX7_begin_60, ↓fX7_begin_63, ↓fX7_begin_66, ↓fX7_begin_70, ↓fX7_begin_71, ↓fX7_begin_74, ↓fX7_begin_77, hl', and_self, true_and, and_true, false_and, and_false, not_true_eq_false, not_false_eq_true, or_self, true_or, or_true, false_or, or_false, ite_not, Decidable.not_not, decide_eq_true_eq, Bool.not_true, Bool.not_false, Bool.false_eq_true, Bool.not_eq_true, n10, n20, n21, n30, n31, n32, n40, n41, n42, n43, ↓reduceIte]
    simp (disch := first | assumption | exact c2_int _ | exact c2_ref _ | exact c2_jk | exact c2_null | omega | (apply rN1; assumption) | (apply rN2; assumption) | (apply rN3; assumption) | (apply rN4; assumption) | exact bI_r _ | exact bI_01 _) only [↓fX7_begin_0, ↓fX7_begin_1, ↓fX7_begin_2, ↓fX7_begin_5, ↓fX7_begin_6, ↓fX7_begin_7, ↓fX7_begin_10, ↓fX7_begin_11, ↓fX7_begin_12, ↓fX7_begin_15, ↓fX7_begin_16, ↓fX7_begin_18, ↓fX7_begin_19, ↓fX7_begin_22, ↓fX7_begin_23, ↓fX7_begin_26, ↓fX7_begin_27, ↓fX7_begin_30, ↓fX7_begin_31, ↓fX7_begin_33, ↓fX7_begin_34, ↓fX7_begin_37, ↓fX7_begin_40, ↓fX7_begin_41, ↓fX7_begin_43, ↓fX7_begin_44, ↓fX7_begin_47, ↓fX7_begin_50, ↓fX7_begin_51, ↓fX7_begin_54, ↓fX7_begin_55, ↓fX7_begin_56, ↓fX7_begin_57, ↓fX7_begin_60, ↓fX7_begin_63, ↓fX7_begin_66, ↓fX7_begin_70, ↓fX7_begin_71, ↓fX7_begin_74, ↓fX7_begin_77, p5', and_self, true_and, and_true, false_and, and_false, not_true_eq_false, not_false_eq_true, or_self, true_or, or_true, false_or, or_false, ite_not, Decidable.not_not, decide_eq_true_eq, Bool.not_true, Bool.not_false, Bool.false_eq_true, Bool.not_eq_true, n10, n20, n21, n30, n31, n32, n40, n41, n42, n43, ↓reduceIte]
    simp (disch := first | assumption | exact c2_int _ | exact c2_ref _ | exact c2_jk | exact c2_null | omega | (apply rN1; assumption) | (apply rN2; assumption) | (apply rN3; assumption) | (apply rN4; assumption) | exact bI_r _ | exact bI_01 _) only [↓fX7_begin_0, ↓fX7_begin_1, ↓fX7_begin_2, ↓fX7_begin_5, ↓fX7_begin_6, ↓fX7_begin_7, ↓fX7_begin_10, ↓fX7_begin_11, ↓fX7_begin_12, ↓fX7_begin_15, ↓fX7_begin_16, ↓fX7_begin_18, ↓fX7_begin_19, ↓fX7_begin_22, ↓fX7_begin_23, ↓fX7_begin_26, ↓fX7_begin_27, ↓fX7_begin_30, ↓fX7_begin_31, ↓fX7_begin_33, ↓fX7_begin_34, ↓fX7_begin_37, ↓fX7_begin_40, ↓fX7_begin_41, ↓fX7_begin_43, ↓fX7_begin_44, ↓fX7_begin_47, ↓fX7_begin_50, ↓fX7_begin_51, ↓fX7_begin_54, ↓fX7_begin_55, ↓fX7_begin_56, ↓fX7_begin_57, ↓fX7_begin_60, ↓fX7_begin_63, ↓fX7_begin_66, ↓fX7_begin_69, ↓fX7_begin_70, ↓fX7_begin_71, ↓fX7_begin_74, ↓fX7_begin_77, f4, and_self, true_and, and_true, false_and, and_false, not_true_eq_false, not_false_eq_true, or_self, true_or, or_true, false_or, or_false, ite_not, Decidable.not_not, decide_eq_true_eq, Bool.not_true, Bool.not_false, Bool.false_eq_true, Bool.not_eq_true, n10, n20, n21, n30, n31, n32, n40, n41, n42, n43, ↓reduceIte]
    rfl
theorem c7_set {ki fr by_ ma : Int} (hs : shS E r S) (hg : rgS G S) (hki : 0 ≤ ki ∧ ki ≤ 5) (hfr : 0 ≤ fr ∧ fr ≤ 999) (hby : 1 ≤ by_ ∧ by_ ≤ 99) (hma : 2 ≤ ma ∧ ma ≤ 600) :
    ∃ G' : Nat → Nat → Int, fr6 G G' S ∧ (G' S 0 = ki ∧ G' S 1 = fr ∧ G' S 2 = by_ ∧ G' S 3 = ma ∧ G' S 4 = 0) ∧ (G' S 6 = 0 ∧ G' S 7 = 0 ∧ G' S 8 = 0) ∧ (∀ q, q = S + 1 ∨ q = S + 3 ∨ q = S + 4 → G' q = G q) ∧ (∀ j, j < 600 → G' (S + 2) j = 2147483647) ∧ rgS G' S ∧ WR G' S ∧ ∀ Q, RK MX7_set 0 [.ref S, .int (zi ki), .int (zi fr), .int (zi by_), .int (zi ma)] [] (0, 0) (E, zg G, zk L, r) Q = Q (E, zg G', zk L, r) .null := by
  let G1 : Nat → Nat → Int := u2 (u2 (u2 (u2 (u2 G S 0 ki) S 1 fr) S 2 by_) S 3 ma) S 4 0
  have e1 : ∀ q j, q ≠ S → G1 q j = G q j := by
    intro q j h1
    show (if q = S ∧ j = 4 then _ else if q = S ∧ j = 3 then _ else if q = S ∧ j = 2 then _ else if q = S ∧ j = 1 then _ else if q = S ∧ j = 0 then _ else G q j) = _
    rw [if_neg (fun z => h1 z.1), if_neg (fun z => h1 z.1), if_neg (fun z => h1 z.1), if_neg (fun z => h1 z.1), if_neg (fun z => h1 z.1)]
  have e3 : ∀ j, G1 S j = if j = 4 then 0 else if j = 3 then ma else if j = 2 then by_ else if j = 1 then fr else if j = 0 then ki else G S j := by
    intro j
    show (if S = S ∧ j = 4 then _ else if S = S ∧ j = 3 then _ else if S = S ∧ j = 2 then _ else if S = S ∧ j = 1 then _ else if S = S ∧ j = 0 then _ else G S j) = _
    simp only [true_and]
  have hg1 : rgS G1 S := by
    obtain ⟨g0, g1, g2, g3, g4, g6, g7, g8, g13, ga1, ga2, ga3, ga4, ga5⟩ := id hg
    unfold rgS
    rw [e3, e3, e3, e3, e3, e3, e3, e3, e3]
    exact ⟨hki, hfr, ⟨by show 0 ≤ by_; omega, hby.2⟩, ⟨by show 0 ≤ ma; omega, hma.2⟩, by simp, g6, g7, g8, g13, fun t => by rw [e1 _ _ (by omega)]; exact ga1 t, fun t => by rw [e1 _ _ (by omega)]; exact ga2 t, fun t => by rw [e1 _ _ (by omega)]; exact ga3 t, fun t => by rw [e1 _ _ (by omega)]; exact ga4 t, fun t => by rw [e1 _ _ (by omega)]; exact ga5 t⟩
  obtain ⟨G', p1, p2, p3, p4, p5, p6, p7, p8⟩ := c7_begin (L := L) hs hg1 (by rw [e3, e3]; exact ⟨hby.1, hma.1⟩)
  refine ⟨G', fun q hq => ?_, ⟨?_, ?_, ?_, ?_, ?_⟩, p3, fun q hq => ?_, p5, p6, p7, fun Q => ?_⟩
  · rw [p1 q hq]
    funext j
    exact e1 q j (by omega)
  · rw [p2 0 (by omega), e3]; rfl
  · rw [p2 1 (by omega), e3]; rfl
  · rw [p2 2 (by omega), e3]; rfl
  · rw [p2 3 (by omega), e3]; rfl
  · rw [p2 4 (by omega), e3]; rfl
  · rw [p4 q hq]
    funext j
    exact e1 q j (by omega)
  · obtain ⟨s0, ⟨s1, s2, s3, s4, s5⟩, ⟨l1, l2, l3, l4, l5⟩, r1, r2, r3, r4, r5⟩ := id hs
    simp (disch := first | assumption | exact c2_int _ | exact c2_ref _ | exact c2_jk | exact c2_null | omega | (apply rN1; assumption) | (apply rN2; assumption) | (apply rN3; assumption) | (apply rN4; assumption) | exact bI_r _ | exact bI_01 _) only [↓fX7_set_0, ↓fX7_set_1, ↓fX7_set_2, ↓fX7_set_5, ↓fX7_set_6, ↓fX7_set_7, ↓fX7_set_10, ↓fX7_set_11, ↓fX7_set_12, ↓fX7_set_15, ↓fX7_set_16, ↓fX7_set_18, ↓fX7_set_21, ↓fX7_set_22, ↓fX7_set_23, ↓fX7_set_26, ↓fX7_set_27, ↓fX7_set_30, and_self, true_and, and_true, false_and, and_false, not_true_eq_false, not_false_eq_true, or_self, true_or, or_true, false_or, or_false, ite_not, Decidable.not_not, decide_eq_true_eq, Bool.not_true, Bool.not_false, Bool.false_eq_true, Bool.not_eq_true, n10, n20, n21, n30, n31, n32, n40, n41, n42, n43, ↓reduceIte]
    exact p8 _
theorem swF_S2 (q : Nat) (hq : q ≠ S + 2) : swF G S gap ev p q = G q := by
  funext j
  exact if_neg fun z => hq z.1
/-- which places a round keeps, from 0 -/
def swK (G : Nat → Nat → Int) (S : Nat) (gap : Int) : Int → Bool := fun t => !(spC (G S 0) (G S 6) (t + 1) (nA G S (t + 1)) gap)
/-- what a row holds that is closed up, counted over what is kept of it -/
theorem ctN_comp (A K Z : Int → Bool) : ∀ n : Nat, (∀ i : Nat, i < n → Z (i : Int) = (A (i : Int) && K (ctN A i))) → ctN Z n = ctN K (ctN A n).toNat := by
  intro n
  induction n with
  | zero => intro _; rfl
  | succ n ih =>
    intro h
    have hb := ctN_b A n
    rw [ctN, ih (fun i hi => h i (by omega)), h n (by omega)]
    by_cases q : A (n : Int) = true
    · have e1 : (ctN A (n + 1)).toNat = (ctN A n).toNat + 1 := by
        rw [ctN, if_pos q]
        omega
      have e2 : (((ctN A n).toNat : Nat) : Int) = ctN A n := Int.toNat_of_nonneg hb.1
      rw [e1, ctN, e2, q, Bool.true_and]
    · have q2 : A (n : Int) = false := by simpa using q
      have e1 : (ctN A (n + 1)).toNat = (ctN A n).toNat := by
        rw [ctN, if_neg q]
        omega
      rw [e1, q2]
      simp
theorem swF_hit (hw : WR G S) (h2 : 1 ≤ p ∧ p ≤ G S 13) {i : Nat} (i2 : hX G S i = true) (i1 : (i : Int) < G S 3) (i3 : ctN (hX G S) i = p - 1) (i4 : nA G S p = G S 1 + G S 2 * i) (h9 : spC (G S 0) (G S 6) p (nA G S p) gap = true) (j : Nat) : (if j = i then ev else swF G S gap ev p (S + 2) j) = swF G S gap ev (p + 1) (S + 2) j := by
  show (if j = i then ev else if S + 2 = S + 2 ∧ swP G S gap p j = true then ev else G (S + 2) j) = if S + 2 = S + 2 ∧ swP G S gap (p + 1) j = true then ev else G (S + 2) j
  simp only [true_and]
  by_cases hj : j = i
  · subst hj
    have : swP G S gap (p + 1) j = true := by
      unfold swP
      rw [i2, i3, show p - 1 + 1 = p by omega, ← i4, h9]
      simp [i1]
      omega
    rw [if_pos rfl, if_pos this]
  · rw [if_neg hj]
    have : swP G S gap (p + 1) j = swP G S gap p j := by
      unfold swP
      by_cases hx : hX G S j = true
      · have hne : ctN (hX G S) j + 1 ≠ p := fun z => hj (ctN_inj (hX G S) hx i2 (by omega))
        have e1 : decide (ctN (hX G S) j + 1 < p + 1) = decide (ctN (hX G S) j + 1 < p) := by
          rw [decide_eq_decide]
          omega
        rw [e1]
      · have : hX G S j = false := by simpa using hx
        rw [this]
        simp
    rw [this]
theorem swF_miss (h2 : 1 ≤ p ∧ p ≤ G S 13) {i : Nat} (i2 : hX G S i = true) (i3 : ctN (hX G S) i = p - 1) (i4 : nA G S p = G S 1 + G S 2 * i) (h9 : ¬ spC (G S 0) (G S 6) p (nA G S p) gap = true) : swF G S gap ev p = swF G S gap ev (p + 1) := by
  funext q j
  show (if q = S + 2 ∧ swP G S gap p j = true then ev else G q j) = if q = S + 2 ∧ swP G S gap (p + 1) j = true then ev else G q j
  have : swP G S gap (p + 1) j = swP G S gap p j := by
    unfold swP
    by_cases hx : hX G S j = true
    · by_cases hp : ctN (hX G S) j + 1 = p
      · have hj : j = i := ctN_inj (hX G S) hx i2 (by omega)
        subst hj
        rw [hp, ← i4]
        have : spC (G S 0) (G S 6) p (nA G S p) gap = false := by simpa using h9
        rw [this]
        simp
      · have e1 : decide (ctN (hX G S) j + 1 < p + 1) = decide (ctN (hX G S) j + 1 < p) := by
          rw [decide_eq_decide]
          omega
        rw [e1]
    · have : hX G S j = false := by simpa using hx
      rw [this]
      simp
  rw [this]
/-- the heap of a sweep ahead of place p -/
def SWI (G H : Nat → Nat → Int) (S : Nat) (gap ev p : Int) : Prop := (∀ q, q ≠ S + 5 → H q = swF G S gap ev p q) ∧ (∀ t : Nat, p - 1 ≤ t → H (S + 5) t = G (S + 5) t) ∧ (∀ t : Nat, (t : Int) < p - 1 → swK G S gap t = true → H (S + 5) (ctN (swK G S gap) t).toNat = nA G S (t + 1)) ∧ ∀ t, 0 ≤ H (S + 5) t ∧ H (S + 5) t ≤ 100000
theorem c7_sweep_loop (hs : shS E r S) (hg : rgS G S) (hw : WR G S) (hev : G S 7 = ev) (hgap : 1 ≤ gap ∧ gap ≤ 1000000) : ∀ (k : Nat) (l4 : Value) (p : Int) (H : Nat → Nat → Int), G S 13 + 1 - p ≤ k → 1 ≤ p → p + k ≤ 10000 → p ≤ G S 13 + 1 → SWI G H S gap ev p →
    ∃ (l4' : Value) (H' : Nat → Nat → Int), SWI G H' S gap ev (G S 13 + 1) ∧ ∀ Q, RK MX7_sweep 14 [.ref S, .int (zi gap), .int (zi (ctN (swK G S gap) (p - 1).toNat)), .int (zi p), l4] [] (0, 0) (E, zg H, zk L, r) Q = RK MX7_sweep 80 [.ref S, .int (zi gap), .int (zi (ctN (swK G S gap) (G S 13).toNat)), .int (zi (G S 13 + 1)), l4'] [] (0, 0) (E, zg H', zk L, r) Q := by
  have hgF : ∀ p (H : Nat → Nat → Int), SWI G H S gap ev p → rgS H S := by
    intro p H hI
    obtain ⟨g0, g1, g2, g3, g4, g6, g7, g8, g13, ga1, ga2, ga3, ga4, ga5⟩ := id hg
    unfold rgS
    rw [hI.1 S (by omega), hI.1 (S + 1) (by omega), hI.1 (S + 2) (by omega), hI.1 (S + 3) (by omega), hI.1 (S + 4) (by omega), swF_S2 S (by omega), swF_S2 (S + 1) (by omega), swF_S2 (S + 3) (by omega), swF_S2 (S + 4) (by omega)]
    refine ⟨g0, g1, g2, g3, g4, g6, g7, g8, g13, ga1, fun t => ?_, ga3, ga4, hI.2.2.2⟩
    show 0 ≤ (if S + 2 = S + 2 ∧ swP G S gap p t = true then ev else G (S + 2) t) ∧ (if S + 2 = S + 2 ∧ swP G S gap p t = true then ev else G (S + 2) t) ≤ 2147483647
    split
    · omega
    · exact ga2 t
  intro k
  induction k with
  | zero =>
    intro l4 p H h1 h2 h3 h4 hI
    have e : p = G S 13 + 1 := by omega
    subst e
    refine ⟨l4, H, hI, fun Q => ?_⟩
    obtain ⟨s0, ⟨s1, s2, s3, s4, s5⟩, ⟨l1, l2, l3, l4, l5⟩, r1, r2, r3, r4, r5⟩ := id hs
    obtain ⟨g0, g1, g2, g3, g4, g6, g7, g8, g13, ga1, ga2, ga3, ga4, ga5⟩ := id hg
    have h6 : ¬ G S 13 + 1 ≤ G S 13 := by omega
    have eS : H S = G S := (hI.1 S (by omega)).trans (swF_S2 S (by omega))
    rw [Int.add_sub_cancel]
    simp (disch := first | assumption | exact c2_int _ | exact c2_ref _ | exact c2_jk | exact c2_null | omega | (apply rN1; assumption) | (apply rN2; assumption) | (apply rN3; assumption) | (apply rN4; assumption) | exact bI_r _ | exact bI_01 _) only [↓fX7_sweep_0, ↓fX7_sweep_1, ↓fX7_sweep_2, ↓fX7_sweep_5, ↓fX7_sweep_6, ↓fX7_sweep_7, ↓fX7_sweep_10, ↓fX7_sweep_11, ↓fX7_sweep_12, ↓fX7_sweep_13, ↓fX7_sweep_14, ↓fX7_sweep_15, ↓fX7_sweep_16, ↓fX7_sweep_19, ↓fX7_sweep_22, ↓fX7_sweep_23, ↓fX7_sweep_24, ↓fX7_sweep_27, ↓fX7_sweep_29, ↓fX7_sweep_30, ↓fX7_sweep_31, ↓fX7_sweep_33, ↓fX7_sweep_34, ↓fX7_sweep_37, ↓fX7_sweep_40, ↓fX7_sweep_41, ↓fX7_sweep_44, ↓fX7_sweep_45, ↓fX7_sweep_47, ↓fX7_sweep_48, ↓fX7_sweep_51, ↓fX7_sweep_52, ↓fX7_sweep_55, ↓fX7_sweep_58, ↓fX7_sweep_61, ↓fX7_sweep_62, ↓fX7_sweep_65, ↓fX7_sweep_66, ↓fX7_sweep_68, ↓fX7_sweep_71, ↓fX7_sweep_74, ↓fX7_sweep_77, ↓fX7_sweep_81, ↓fX7_sweep_82, ↓fX7_sweep_85, ↓fX7_sweep_86, ↓fX7_sweep_87, ↓fX7_sweep_90, ↓fX7_sweep_91, ↓fX7_sweep_94, ↓fX7_sweep_95, ↓fX7_sweep_98, ↓fX7_sweep_99, ↓fX7_sweep_102, ↓fX7_sweep_103, ↓fX7_sweep_106, ↓fX7_sweep_107, ↓fX7_sweep_110, ↓fX7_sweep_111, ↓fX7_sweep_114, ↓fX7_sweep_117, ↓fX7_sweep_118, ↓fX7_sweep_121, ↓fX7_sweep_122, ↓fX7_sweep_123, ↓fX7_sweep_124, ↓fX7_sweep_125, ↓fX7_sweep_126, ↓fX7_sweep_129, ↓fX7_sweep_130, eS, h6, and_self, true_and, and_true, false_and, and_false, not_true_eq_false, not_false_eq_true, or_self, true_or, or_true, false_or, or_false, ite_not, Decidable.not_not, decide_eq_true_eq, Bool.not_true, Bool.not_false, Bool.false_eq_true, Bool.not_eq_true, n10, n20, n21, n30, n31, n32, n40, n41, n42, n43, ↓reduceIte]
  | succ k ih =>
    intro l4 p H h1 h2 h3 h4 hI
    have hG := hgF p H hI
    have eS : H S = G S := (hI.1 S (by omega)).trans (swF_S2 S (by omega))
    have hb := ctN_b (swK G S gap) (p - 1).toNat
    by_cases h6 : p ≤ G S 13
    · obtain ⟨i, i1, i2, i3, i4⟩ := nA_ix hw ⟨h2, h6⟩
      have hn := nA_0 hg ⟨h2, h6⟩
      have eA : nA H S p = nA G S p := by
        unfold nA
        rw [eS, if_pos ⟨h2, h6⟩, if_pos ⟨h2, h6⟩]
        exact hI.2.1 _ (by omega)
      have eI : iX H S = iX G S := iX_c1 eS
      have eX : iX G S (nA G S p) = i := by rw [i4]; exact iX_of hg hw i1
      have ek : (p + 1 - 1).toNat = (p - 1).toNat + 1 := by omega
      have ez : (((p - 1).toNat : Nat) : Int) + 1 = p := by omega
      have ez' : (((p - 1).toNat : Nat) : Int) = p - 1 := by omega
      by_cases h9 : spC (G S 0) (G S 6) p (nA G S p) gap = true
      · have hK : swK G S gap (((p - 1).toNat : Nat) : Int) = false := by
          unfold swK
          rw [ez, h9]
          rfl
        have ec : ctN (swK G S gap) (p + 1 - 1).toNat = ctN (swK G S gap) (p - 1).toNat := by
          rw [ek, ctN, hK, if_neg (by decide), Int.add_zero]
        have hI1 : SWI G (u2 H (S + 2) i ev) S gap ev (p + 1) := by
          refine ⟨fun q hq => ?_, fun t ht => ?_, fun t ht hk => ?_, fun t => ?_⟩
          · by_cases z : q = S + 2
            · subst z
              funext j
              rw [← swF_hit hw ⟨h2, h6⟩ i2 i1 i3 i4 h9 j]
              show (if S + 2 = S + 2 ∧ j = i then ev else H (S + 2) j) = _
              rw [hI.1 (S + 2) (by omega)]
              simp only [true_and]
            · rw [u2_a _ _ _ _ z, hI.1 q hq, swF_S2 q z, swF_S2 q z]
          · rw [u2_a _ _ _ _ (by omega)]
            exact hI.2.1 t (by omega)
          · rw [u2_a _ _ _ _ (by omega)]
            by_cases z : t = (p - 1).toNat
            · rw [z, hK] at hk
              exact absurd hk (by decide)
            · exact hI.2.2.1 t (by omega) hk
          · rw [u2_a _ _ _ _ (by omega)]
            exact hI.2.2.2 t
        obtain ⟨l4', H', f1, f2⟩ := ih (.int (zi (nA G S p))) (p + 1) _ (by omega) (by omega) (by omega) (by omega) hI1
        refine ⟨l4', H', f1, fun Q => ?_⟩
        rw [ec] at f2
        rw [← f2 Q, fX7_sweep_14]
        obtain ⟨s0, ⟨s1, s2, s3, s4, s5⟩, ⟨l1, l2, l3, l4, l5⟩, r1, r2, r3, r4, r5⟩ := id hs
        obtain ⟨g0, g1, g2, g3, g4, g6, g7, g8, g13, ga1, ga2, ga3, ga4, ga5⟩ := id hg
        have eF : (if 0 ≤ (i : Int) ∧ (i : Int) < (le E (S + 2) : Int) then u2 H (S + 2) (i : Int).toNat ev else H) = u2 H (S + 2) i ev := by
          rw [if_pos (by omega), Int.toNat_natCast]
        simp (disch := first | assumption | exact c2_int _ | exact c2_ref _ | exact c2_jk | exact c2_null | omega | (apply rN1; assumption) | (apply rN2; assumption) | (apply rN3; assumption) | (apply rN4; assumption) | exact bI_r _ | exact bI_01 _) only [↓fX7_sweep_0, ↓fX7_sweep_1, ↓fX7_sweep_2, ↓fX7_sweep_5, ↓fX7_sweep_6, ↓fX7_sweep_7, ↓fX7_sweep_10, ↓fX7_sweep_11, ↓fX7_sweep_12, ↓fX7_sweep_13, ↓fX7_sweep_15, ↓fX7_sweep_16, ↓fX7_sweep_19, ↓fX7_sweep_22, ↓fX7_sweep_23, ↓fX7_sweep_24, ↓fX7_sweep_27, ↓fX7_sweep_29, ↓fX7_sweep_30, ↓fX7_sweep_31, ↓fX7_sweep_33, ↓fX7_sweep_34, ↓fX7_sweep_37, ↓fX7_sweep_40, ↓fX7_sweep_41, ↓fX7_sweep_44, ↓fX7_sweep_45, ↓fX7_sweep_47, ↓fX7_sweep_48, ↓fX7_sweep_51, ↓fX7_sweep_52, ↓fX7_sweep_55, ↓fX7_sweep_58, ↓fX7_sweep_61, ↓fX7_sweep_62, ↓fX7_sweep_65, ↓fX7_sweep_66, ↓fX7_sweep_68, ↓fX7_sweep_71, ↓fX7_sweep_74, ↓fX7_sweep_77, ↓fX7_sweep_81, ↓fX7_sweep_82, ↓fX7_sweep_85, ↓fX7_sweep_86, ↓fX7_sweep_87, ↓fX7_sweep_90, ↓fX7_sweep_91, ↓fX7_sweep_94, ↓fX7_sweep_95, ↓fX7_sweep_98, ↓fX7_sweep_99, ↓fX7_sweep_102, ↓fX7_sweep_103, ↓fX7_sweep_106, ↓fX7_sweep_107, ↓fX7_sweep_110, ↓fX7_sweep_111, ↓fX7_sweep_114, ↓fX7_sweep_117, ↓fX7_sweep_118, ↓fX7_sweep_121, ↓fX7_sweep_122, ↓fX7_sweep_123, ↓fX7_sweep_124, ↓fX7_sweep_125, ↓fX7_sweep_126, ↓fX7_sweep_129, ↓fX7_sweep_130, ↓c7_numberAt, ↓c7_strikesPlace, ↓c7_indexOf, ↓c9_put, eS, eA, eI, eX, hev, bI_0, h6, h9, eF, and_self, true_and, and_true, false_and, and_false, not_true_eq_false, not_false_eq_true, or_self, true_or, or_true, false_or, or_false, ite_not, Decidable.not_not, decide_eq_true_eq, Bool.not_true, Bool.not_false, Bool.false_eq_true, Bool.not_eq_true, n10, n20, n21, n30, n31, n32, n40, n41, n42, n43, ↓reduceIte]
      · have hK : swK G S gap (((p - 1).toNat : Nat) : Int) = true := by
          unfold swK
          rw [ez]
          have : spC (G S 0) (G S 6) p (nA G S p) gap = false := by simpa using h9
          rw [this]
          rfl
        have ec : ctN (swK G S gap) (p + 1 - 1).toNat = ctN (swK G S gap) (p - 1).toNat + 1 := by
          rw [ek, ctN, hK, if_pos rfl]
        have hI1 : SWI G (u2 H (S + 5) (ctN (swK G S gap) (p - 1).toNat).toNat (nA G S p)) S gap ev (p + 1) := by
          have e5 : ∀ t, u2 H (S + 5) (ctN (swK G S gap) (p - 1).toNat).toNat (nA G S p) (S + 5) t = if t = (ctN (swK G S gap) (p - 1).toNat).toNat then nA G S p else H (S + 5) t := by
            intro t
            show (if S + 5 = S + 5 ∧ t = (ctN (swK G S gap) (p - 1).toNat).toNat then nA G S p else H (S + 5) t) = _
            simp only [true_and]
          refine ⟨fun q hq => ?_, fun t ht => ?_, fun t ht hk => ?_, fun t => ?_⟩
          · rw [u2_a _ _ _ _ hq, hI.1 q hq, swF_miss ⟨h2, h6⟩ i2 i3 i4 h9]
          · rw [e5, if_neg (by omega)]
            exact hI.2.1 t (by omega)
          · by_cases z : t = (p - 1).toNat
            · rw [e5, z, if_pos rfl, ez]
            · have hlt := ctN_lt (swK G S gap) (m := t) (n := (p - 1).toNat) (by omega) hk
              have hb2 := ctN_b (swK G S gap) t
              rw [e5, if_neg (by omega)]
              exact hI.2.2.1 t (by omega) hk
          · rw [e5]
            split
            · exact hn
            · exact hI.2.2.2 t
        obtain ⟨l4', H', f1, f2⟩ := ih (.int (zi (nA G S p))) (p + 1) _ (by omega) (by omega) (by omega) (by omega) hI1
        refine ⟨l4', H', f1, fun Q => ?_⟩
        rw [ec] at f2
        rw [← f2 Q, fX7_sweep_14]
        obtain ⟨s0, ⟨s1, s2, s3, s4, s5⟩, ⟨l1, l2, l3, l4, l5⟩, r1, r2, r3, r4, r5⟩ := id hs
        obtain ⟨g0, g1, g2, g3, g4, g6, g7, g8, g13, ga1, ga2, ga3, ga4, ga5⟩ := id hg
        have eF : (if 0 ≤ ctN (swK G S gap) (p - 1).toNat ∧ ctN (swK G S gap) (p - 1).toNat < (le E (S + 5) : Int) then u2 H (S + 5) (ctN (swK G S gap) (p - 1).toNat).toNat (nA G S p) else H) = u2 H (S + 5) (ctN (swK G S gap) (p - 1).toNat).toNat (nA G S p) := if_pos (by omega)
        simp (disch := first | assumption | exact c2_int _ | exact c2_ref _ | exact c2_jk | exact c2_null | omega | (apply rN1; assumption) | (apply rN2; assumption) | (apply rN3; assumption) | (apply rN4; assumption) | exact bI_r _ | exact bI_01 _) only [↓fX7_sweep_0, ↓fX7_sweep_1, ↓fX7_sweep_2, ↓fX7_sweep_5, ↓fX7_sweep_6, ↓fX7_sweep_7, ↓fX7_sweep_10, ↓fX7_sweep_11, ↓fX7_sweep_12, ↓fX7_sweep_13, ↓fX7_sweep_15, ↓fX7_sweep_16, ↓fX7_sweep_19, ↓fX7_sweep_22, ↓fX7_sweep_23, ↓fX7_sweep_24, ↓fX7_sweep_27, ↓fX7_sweep_29, ↓fX7_sweep_30, ↓fX7_sweep_31, ↓fX7_sweep_33, ↓fX7_sweep_34, ↓fX7_sweep_37, ↓fX7_sweep_40, ↓fX7_sweep_41, ↓fX7_sweep_44, ↓fX7_sweep_45, ↓fX7_sweep_47, ↓fX7_sweep_48, ↓fX7_sweep_51, ↓fX7_sweep_52, ↓fX7_sweep_55, ↓fX7_sweep_58, ↓fX7_sweep_61, ↓fX7_sweep_62, ↓fX7_sweep_65, ↓fX7_sweep_66, ↓fX7_sweep_68, ↓fX7_sweep_71, ↓fX7_sweep_74, ↓fX7_sweep_77, ↓fX7_sweep_81, ↓fX7_sweep_82, ↓fX7_sweep_85, ↓fX7_sweep_86, ↓fX7_sweep_87, ↓fX7_sweep_90, ↓fX7_sweep_91, ↓fX7_sweep_94, ↓fX7_sweep_95, ↓fX7_sweep_98, ↓fX7_sweep_99, ↓fX7_sweep_102, ↓fX7_sweep_103, ↓fX7_sweep_106, ↓fX7_sweep_107, ↓fX7_sweep_110, ↓fX7_sweep_111, ↓fX7_sweep_114, ↓fX7_sweep_117, ↓fX7_sweep_118, ↓fX7_sweep_121, ↓fX7_sweep_122, ↓fX7_sweep_123, ↓fX7_sweep_124, ↓fX7_sweep_125, ↓fX7_sweep_126, ↓fX7_sweep_129, ↓fX7_sweep_130, ↓c7_numberAt, ↓c7_strikesPlace, ↓c9_put, eS, eA, bI_0, h6, h9, eF, and_self, true_and, and_true, false_and, and_false, not_true_eq_false, not_false_eq_true, or_self, true_or, or_true, false_or, or_false, ite_not, Decidable.not_not, decide_eq_true_eq, Bool.not_true, Bool.not_false, Bool.false_eq_true, Bool.not_eq_true, n10, n20, n21, n30, n31, n32, n40, n41, n42, n43, ↓reduceIte]
    · have e : p = G S 13 + 1 := by omega
      subst e
      refine ⟨l4, H, hI, fun Q => ?_⟩
      obtain ⟨s0, ⟨s1, s2, s3, s4, s5⟩, ⟨l1, l2, l3, l4, l5⟩, r1, r2, r3, r4, r5⟩ := id hs
      obtain ⟨g0, g1, g2, g3, g4, g6, g7, g8, g13, ga1, ga2, ga3, ga4, ga5⟩ := id hg
      rw [Int.add_sub_cancel]
      simp (disch := first | assumption | exact c2_int _ | exact c2_ref _ | exact c2_jk | exact c2_null | omega | (apply rN1; assumption) | (apply rN2; assumption) | (apply rN3; assumption) | (apply rN4; assumption) | exact bI_r _ | exact bI_01 _) only [↓fX7_sweep_0, ↓fX7_sweep_1, ↓fX7_sweep_2, ↓fX7_sweep_5, ↓fX7_sweep_6, ↓fX7_sweep_7, ↓fX7_sweep_10, ↓fX7_sweep_11, ↓fX7_sweep_12, ↓fX7_sweep_13, ↓fX7_sweep_14, ↓fX7_sweep_15, ↓fX7_sweep_16, ↓fX7_sweep_19, ↓fX7_sweep_22, ↓fX7_sweep_23, ↓fX7_sweep_24, ↓fX7_sweep_27, ↓fX7_sweep_29, ↓fX7_sweep_30, ↓fX7_sweep_31, ↓fX7_sweep_33, ↓fX7_sweep_34, ↓fX7_sweep_37, ↓fX7_sweep_40, ↓fX7_sweep_41, ↓fX7_sweep_44, ↓fX7_sweep_45, ↓fX7_sweep_47, ↓fX7_sweep_48, ↓fX7_sweep_51, ↓fX7_sweep_52, ↓fX7_sweep_55, ↓fX7_sweep_58, ↓fX7_sweep_61, ↓fX7_sweep_62, ↓fX7_sweep_65, ↓fX7_sweep_66, ↓fX7_sweep_68, ↓fX7_sweep_71, ↓fX7_sweep_74, ↓fX7_sweep_77, ↓fX7_sweep_81, ↓fX7_sweep_82, ↓fX7_sweep_85, ↓fX7_sweep_86, ↓fX7_sweep_87, ↓fX7_sweep_90, ↓fX7_sweep_91, ↓fX7_sweep_94, ↓fX7_sweep_95, ↓fX7_sweep_98, ↓fX7_sweep_99, ↓fX7_sweep_102, ↓fX7_sweep_103, ↓fX7_sweep_106, ↓fX7_sweep_107, ↓fX7_sweep_110, ↓fX7_sweep_111, ↓fX7_sweep_114, ↓fX7_sweep_117, ↓fX7_sweep_118, ↓fX7_sweep_121, ↓fX7_sweep_122, ↓fX7_sweep_123, ↓fX7_sweep_124, ↓fX7_sweep_125, ↓fX7_sweep_126, ↓fX7_sweep_129, ↓fX7_sweep_130, eS, h6, and_self, true_and, and_true, false_and, and_false, not_true_eq_false, not_false_eq_true, or_self, true_or, or_true, false_or, or_false, ite_not, Decidable.not_not, decide_eq_true_eq, Bool.not_true, Bool.not_false, Bool.false_eq_true, Bool.not_eq_true, n10, n20, n21, n30, n31, n32, n40, n41, n42, n43, ↓reduceIte]
/-- the fields of a sieve that a round changes, as they are behind it -/
def swQ (G G' : Nat → Nat → Int) (S : Nat) (gap : Int) : Prop := fr6 G G' S ∧ (∀ j, j ≤ 4 → G' S j = G S j) ∧ (G' S 6 = G S 6 + 1 ∧ G' S 7 = G S 7 + 1 ∧ G' S 8 = G S 8) ∧ G' (S + 1) = G (S + 1) ∧ (∀ j : Nat, G' (S + 2) j = if (j : Int) < G S 3 ∧ hX G S j = true ∧ spC (G S 0) (G S 6) (ctN (hX G S) j + 1) (G S 1 + G S 2 * j) gap = true then G S 7 + 1 else G (S + 2) j) ∧
  (∀ j : Nat, G' (S + 3) j = if (j : Int) = G S 6 + 1 then gap else G (S + 3) j) ∧ (∀ j : Nat, G' (S + 4) j = if (j : Int) = G S 6 + 1 then G S 7 + 1 else G (S + 4) j) ∧ rgS G' S ∧ WR G' S
theorem c7_sweep (hs : shS E r S) (hg : rgS G S) (hw : WR G S) (hgap : 1 ≤ gap ∧ gap ≤ 100000) (hr : G S 6 < 600) (hv : G S 7 < 1000000) :
    ∃ G' : Nat → Nat → Int, swQ G G' S gap ∧ ∀ Q, RK MX7_sweep 0 [.ref S, .int (zi gap), jk, jk, jk] [] (0, 0) (E, zg G, zk L, r) Q = Q (E, zg G', zk L, r) (.int (zi (G S 13 - G' S 13))) := by
  let ev := G S 7 + 1
  let G1 : Nat → Nat → Int := u2 G S 7 ev
  have a1 : ∀ q j, ¬ (q = S ∧ j = 7) → G1 q j = G q j := fun q j hn => if_neg hn
  have a7 : G1 S 7 = ev := u2_s _ _ _ _
  have aS : ∀ j, j ≠ 7 → G1 S j = G S j := fun j hj => a1 S j (fun z => hj z.2)
  have aq : ∀ q, q ≠ S → G1 q = G q := fun q hq => by funext j; exact a1 q j (fun z => hq z.1)
  have hX1 : hX G1 S = hX G S := by
    funext q
    unfold hX sK
    rw [aq _ (by omega)]
  have nA1 : nA G1 S = nA G S := by
    funext q
    unfold nA
    rw [aS 13 (by decide), aq _ (by omega)]
  have hg1 : rgS G1 S := by
    obtain ⟨g0, g1, g2, g3, g4, g6, g7, g8, g13, ga1, ga2, ga3, ga4, ga5⟩ := id hg
    unfold rgS
    rw [aS 0 (by decide), aS 1 (by decide), aS 2 (by decide), aS 3 (by decide), aS 4 (by decide), aS 6 (by decide), aS 8 (by decide), aS 13 (by decide), a7, aq _ (by omega), aq _ (by omega), aq _ (by omega), aq _ (by omega), aq _ (by omega)]
    exact ⟨g0, g1, g2, g3, g4, g6, ⟨by show 0 ≤ G S 7 + 1; omega, by show G S 7 + 1 ≤ 1000000; omega⟩, g8, g13, ga1, ga2, ga3, ga4, ga5⟩
  have hw1 : WR G1 S := by
    unfold WR at hw ⊢
    rw [hX1, aS 1 (by decide), aS 2 (by decide), aS 3 (by decide), aS 13 (by decide), aq _ (by omega)]
    exact hw
  have eK : swK G1 S gap = swK G S gap := by
    funext t
    unfold swK
    rw [nA1, aS 0 (by decide), aS 6 (by decide)]
  have h13 := hg.2.2.2.2.2.2.2.2.1
  have e0 : swF G1 S gap ev 1 = G1 := by
    funext q j
    have hb := ctN_b (hX G1 S) j
    show (if q = S + 2 ∧ swP G1 S gap 1 j = true then ev else G1 q j) = G1 q j
    have : swP G1 S gap 1 j = false := by
      unfold swP
      have : decide (ctN (hX G1 S) j + 1 < 1) = false := by rw [decide_eq_false_iff_not]; omega
      rw [this]
      simp
    rw [this]
    simp
  obtain ⟨l4', G2, hI, hl⟩ := c7_sweep_loop (L := L) (E := E) (r := r) hs hg1 hw1 a7 (by omega : 1 ≤ gap ∧ gap ≤ 1000000) 600 jk 1 G1 (by have := hg1.2.2.2.2.2.2.2.2.1; omega) (by omega) (by omega) (by have := hg1.2.2.2.2.2.2.2.2.1; omega) ⟨fun q _ => by rw [e0], fun _ _ => rfl, fun t ht => by omega, hg1.2.2.2.2.2.2.2.2.2.2.2.2.2⟩
  rw [aS 13 (by decide)] at hl hI
  rw [eK] at hl
  let lf : Int := ctN (swK G S gap) (G S 13).toNat
  have hlf : 0 ≤ lf ∧ lf ≤ 600 := by
    have := ctN_b (swK G S gap) (G S 13).toNat
    exact ⟨this.1, by show ctN (swK G S gap) (G S 13).toNat ≤ 600; omega⟩
  let G3 : Nat → Nat → Int := u2 (u2 (u2 G2 S 6 (G S 6 + 1)) (S + 3) (G S 6 + 1).toNat gap) (S + 4) (G S 6 + 1).toNat ev
  let G' : Nat → Nat → Int := u2 G3 S 13 lf
  have h6 := hg.2.2.2.2.2.1
  have b3 : ∀ q j, G3 q j = if q = S + 4 ∧ j = (G S 6 + 1).toNat then ev else if q = S + 3 ∧ j = (G S 6 + 1).toNat then gap else if q = S ∧ j = 6 then G S 6 + 1 else G2 q j := fun q j => rfl
  have b2 : ∀ q, q ≠ S + 2 → q ≠ S + 5 → G2 q = G1 q := fun q hq hq5 => (hI.1 q hq5).trans (swF_S2 q hq)
  have d0 : ∀ q, q ≠ S → G' q = G3 q := fun q hq => u2_a _ _ _ _ hq
  have dS : ∀ j, j ≠ 13 → G' S j = G3 S j := fun j hj => if_neg fun z => hj z.2
  have d13 : G' S 13 = lf := u2_s _ _ _ _
  have c_S : ∀ j, j ≠ 6 → j ≠ 7 → G3 S j = G S j := fun j h1 h2 => by
    rw [b3, if_neg (by omega), if_neg (by omega), if_neg (by omega), b2 S (by omega) (by omega), aS j h2]
  have c_6 : G3 S 6 = G S 6 + 1 := by rw [b3, if_neg (by omega), if_neg (by omega), if_pos ⟨rfl, rfl⟩]
  have c_7 : G3 S 7 = ev := by rw [b3, if_neg (by omega), if_neg (by omega), if_neg (by omega), b2 S (by omega) (by omega), a7]
  have c_q : ∀ q, q ≠ S → q ≠ S + 2 → q ≠ S + 3 → q ≠ S + 4 → q ≠ S + 5 → G' q = G q := fun q h1 h2 h3 h4 h5 => by
    rw [d0 q h1]
    funext j
    rw [b3, if_neg (fun z => h4 z.1), if_neg (fun z => h3 z.1), if_neg (fun z => h1 z.1), b2 q h2 h5, aq q h1]
  have c_5 : G' (S + 5) = G2 (S + 5) := by
    rw [d0 _ (by omega)]
    funext j
    rw [b3, if_neg (by omega), if_neg (by omega), if_neg (by omega)]
  have c_2 : ∀ j : Nat, G' (S + 2) j = if (j : Int) < G S 3 ∧ hX G S j = true ∧ spC (G S 0) (G S 6) (ctN (hX G S) j + 1) (G S 1 + G S 2 * j) gap = true then G S 7 + 1 else G (S + 2) j := by
    intro j
    rw [d0 _ (by omega), b3, if_neg (by omega), if_neg (by omega), if_neg (by omega), hI.1 (S + 2) (by omega)]
    show (if S + 2 = S + 2 ∧ swP G1 S gap (G S 13 + 1) j = true then ev else G1 (S + 2) j) = _
    rw [aq (S + 2) (by omega)]
    have : swP G1 S gap (G S 13 + 1) j = (decide ((j : Int) < G S 3) && hX G S j && spC (G S 0) (G S 6) (ctN (hX G S) j + 1) (G S 1 + G S 2 * j) gap) := by
      unfold swP
      rw [hX1, aS 0 (by decide), aS 1 (by decide), aS 2 (by decide), aS 3 (by decide), aS 6 (by decide)]
      by_cases q1 : (j : Int) < G S 3
      · by_cases q2 : hX G S j = true
        · have := (nA_of hw q1 q2).2.2
          have e5 : decide (ctN (hX G S) j + 1 < G S 13 + 1) = true := decide_eq_true (by omega)
          rw [e5]
          simp
        · have : hX G S j = false := by simpa using q2
          rw [this]
          simp
      · have : decide ((j : Int) < G S 3) = false := decide_eq_false q1
        rw [this]
        simp
    rw [this]
    simp only [true_and, Bool.and_eq_true, decide_eq_true_eq, and_assoc]
    rfl
  have c_3 : ∀ j : Nat, G' (S + 3) j = if (j : Int) = G S 6 + 1 then gap else G (S + 3) j := by
    intro j
    rw [d0 _ (by omega), b3, if_neg (by omega), if_neg (c := S + 3 = S ∧ j = 6) (by omega), b2 _ (by omega) (by omega), aq _ (by omega)]
    by_cases q : (j : Int) = G S 6 + 1
    · rw [if_pos q, if_pos ⟨rfl, by omega⟩]
    · rw [if_neg q, if_neg (by omega)]
  have c_4 : ∀ j : Nat, G' (S + 4) j = if (j : Int) = G S 6 + 1 then G S 7 + 1 else G (S + 4) j := by
    intro j
    rw [d0 _ (by omega), b3, if_neg (c := S + 4 = S + 3 ∧ j = (G S 6 + 1).toNat) (by omega), if_neg (c := S + 4 = S ∧ j = 6) (by omega), b2 _ (by omega) (by omega), aq _ (by omega)]
    by_cases q : (j : Int) = G S 6 + 1
    · rw [if_pos q, if_pos ⟨rfl, by omega⟩]
    · rw [if_neg q, if_neg (by omega)]
  have f_S : ∀ j, j ≠ 6 → j ≠ 7 → j ≠ 13 → G' S j = G S j := fun j h1 h2 h3 => (dS j h3).trans (c_S j h1 h2)
  have hg3 : rgS G' S := by
    obtain ⟨g0, g1, g2, g3, g4, g6, g7, g8, g13, ga1, ga2, ga3, ga4, ga5⟩ := id hg
    unfold rgS
    rw [f_S 0 (by decide) (by decide) (by decide), f_S 1 (by decide) (by decide) (by decide), f_S 2 (by decide) (by decide) (by decide), f_S 3 (by decide) (by decide) (by decide), f_S 4 (by decide) (by decide) (by decide), dS 6 (by decide), c_6, dS 7 (by decide), c_7, f_S 8 (by decide) (by decide) (by decide), d13, c_q (S + 1) (by omega) (by omega) (by omega) (by omega) (by omega), c_5]
    refine ⟨g0, g1, g2, g3, g4, ⟨by omega, by omega⟩, ⟨by show 0 ≤ G S 7 + 1; omega, by show G S 7 + 1 ≤ 1000000; omega⟩, g8, hlf, ga1, fun t => ?_, fun t => ?_, fun t => ?_, hI.2.2.2⟩
    · rw [c_2]
      have := ga2 t
      split <;> omega
    · rw [c_3]
      have := ga3 t
      split <;> omega
    · rw [c_4]
      have := ga4 t
      split <;> omega
  have h3 := hg.2.2.2.1
  have hZ : ∀ i : Nat, (i : Int) < G S 3 → hX G' S i = (hX G S i && swK G S gap (ctN (hX G S) i)) := by
    intro i hi
    have eA : ∀ H : Nat → Nat → Int, hX H S i = decide (H (S + 2) i = 2147483647) := by
      intro H
      unfold hX sK
      rw [if_pos (by omega), Int.toNat_natCast]
    rw [eA G', c_2]
    by_cases q : hX G S i = true
    · have en := (nA_of hw hi q).1
      rw [q, Bool.true_and]
      unfold swK
      rw [en]
      by_cases q2 : spC (G S 0) (G S 6) (ctN (hX G S) i + 1) (G S 1 + G S 2 * i) gap = true
      · rw [if_pos ⟨hi, rfl, q2⟩, q2]
        exact decide_eq_false (by omega)
      · have q3 : spC (G S 0) (G S 6) (ctN (hX G S) i + 1) (G S 1 + G S 2 * i) gap = false := by simpa using q2
        rw [if_neg (fun z => q2 z.2.2), q3, ← eA G, q]
        rfl
    · have q2 : hX G S i = false := by simpa using q
      rw [if_neg (fun z => q z.2.1), ← eA G, q2]
      rfl
  have hWR : WR G' S := by
    refine ⟨?_, ?_, fun i hi hx => ?_⟩
    · rw [f_S 2 (by decide) (by decide) (by decide), f_S 3 (by decide) (by decide) (by decide)]
      exact hw.1
    · rw [d13, f_S 3 (by decide) (by decide) (by decide), ctN_comp (hX G S) (swK G S gap) (hX G' S) _ (fun i hi => hZ i (by omega)), ← hw.2.1]
    · rw [f_S 3 (by decide) (by decide) (by decide)] at hi
      rw [hZ i hi, Bool.and_eq_true] at hx
      have en := nA_of hw hi hx.1
      have hb := ctN_b (hX G S) i
      have ez : (((ctN (hX G S) i).toNat : Nat) : Int) = ctN (hX G S) i := Int.toNat_of_nonneg hb.1
      rw [ctN_comp (hX G S) (swK G S gap) (hX G' S) _ (fun j hj => hZ j (by omega)), c_5, f_S 1 (by decide) (by decide) (by decide), f_S 2 (by decide) (by decide) (by decide), ← en.1]
      have := hI.2.2.1 (ctN (hX G S) i).toNat (by omega) (by rw [eK, ez]; exact hx.2)
      rw [eK, nA1, ez] at this
      exact this
  refine ⟨G', ⟨fun q hq => c_q q (by omega) (by omega) (by omega) (by omega) (by omega), fun j hj => f_S j (by omega) (by omega) (by omega), ⟨?_, ?_, ?_⟩, c_q (S + 1) (by omega) (by omega) (by omega) (by omega) (by omega), c_2, c_3, c_4, hg3, hWR⟩, fun Q => ?_⟩
  · rw [dS 6 (by decide), c_6]
  · rw [dS 7 (by decide), c_7]
  · exact f_S 8 (by decide) (by decide) (by decide)
  · have h13' : G3 S 13 = G S 13 := c_S 13 (by decide) (by decide)
    have h66 : G2 S 6 = G S 6 := by rw [b2 S (by omega) (by omega), aS 6 (by decide)]
    have h77 : G2 S 7 = ev := by rw [b2 S (by omega) (by omega), a7]
    have hl' : ∀ Q, RK MX7_sweep 14 [.ref S, .int (zi gap), .int (zi 0), .int (zi 1), jk] [] (0, 0) (E, zg (u2 G S 7 (G S 7 + 1)), zk L, r) Q = RK MX7_sweep 80 [.ref S, .int (zi gap), .int (zi lf), .int (zi (G S 13 + 1)), l4'] [] (0, 0) (E, zg G2, zk L, r) Q := hl
    obtain ⟨s0, ⟨s1, s2, s3, s4, s5⟩, ⟨l1, l2, l3, l4, l5⟩, r1, r2, r3, r4, r5⟩ := id hs
    have k1 : u2 G2 S 6 (G S 6 + 1) S 6 = G S 6 + 1 := u2_s _ _ _ _
    have k2 : (if 0 ≤ G S 6 + 1 ∧ G S 6 + 1 < (le E (S + 3) : Int) then u2 (u2 G2 S 6 (G S 6 + 1)) (S + 3) (G S 6 + 1).toNat gap else u2 G2 S 6 (G S 6 + 1)) = u2 (u2 G2 S 6 (G S 6 + 1)) (S + 3) (G S 6 + 1).toNat gap := if_pos (by omega)
    have k3 : u2 (u2 G2 S 6 (G S 6 + 1)) (S + 3) (G S 6 + 1).toNat gap S 6 = G S 6 + 1 := by
      show (if S = S + 3 ∧ 6 = (G S 6 + 1).toNat then _ else if S = S ∧ 6 = 6 then _ else _) = _
      rw [if_neg (by omega), if_pos ⟨rfl, rfl⟩]
    have k4 : u2 (u2 G2 S 6 (G S 6 + 1)) (S + 3) (G S 6 + 1).toNat gap S 7 = ev := by
      show (if S = S + 3 ∧ 7 = (G S 6 + 1).toNat then _ else if S = S ∧ 7 = 6 then _ else G2 S 7) = _
      rw [if_neg (by omega), if_neg (by omega), h77]
    have k5 : (if 0 ≤ G S 6 + 1 ∧ G S 6 + 1 < (le E (S + 4) : Int) then u2 (u2 (u2 G2 S 6 (G S 6 + 1)) (S + 3) (G S 6 + 1).toNat gap) (S + 4) (G S 6 + 1).toNat ev else u2 (u2 G2 S 6 (G S 6 + 1)) (S + 3) (G S 6 + 1).toNat gap) = G3 := if_pos (by omega)
    rw [d13]
    simp (disch := first | assumption | exact c2_int _ | exact c2_ref _ | exact c2_jk | exact c2_null | omega | (apply rN1; assumption) | (apply rN2; assumption) | (apply rN3; assumption) | (apply rN4; assumption) | exact bI_r _ | exact bI_01 _) only [↓fX7_sweep_0, ↓fX7_sweep_1, ↓fX7_sweep_2, ↓fX7_sweep_5, ↓fX7_sweep_6, ↓fX7_sweep_7, ↓fX7_sweep_10, ↓fX7_sweep_11, ↓fX7_sweep_12, ↓fX7_sweep_13, ↓fX7_sweep_15, ↓fX7_sweep_16, ↓fX7_sweep_19, ↓fX7_sweep_22, ↓fX7_sweep_23, ↓fX7_sweep_24, ↓fX7_sweep_27, ↓fX7_sweep_29, ↓fX7_sweep_30, ↓fX7_sweep_31, ↓fX7_sweep_33, ↓fX7_sweep_34, ↓fX7_sweep_37, ↓fX7_sweep_40, ↓fX7_sweep_41, ↓fX7_sweep_44, ↓fX7_sweep_45, ↓fX7_sweep_47, ↓fX7_sweep_48, ↓fX7_sweep_51, ↓fX7_sweep_52, ↓fX7_sweep_55, ↓fX7_sweep_58, ↓fX7_sweep_61, ↓fX7_sweep_62, ↓fX7_sweep_65, ↓fX7_sweep_66, ↓fX7_sweep_68, ↓fX7_sweep_71, ↓fX7_sweep_74, ↓fX7_sweep_77, ↓fX7_sweep_81, ↓fX7_sweep_82, ↓fX7_sweep_85, ↓fX7_sweep_86, ↓fX7_sweep_87, ↓fX7_sweep_90, ↓fX7_sweep_91, ↓fX7_sweep_94, ↓fX7_sweep_95, ↓fX7_sweep_98, ↓fX7_sweep_99, ↓fX7_sweep_102, ↓fX7_sweep_103, ↓fX7_sweep_106, ↓fX7_sweep_107, ↓fX7_sweep_110, ↓fX7_sweep_111, ↓fX7_sweep_114, ↓fX7_sweep_117, ↓fX7_sweep_118, ↓fX7_sweep_121, ↓fX7_sweep_122, ↓fX7_sweep_123, ↓fX7_sweep_124, ↓fX7_sweep_125, ↓fX7_sweep_126, ↓fX7_sweep_129, ↓fX7_sweep_130, hl', and_self, true_and, and_true, false_and, and_false, not_true_eq_false, not_false_eq_true, or_self, true_or, or_true, false_or, or_false, ite_not, Decidable.not_not, decide_eq_true_eq, Bool.not_true, Bool.not_false, Bool.false_eq_true, Bool.not_eq_true, n10, n20, n21, n30, n31, n32, n40, n41, n42, n43, ↓reduceIte]
    simp (disch := first | assumption | exact c2_int _ | exact c2_ref _ | exact c2_jk | exact c2_null | omega | (apply rN1; assumption) | (apply rN2; assumption) | (apply rN3; assumption) | (apply rN4; assumption) | exact bI_r _ | exact bI_01 _) only [↓fX7_sweep_0, ↓fX7_sweep_1, ↓fX7_sweep_2, ↓fX7_sweep_5, ↓fX7_sweep_6, ↓fX7_sweep_7, ↓fX7_sweep_10, ↓fX7_sweep_11, ↓fX7_sweep_12, ↓fX7_sweep_13, ↓fX7_sweep_15, ↓fX7_sweep_16, ↓fX7_sweep_19, ↓fX7_sweep_22, ↓fX7_sweep_23, ↓fX7_sweep_24, ↓fX7_sweep_27, ↓fX7_sweep_29, ↓fX7_sweep_30, ↓fX7_sweep_31, ↓fX7_sweep_33, ↓fX7_sweep_34, ↓fX7_sweep_37, ↓fX7_sweep_40, ↓fX7_sweep_41, ↓fX7_sweep_44, ↓fX7_sweep_45, ↓fX7_sweep_47, ↓fX7_sweep_48, ↓fX7_sweep_51, ↓fX7_sweep_52, ↓fX7_sweep_55, ↓fX7_sweep_58, ↓fX7_sweep_61, ↓fX7_sweep_62, ↓fX7_sweep_65, ↓fX7_sweep_66, ↓fX7_sweep_68, ↓fX7_sweep_71, ↓fX7_sweep_74, ↓fX7_sweep_77, ↓fX7_sweep_80, ↓fX7_sweep_81, ↓fX7_sweep_82, ↓fX7_sweep_85, ↓fX7_sweep_86, ↓fX7_sweep_87, ↓fX7_sweep_90, ↓fX7_sweep_91, ↓fX7_sweep_94, ↓fX7_sweep_95, ↓fX7_sweep_98, ↓fX7_sweep_99, ↓fX7_sweep_102, ↓fX7_sweep_103, ↓fX7_sweep_106, ↓fX7_sweep_107, ↓fX7_sweep_110, ↓fX7_sweep_111, ↓fX7_sweep_114, ↓fX7_sweep_117, ↓fX7_sweep_118, ↓fX7_sweep_121, ↓fX7_sweep_122, ↓fX7_sweep_123, ↓fX7_sweep_124, ↓fX7_sweep_125, ↓fX7_sweep_126, ↓fX7_sweep_129, ↓fX7_sweep_130, ↓c9_put, h13', h66, h77, k1, k2, k3, k4, k5, and_self, true_and, and_true, false_and, and_false, not_true_eq_false, not_false_eq_true, or_self, true_or, or_true, false_or, or_false, ite_not, Decidable.not_not, decide_eq_true_eq, Bool.not_true, Bool.not_false, Bool.false_eq_true, Bool.not_eq_true, n10, n20, n21, n30, n31, n32, n40, n41, n42, n43, ↓reduceIte]
    rfl
end BS
