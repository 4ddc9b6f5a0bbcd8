/-! Functional part: what changes a sieve. -/
section BS
variable {E : AE} {G L : Nat → Nat → Int} {r : Nat → Nat → Option Nat} {h : AH} {Q : AH → Value → Prop} {S T : Nat} {i v n p x kk en ev idx gap : Int}
/-- closing up: from a row begun -/
theorem c7_closeUp_loop (hs : shS E r S) : ∀ (k : Nat) (i : Nat) (G : Nat → Nat → Int), rgS G S → G S 3 - i ≤ k → (i : Int) ≤ G S 3 → G S 13 = ctN (hX G S) i →
    ∃ G' : Nat → Nat → Int, (∀ a j, ¬ ((a = S ∧ j = 13) ∨ a = S + 5) → G' a j = G a j) ∧ rgS G' S ∧ G' S 13 = ctN (hX G S) (G S 3).toNat ∧ (∀ t : Nat, (t : Int) < G S 13 → G' (S + 5) t = G (S + 5) t) ∧ (∀ j : Nat, i ≤ j → (j : Int) < G S 3 → hX G S j = true → G' (S + 5) (ctN (hX G S) j).toNat = G S 1 + G S 2 * j) ∧
      ∀ Q, RK MX7_closeUp 7 [.ref S, .int (zi (i : Int))] [] (0, 0) (E, zg G, zk L, r) Q = Q (E, zg G', zk L, r) .null := by
  intro k
  induction k with
  | zero =>
    intro i G hg h1 h2 h3
    have h6 : ¬ (i : Int) < G S 3 := by omega
    refine ⟨G, fun _ _ _ => rfl, hg, ?_, fun _ _ => rfl, fun j q1 q2 => absurd q2 (by omega), fun Q => ?_⟩
    · rw [h3]
      congr 1
      omega
    · obtain ⟨s0, ⟨s1, s2, s3, s4, s5⟩, ⟨l1, l2, l3, l4, l5⟩, r1, r2, r3, r4, r5⟩ := id hs
      obtain ⟨g0, g1, g2, g3, g4, g6, g7, g8, g13, ga1, ga2, ga3, ga4, ga5⟩ := id hg
      simp (disch := first | assumption | exact c2_int _ | exact c2_ref _ | exact c2_jk | exact c2_null | omega | (apply rN1; assumption) | (apply rN2; assumption) | (apply rN3; assumption) | (apply rN4; assumption) | exact bI_r _ | exact bI_01 _) only [↓fX7_closeUp_0, ↓fX7_closeUp_1, ↓fX7_closeUp_2, ↓fX7_closeUp_5, ↓fX7_closeUp_6, ↓fX7_closeUp_7, ↓fX7_closeUp_8, ↓fX7_closeUp_9, ↓fX7_closeUp_12, ↓fX7_closeUp_15, ↓fX7_closeUp_16, ↓fX7_closeUp_17, ↓fX7_closeUp_20, ↓fX7_closeUp_23, ↓fX7_closeUp_26, ↓fX7_closeUp_27, ↓fX7_closeUp_30, ↓fX7_closeUp_31, ↓fX7_closeUp_34, ↓fX7_closeUp_35, ↓fX7_closeUp_36, ↓fX7_closeUp_39, ↓fX7_closeUp_42, ↓fX7_closeUp_43, ↓fX7_closeUp_44, ↓fX7_closeUp_47, ↓fX7_closeUp_48, ↓fX7_closeUp_49, ↓fX7_closeUp_52, ↓fX7_closeUp_55, ↓fX7_closeUp_58, h6, and_self, true_and, and_true, false_and, and_false, not_true_eq_false, not_false_eq_true, or_self, true_or, or_true, false_or, or_false, ite_not, Decidable.not_not, decide_eq_true_eq, Bool.not_true, Bool.not_false, Bool.false_eq_true, Bool.not_eq_true, n10, n20, n21, n30, n31, n32, n40, n41, n42, n43, ↓reduceIte]
  | succ k ih =>
    intro i G hg h1 h2 h3
    by_cases h6 : (i : Int) < G S 3
    · by_cases h9 : hX G S i = true
      · have hc := ctN_b (hX G S) i
        have h13 : G S 13 < 600 := by
          have := hg.2.2.2.1
          omega
        let G1 : Nat → Nat → Int := u2 (u2 G (S + 5) (G S 13).toNat (G S 1 + G S 2 * i)) S 13 (G S 13 + 1)
        have e0 : ∀ a j, ¬ ((a = S ∧ j = 13) ∨ a = S + 5) → G1 a j = G a j := by
          intro a j hn
          show (if a = S ∧ j = 13 then _ else if a = S + 5 ∧ j = (G S 13).toNat then _ else G a j) = G a j
          rw [if_neg (fun q => hn (Or.inl q)), if_neg (fun q => hn (Or.inr q.1))]
        have e13 : G1 S 13 = G S 13 + 1 := u2_s _ _ _ _
        have e5 : ∀ t, G1 (S + 5) t = if t = (G S 13).toNat then G S 1 + G S 2 * i else G (S + 5) t := by
          intro t
          show (if S + 5 = S ∧ t = 13 then _ else if S + 5 = S + 5 ∧ t = (G S 13).toNat then _ else G (S + 5) t) = _
          rw [if_neg (by omega)]
          by_cases q : t = (G S 13).toNat
          · rw [if_pos ⟨rfl, q⟩, if_pos q]
          · rw [if_neg (fun z => q z.2), if_neg q]
        have f : ∀ j, j ≠ 13 → G1 S j = G S j := fun j hj => e0 S j (by omega)
        have f1 : ∀ j, G1 (S + 1) j = G (S + 1) j := fun j => e0 _ j (by omega)
        have f2 : ∀ j, G1 (S + 2) j = G (S + 2) j := fun j => e0 _ j (by omega)
        have f3 : ∀ j, G1 (S + 3) j = G (S + 3) j := fun j => e0 _ j (by omega)
        have f4 : ∀ j, G1 (S + 4) j = G (S + 4) j := fun j => e0 _ j (by omega)
        have hval : 0 ≤ G S 1 + G S 2 * (i : Int) ∧ G S 1 + G S 2 * (i : Int) ≤ 100000 := by
          obtain ⟨g0, g1, g2, g3, -⟩ := id hg
          have b1 : 0 ≤ G S 2 * (i : Int) := Int.mul_nonneg (by omega) (by omega)
          have b2 : G S 2 * (i : Int) ≤ 99 * (i : Int) := Int.mul_le_mul_of_nonneg_right (by omega) (by omega)
          omega
        have hg1 : rgS G1 S := by
          obtain ⟨g0, g1, g2, g3, g4, g6, g7, g8, g13, ga1, ga2, ga3, ga4, ga5⟩ := id hg
          unfold rgS
          rw [f 0 (by decide), f 1 (by decide), f 2 (by decide), f 3 (by decide), f 4 (by decide), f 6 (by decide), f 7 (by decide), f 8 (by decide), e13]
          refine ⟨g0, g1, g2, g3, g4, g6, g7, g8, by omega, fun t => by rw [f1]; exact ga1 t, fun t => by rw [f2]; exact ga2 t, fun t => by rw [f3]; exact ga3 t, fun t => by rw [f4]; exact ga4 t, fun t => ?_⟩
          rw [e5]
          split
          · exact hval
          · exact ga5 t
        have hX1 : hX G1 S = hX G S := by
          funext q
          unfold hX sK
          rw [f2]
        have hct : ctN (hX G S) (i + 1) = ctN (hX G S) i + 1 := by
          show ctN (hX G S) i + (if hX G S (i : Int) = true then 1 else 0) = _
          rw [if_pos h9]
        obtain ⟨G', p1, p2, p3, p4, p5, p6⟩ := ih (i + 1) G1 hg1 (by rw [f 3 (by decide)]; omega) (by rw [f 3 (by decide)]; omega) (by rw [hX1, e13, hct, h3])
        rw [hX1, f 3 (by decide)] at p3
        rw [e13] at p4
        refine ⟨G', fun a j hn => (p1 a j hn).trans (e0 a j hn), p2, p3, fun t ht => ?_, fun j q1 q2 q3 => ?_, fun Q => ?_⟩
        · rw [p4 t (by omega), e5, if_neg (by omega)]
        · by_cases hj : j = i
          · subst hj
            rw [← h3, p4 _ (by omega), e5, if_pos rfl]
          · have := p5 j (by omega) (by rw [f 3 (by decide)]; exact q2) (by rw [hX1]; exact q3)
            rw [hX1, f 1 (by decide), f 2 (by decide)] at this
            exact this
        · rw [← p6 Q]
          obtain ⟨s0, ⟨s1, s2, s3, s4, s5⟩, ⟨l1, l2, l3, l4, l5⟩, r1, r2, r3, r4, r5⟩ := id hs
          obtain ⟨g0, g1, g2, g3, g4, g6, g7, g8, g13, ga1, ga2, ga3, ga4, ga5⟩ := id hg
          rw [fX7_closeUp_7]
          have hput : (if 0 ≤ G S 13 ∧ G S 13 < (le E (S + 5) : Int) then u2 G (S + 5) (G S 13).toNat (G S 1 + G S 2 * i) else G) = u2 G (S + 5) (G S 13).toNat (G S 1 + G S 2 * i) := if_pos (by omega)
          have e13' : u2 G (S + 5) (G S 13).toNat (G S 1 + G S 2 * i) S 13 = G S 13 := if_neg (by omega)
          simp (disch := first | assumption | exact c2_int _ | exact c2_ref _ | exact c2_jk | exact c2_null | omega | (apply rN1; assumption) | (apply rN2; assumption) | (apply rN3; assumption) | (apply rN4; assumption) | exact bI_r _ | exact bI_01 _) only [↓fX7_closeUp_0, ↓fX7_closeUp_1, ↓fX7_closeUp_2, ↓fX7_closeUp_5, ↓fX7_closeUp_6, ↓fX7_closeUp_8, ↓fX7_closeUp_9, ↓fX7_closeUp_12, ↓fX7_closeUp_15, ↓fX7_closeUp_16, ↓fX7_closeUp_17, ↓fX7_closeUp_20, ↓fX7_closeUp_23, ↓fX7_closeUp_26, ↓fX7_closeUp_27, ↓fX7_closeUp_30, ↓fX7_closeUp_31, ↓fX7_closeUp_34, ↓fX7_closeUp_35, ↓fX7_closeUp_36, ↓fX7_closeUp_39, ↓fX7_closeUp_42, ↓fX7_closeUp_43, ↓fX7_closeUp_44, ↓fX7_closeUp_47, ↓fX7_closeUp_48, ↓fX7_closeUp_49, ↓fX7_closeUp_52, ↓fX7_closeUp_55, ↓fX7_closeUp_58, ↓c7_isHere, ↓c7_firstNumber, ↓c9_put, bI_0, h6, h9, hput, e13', and_self, true_and, and_true, false_and, and_false, not_true_eq_false, not_false_eq_true, or_self, true_or, or_true, false_or, or_false, ite_not, Decidable.not_not, decide_eq_true_eq, Bool.not_true, Bool.not_false, Bool.false_eq_true, Bool.not_eq_true, n10, n20, n21, n30, n31, n32, n40, n41, n42, n43, ↓reduceIte]
          rfl
      · have hct : ctN (hX G S) (i + 1) = ctN (hX G S) i := by
          show ctN (hX G S) i + (if hX G S (i : Int) = true then 1 else 0) = _
          rw [if_neg h9]
          omega
        obtain ⟨G', p1, p2, p3, p4, p5, p6⟩ := ih (i + 1) G hg (by omega) (by omega) (by rw [hct]; exact h3)
        refine ⟨G', p1, p2, p3, p4, fun j q1 q2 q3 => ?_, fun Q => ?_⟩
        · by_cases hj : j = i
          · subst hj
            exact absurd q3 h9
          · exact p5 j (by omega) q2 q3
        · rw [← p6 Q]
          obtain ⟨s0, ⟨s1, s2, s3, s4, s5⟩, ⟨l1, l2, l3, l4, l5⟩, r1, r2, r3, r4, r5⟩ := id hs
          obtain ⟨g0, g1, g2, g3, g4, g6, g7, g8, g13, ga1, ga2, ga3, ga4, ga5⟩ := id hg
          rw [fX7_closeUp_7]
          simp (disch := first | assumption | exact c2_int _ | exact c2_ref _ | exact c2_jk | exact c2_null | omega | (apply rN1; assumption) | (apply rN2; assumption) | (apply rN3; assumption) | (apply rN4; assumption) | exact bI_r _ | exact bI_01 _) only [↓fX7_closeUp_0, ↓fX7_closeUp_1, ↓fX7_closeUp_2, ↓fX7_closeUp_5, ↓fX7_closeUp_6, ↓fX7_closeUp_8, ↓fX7_closeUp_9, ↓fX7_closeUp_12, ↓fX7_closeUp_15, ↓fX7_closeUp_16, ↓fX7_closeUp_17, ↓fX7_closeUp_20, ↓fX7_closeUp_23, ↓fX7_closeUp_26, ↓fX7_closeUp_27, ↓fX7_closeUp_30, ↓fX7_closeUp_31, ↓fX7_closeUp_34, ↓fX7_closeUp_35, ↓fX7_closeUp_36, ↓fX7_closeUp_39, ↓fX7_closeUp_42, ↓fX7_closeUp_43, ↓fX7_closeUp_44, ↓fX7_closeUp_47, ↓fX7_closeUp_48, ↓fX7_closeUp_49, ↓fX7_closeUp_52, ↓fX7_closeUp_55, ↓fX7_closeUp_58, ↓c7_isHere, bI_0, h6, h9, and_self, true_and, and_true, false_and, and_false, not_true_eq_false, not_false_eq_true, or_self, true_or, or_true, false_or, or_false, ite_not, Decidable.not_not, decide_eq_true_eq, Bool.not_true, Bool.not_false, Bool.false_eq_true, Bool.not_eq_true, n10, n20, n21, n30, n31, n32, n40, n41, n42, n43, ↓reduceIte]
          rfl
    · refine ⟨G, fun _ _ _ => rfl, hg, ?_, fun _ _ => rfl, fun j q1 q2 => absurd q2 (by omega), fun Q => ?_⟩
      · rw [h3]
        congr 1
        omega
      · obtain ⟨s0, ⟨s1, s2, s3, s4, s5⟩, ⟨l1, l2, l3, l4, l5⟩, r1, r2, r3, r4, r5⟩ := id hs
        obtain ⟨g0, g1, g2, g3, g4, g6, g7, g8, g13, ga1, ga2, ga3, ga4, ga5⟩ := id hg
        simp (disch := first | assumption | exact c2_int _ | exact c2_ref _ | exact c2_jk | exact c2_null | omega | (apply rN1; assumption) | (apply rN2; assumption) | (apply rN3; assumption) | (apply rN4; assumption) | exact bI_r _ | exact bI_01 _) only [↓fX7_closeUp_0, ↓fX7_closeUp_1, ↓fX7_closeUp_2, ↓fX7_closeUp_5, ↓fX7_closeUp_6, ↓fX7_closeUp_7, ↓fX7_closeUp_8, ↓fX7_closeUp_9, ↓fX7_closeUp_12, ↓fX7_closeUp_15, ↓fX7_closeUp_16, ↓fX7_closeUp_17, ↓fX7_closeUp_20, ↓fX7_closeUp_23, ↓fX7_closeUp_26, ↓fX7_closeUp_27, ↓fX7_closeUp_30, ↓fX7_closeUp_31, ↓fX7_closeUp_34, ↓fX7_closeUp_35, ↓fX7_closeUp_36, ↓fX7_closeUp_39, ↓fX7_closeUp_42, ↓fX7_closeUp_43, ↓fX7_closeUp_44, ↓fX7_closeUp_47, ↓fX7_closeUp_48, ↓fX7_closeUp_49, ↓fX7_closeUp_52, ↓fX7_closeUp_55, ↓fX7_closeUp_58, h6, and_self, true_and, and_true, false_and, and_false, not_true_eq_false, not_false_eq_true, or_self, true_or, or_true, false_or, or_false, ite_not, Decidable.not_not, decide_eq_true_eq, Bool.not_true, Bool.not_false, Bool.false_eq_true, Bool.not_eq_true, n10, n20, n21, n30, n31, n32, n40, n41, n42, n43, ↓reduceIte]
theorem c7_closeUp (hs : shS E r S) (hg : rgS G S) (h2 : 1 ≤ G S 2 ∧ 2 ≤ G S 3) :
    ∃ G' : Nat → Nat → Int, (∀ a j, ¬ ((a = S ∧ j = 13) ∨ a = S + 5) → G' a j = G a j) ∧ rgS G' S ∧ WR G' S ∧ ∀ Q, RK MX7_closeUp 0 [.ref S, jk] [] (0, 0) (E, zg G, zk L, r) Q = Q (E, zg G', zk L, r) .null := by
  let G1 : Nat → Nat → Int := u2 G S 13 0
  have e0 : ∀ a j, ¬ (a = S ∧ j = 13) → G1 a j = G a j := fun a j hn => if_neg hn
  have e13 : G1 S 13 = 0 := u2_s _ _ _ _
  have f : ∀ j, j ≠ 13 → G1 S j = G S j := fun j hj => e0 S j (by omega)
  have fq : ∀ q j, q ≠ S → G1 q j = G q j := fun q j hq => e0 q j (fun z => hq z.1)
  have hg1 : rgS G1 S := by
    obtain ⟨g0, g1, g2, g3, g4, g6, g7, g8, g13, ga1, ga2, ga3, ga4, ga5⟩ := id hg
    unfold rgS
    rw [f 0 (by decide), f 1 (by decide), f 2 (by decide), f 3 (by decide), f 4 (by decide), f 6 (by decide), f 7 (by decide), f 8 (by decide), e13]
    exact ⟨g0, g1, g2, g3, g4, g6, g7, g8, by omega, fun t => by rw [fq _ _ (by omega)]; exact ga1 t, fun t => by rw [fq _ _ (by omega)]; exact ga2 t, fun t => by rw [fq _ _ (by omega)]; exact ga3 t, fun t => by rw [fq _ _ (by omega)]; exact ga4 t, fun t => by rw [fq _ _ (by omega)]; exact ga5 t⟩
  have h3 := hg.2.2.2.1
  obtain ⟨G', p1, p2, p3, p4, p5, p6⟩ := c7_closeUp_loop (L := L) hs 600 0 G1 hg1 (by rw [f 3 (by decide)]; omega) (by rw [f 3 (by decide)]; omega) (by rw [e13]; rfl)
  have hX' : hX G' S = hX G1 S := by
    funext q
    unfold hX sK
    rw [p1 (S + 2) _ (by omega)]
  refine ⟨G', fun a j hn => (p1 a j hn).trans (e0 a j (fun z => hn (Or.inl z))), p2, ⟨?_, ?_, fun i hi hx => ?_⟩, fun Q => ?_⟩
  · rw [p1 S 2 (by omega), p1 S 3 (by omega), f 2 (by decide), f 3 (by decide)]
    exact h2
  · rw [hX', p1 S 3 (by omega)]
    exact p3
  · rw [p1 S 3 (by omega)] at hi
    rw [hX'] at hx ⊢
    rw [p1 S 1 (by omega), p1 S 2 (by omega)]
    exact p5 i (by omega) hi hx
  · rw [← p6 Q]
    obtain ⟨s0, ⟨s1, s2, s3, s4, s5⟩, ⟨l1, l2, l3, l4, l5⟩, r1, r2, r3, r4, r5⟩ := id hs
    simp (disch := first | assumption | exact c2_int _ | exact c2_ref _ | exact c2_jk | exact c2_null | omega | (apply rN1; assumption) | (apply rN2; assumption) | (apply rN3; assumption) | (apply rN4; assumption) | exact bI_r _ | exact bI_01 _) only [↓fX7_closeUp_0, ↓fX7_closeUp_1, ↓fX7_closeUp_2, ↓fX7_closeUp_5, ↓fX7_closeUp_6, ↓fX7_closeUp_8, ↓fX7_closeUp_9, ↓fX7_closeUp_12, ↓fX7_closeUp_15, ↓fX7_closeUp_16, ↓fX7_closeUp_17, ↓fX7_closeUp_20, ↓fX7_closeUp_23, ↓fX7_closeUp_26, ↓fX7_closeUp_27, ↓fX7_closeUp_30, ↓fX7_closeUp_31, ↓fX7_closeUp_34, ↓fX7_closeUp_35, ↓fX7_closeUp_36, ↓fX7_closeUp_39, ↓fX7_closeUp_42, ↓fX7_closeUp_43, ↓fX7_closeUp_44, ↓fX7_closeUp_47, ↓fX7_closeUp_48, ↓fX7_closeUp_49, ↓fX7_closeUp_52, ↓fX7_closeUp_55, ↓fX7_closeUp_58]
    rfl
end BS
