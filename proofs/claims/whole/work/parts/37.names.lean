/-! The reader: names. -/
section BS
variable {E : AE} {G G' L : Nat → Nat → Int} {r : Nat → Nat → Option Nat} {h : AH} {Q : AH → Value → Prop} {D a c : Nat} {w : List Int} {i v x b u s e t n lo hi : Int} {B : Int → Int} {T T' : Int × Int × Int × Int}
theorem PS_c (h : PS E r G D B n T) (h1 : ∀ x, x ≤ D + 1 → x ≠ D → G' x = G x) (h2 : G' D 2 = G D 2 ∧ G' D 5 = G D 5 ∧ G' D 6 = G D 6 ∧ G' D 7 = G D 7 ∧ G' D 8 = G D 8) : PS E r G' D B n T := by
  obtain ⟨c0, c1, c2, c3, c4, c5, c6⟩ := h
  obtain ⟨d2, d5, d6, d7, d8⟩ := h2
  have e1 : G' (D + 1) = G (D + 1) := h1 _ (by omega) (by omega)
  refine ⟨c0, ?_, fun i hi => ⟨?_, (c2 i hi).2⟩, ?_, d2.trans c4, ?_, c6⟩
  · unfold rgB at c1 ⊢
    rw [d2, e1]
    exact c1
  · obtain ⟨⟨s1, s2, s3, s4⟩, s5⟩ := c2 i hi
    refine ⟨s1, s2, s3, fun j hj => ?_⟩
    rw [h1 _ (by omega) (by omega)]
    exact s4 j hj
  · rw [← c3]
    funext i
    unfold bD
    rw [d2, e1]
  · rw [d5, d6, d7, d8]
    exact c5
theorem same_loop {s e : Int} (h : PS E r G D B n T) (hs : 0 ≤ s ∧ s ≤ 1000) {l2 : Value} (hl : c2 l2 = false) : ∀ (k i : Nat), (T.2.2.1 - T.2.1).toNat - i ≤ k → i ≤ (T.2.2.1 - T.2.1).toNat → RK MX5_isSameWord 19 [.ref D, .int (zi s), l2, .int (zi (i : Int))] [] (0, 0) (E, zg G, zk L, r) Q = Q (E, zg G, zk L, r) (.int (zi (bI (∀ j : Nat, j < (T.2.2.1 - T.2.1).toNat → i ≤ j → B (T.2.1 + j) = B (s + j))))) := by
  have h0 := h.1.1
  have hn := PS_n h
  obtain ⟨e5, e6, e7, e8⟩ := h.2.2.2.2.2.1
  obtain ⟨t1, t2, t3, t4⟩ := h.2.2.2.2.2.2
  have eb : ∀ (i : Int) Q, I32 i → RK MX5_byteAt 0 [.ref D, .int (zi i)] [] (0, 0) (E, zg G, zk L, r) Q = Q (E, zg G, zk L, r) (.int (zi (B i))) := fun i Q hi => by
    rw [c5_byteAt h.1 h.2.1.1 hi, h.2.2.2.1]
  have bb : ∀ i, I32 (B i) := fun i => by
    rw [← h.2.2.2.1]
    exact bD_r h.2.1
  intro k
  induction k with
  | zero =>
    intro i h1 h2
    have h6 : ¬ (i : Int) < G D 7 - G D 6 := by omega
    rw [bI_p (fun j j1 j2 => absurd j1 (by omega))]
    simp (disch := first | assumption | exact c2_int _ | exact c2_ref _ | exact c2_jk | exact c2_null | omega | (apply rN1; assumption) | (apply rN2; assumption) | (apply rN3; assumption) | (apply rN4; assumption) | exact bI_r _ | exact bI_01 _) only [↓fX5_isSameWord_0, ↓fX5_isSameWord_1, ↓fX5_isSameWord_4, ↓fX5_isSameWord_5, ↓fX5_isSameWord_8, ↓fX5_isSameWord_9, ↓fX5_isSameWord_10, ↓fX5_isSameWord_11, ↓fX5_isSameWord_12, ↓fX5_isSameWord_15, ↓fX5_isSameWord_16, ↓fX5_isSameWord_17, ↓fX5_isSameWord_18, ↓fX5_isSameWord_19, ↓fX5_isSameWord_20, ↓fX5_isSameWord_21, ↓fX5_isSameWord_24, ↓fX5_isSameWord_25, ↓fX5_isSameWord_28, ↓fX5_isSameWord_29, ↓fX5_isSameWord_32, ↓fX5_isSameWord_33, ↓fX5_isSameWord_34, ↓fX5_isSameWord_37, ↓fX5_isSameWord_38, ↓fX5_isSameWord_39, ↓fX5_isSameWord_42, ↓fX5_isSameWord_43, ↓fX5_isSameWord_44, ↓fX5_isSameWord_45, ↓fX5_isSameWord_46, ↓fX5_isSameWord_49, ↓fX5_isSameWord_52, ↓fX5_isSameWord_53, ↓fX5_isSameWord_54, ↓fX5_isSameWord_57, ↓fX5_isSameWord_60, ↓fX5_isSameWord_61, h6, and_self, true_and, and_true, false_and, and_false, not_true_eq_false, not_false_eq_true, or_self, true_or, or_true, false_or, or_false, ite_not, Decidable.not_not, decide_eq_true_eq, Bool.not_true, Bool.not_false, Bool.false_eq_true, Bool.not_eq_true, n10, n20, n21, n30, n31, n32, n40, n41, n42, n43, ↓reduceIte]
  | succ k ih =>
    intro i h1 h2
    by_cases h6 : (i : Int) < G D 7 - G D 6
    · have e6' : G D 6 + (i : Int) = T.2.1 + i := by rw [e6]
      have b1 := bb (T.2.1 + i)
      have b2 := bb (s + i)
      have eb1 : ∀ Q, RK MX5_byteAt 0 [.ref D, .int (zi (G D 6 + (i : Int)))] [] (0, 0) (E, zg G, zk L, r) Q = Q (E, zg G, zk L, r) (.int (zi (B (T.2.1 + i)))) := fun Q => by
        rw [e6']
        exact eb _ Q (by omega)
      have eb2 : ∀ Q, RK MX5_byteAt 0 [.ref D, .int (zi (s + (i : Int)))] [] (0, 0) (E, zg G, zk L, r) Q = Q (E, zg G, zk L, r) (.int (zi (B (s + i)))) := fun Q => eb _ Q (by omega)
      rw [fX5_isSameWord_19]
      by_cases h9 : B (T.2.1 + i) = B (s + i)
      · have ih' := ih (i + 1) (by omega) (by omega)
        have ih'' : RK MX5_isSameWord 19 [.ref D, .int (zi s), l2, .int (zi ((i : Int) + 1))] [] (0, 0) (E, zg G, zk L, r) Q = _ := ih'
        have ee : bI (∀ j : Nat, j < (T.2.2.1 - T.2.1).toNat → i ≤ j → B (T.2.1 + j) = B (s + j)) = bI (∀ j : Nat, j < (T.2.2.1 - T.2.1).toNat → i + 1 ≤ j → B (T.2.1 + j) = B (s + j)) := by
          unfold bI
          by_cases z : ∀ j : Nat, j < (T.2.2.1 - T.2.1).toNat → i + 1 ≤ j → B (T.2.1 + j) = B (s + j)
          · rw [if_pos z, if_pos (fun j j1 j2 => by
              by_cases y : j = i
              · rw [y, h9]
              · exact z j j1 (by omega))]
          · rw [if_neg z, if_neg (fun y => z fun j j1 j2 => y j j1 (by omega))]
        rw [ee, ← ih'']
        simp (disch := first | assumption | exact c2_int _ | exact c2_ref _ | exact c2_jk | exact c2_null | omega | (apply rN1; assumption) | (apply rN2; assumption) | (apply rN3; assumption) | (apply rN4; assumption) | exact bI_r _ | exact bI_01 _) only [↓fX5_isSameWord_0, ↓fX5_isSameWord_1, ↓fX5_isSameWord_4, ↓fX5_isSameWord_5, ↓fX5_isSameWord_8, ↓fX5_isSameWord_9, ↓fX5_isSameWord_10, ↓fX5_isSameWord_11, ↓fX5_isSameWord_12, ↓fX5_isSameWord_15, ↓fX5_isSameWord_16, ↓fX5_isSameWord_17, ↓fX5_isSameWord_18, ↓fX5_isSameWord_20, ↓fX5_isSameWord_21, ↓fX5_isSameWord_24, ↓fX5_isSameWord_25, ↓fX5_isSameWord_28, ↓fX5_isSameWord_29, ↓fX5_isSameWord_32, ↓fX5_isSameWord_33, ↓fX5_isSameWord_34, ↓fX5_isSameWord_37, ↓fX5_isSameWord_38, ↓fX5_isSameWord_39, ↓fX5_isSameWord_42, ↓fX5_isSameWord_43, ↓fX5_isSameWord_44, ↓fX5_isSameWord_45, ↓fX5_isSameWord_46, ↓fX5_isSameWord_49, ↓fX5_isSameWord_52, ↓fX5_isSameWord_53, ↓fX5_isSameWord_54, ↓fX5_isSameWord_57, ↓fX5_isSameWord_60, ↓fX5_isSameWord_61, ↓eb1, ↓eb2, h6, h9, and_self, true_and, and_true, false_and, and_false, not_true_eq_false, not_false_eq_true, or_self, true_or, or_true, false_or, or_false, ite_not, Decidable.not_not, decide_eq_true_eq, Bool.not_true, Bool.not_false, Bool.false_eq_true, Bool.not_eq_true, n10, n20, n21, n30, n31, n32, n40, n41, n42, n43, ↓reduceIte]
      · rw [bI_n (fun z => h9 (z i (by omega) (by omega)))]
        simp (disch := first | assumption | exact c2_int _ | exact c2_ref _ | exact c2_jk | exact c2_null | omega | (apply rN1; assumption) | (apply rN2; assumption) | (apply rN3; assumption) | (apply rN4; assumption) | exact bI_r _ | exact bI_01 _) only [↓fX5_isSameWord_0, ↓fX5_isSameWord_1, ↓fX5_isSameWord_4, ↓fX5_isSameWord_5, ↓fX5_isSameWord_8, ↓fX5_isSameWord_9, ↓fX5_isSameWord_10, ↓fX5_isSameWord_11, ↓fX5_isSameWord_12, ↓fX5_isSameWord_15, ↓fX5_isSameWord_16, ↓fX5_isSameWord_17, ↓fX5_isSameWord_18, ↓fX5_isSameWord_20, ↓fX5_isSameWord_21, ↓fX5_isSameWord_24, ↓fX5_isSameWord_25, ↓fX5_isSameWord_28, ↓fX5_isSameWord_29, ↓fX5_isSameWord_32, ↓fX5_isSameWord_33, ↓fX5_isSameWord_34, ↓fX5_isSameWord_37, ↓fX5_isSameWord_38, ↓fX5_isSameWord_39, ↓fX5_isSameWord_42, ↓fX5_isSameWord_43, ↓fX5_isSameWord_44, ↓fX5_isSameWord_45, ↓fX5_isSameWord_46, ↓fX5_isSameWord_49, ↓fX5_isSameWord_52, ↓fX5_isSameWord_53, ↓fX5_isSameWord_54, ↓fX5_isSameWord_57, ↓fX5_isSameWord_60, ↓fX5_isSameWord_61, ↓eb1, ↓eb2, h6, h9, and_self, true_and, and_true, false_and, and_false, not_true_eq_false, not_false_eq_true, or_self, true_or, or_true, false_or, or_false, ite_not, Decidable.not_not, decide_eq_true_eq, Bool.not_true, Bool.not_false, Bool.false_eq_true, Bool.not_eq_true, n10, n20, n21, n30, n31, n32, n40, n41, n42, n43, ↓reduceIte]
    · rw [bI_p (fun j j1 j2 => absurd j1 (by omega))]
      simp (disch := first | assumption | exact c2_int _ | exact c2_ref _ | exact c2_jk | exact c2_null | omega | (apply rN1; assumption) | (apply rN2; assumption) | (apply rN3; assumption) | (apply rN4; assumption) | exact bI_r _ | exact bI_01 _) only [↓fX5_isSameWord_0, ↓fX5_isSameWord_1, ↓fX5_isSameWord_4, ↓fX5_isSameWord_5, ↓fX5_isSameWord_8, ↓fX5_isSameWord_9, ↓fX5_isSameWord_10, ↓fX5_isSameWord_11, ↓fX5_isSameWord_12, ↓fX5_isSameWord_15, ↓fX5_isSameWord_16, ↓fX5_isSameWord_17, ↓fX5_isSameWord_18, ↓fX5_isSameWord_19, ↓fX5_isSameWord_20, ↓fX5_isSameWord_21, ↓fX5_isSameWord_24, ↓fX5_isSameWord_25, ↓fX5_isSameWord_28, ↓fX5_isSameWord_29, ↓fX5_isSameWord_32, ↓fX5_isSameWord_33, ↓fX5_isSameWord_34, ↓fX5_isSameWord_37, ↓fX5_isSameWord_38, ↓fX5_isSameWord_39, ↓fX5_isSameWord_42, ↓fX5_isSameWord_43, ↓fX5_isSameWord_44, ↓fX5_isSameWord_45, ↓fX5_isSameWord_46, ↓fX5_isSameWord_49, ↓fX5_isSameWord_52, ↓fX5_isSameWord_53, ↓fX5_isSameWord_54, ↓fX5_isSameWord_57, ↓fX5_isSameWord_60, ↓fX5_isSameWord_61, h6, and_self, true_and, and_true, false_and, and_false, not_true_eq_false, not_false_eq_true, or_self, true_or, or_true, false_or, or_false, ite_not, Decidable.not_not, decide_eq_true_eq, Bool.not_true, Bool.not_false, Bool.false_eq_true, Bool.not_eq_true, n10, n20, n21, n30, n31, n32, n40, n41, n42, n43, ↓reduceIte]
theorem PS_same {s e : Int} (h : PS E r G D B n T) (hs : 0 ≤ s ∧ s ≤ 1000) (he : 0 ≤ e ∧ e ≤ 1000) : RK MX5_isSameWord 0 [.ref D, .int (zi s), .int (zi e), jk] [] (0, 0) (E, zg G, zk L, r) Q = Q (E, zg G, zk L, r) (.int (zi (bI (smT B T s e = true)))) := by
  have h0 := h.1.1
  have hn := PS_n h
  obtain ⟨e5, e6, e7, e8⟩ := h.2.2.2.2.2.1
  obtain ⟨t1, t2, t3, t4⟩ := h.2.2.2.2.2.2
  by_cases q2 : G D 7 - G D 6 = e - s
  · have lp := same_loop (L := L) (Q := Q) (e := e) h hs (c2_int (zi e)) 1000 0 (by omega) (by omega)
    have lp' : RK MX5_isSameWord 19 [.ref D, .int (zi s), .int (zi e), .int (zi 0)] [] (0, 0) (E, zg G, zk L, r) Q = _ := lp
    have ee : bI (smT B T s e = true) = bI (∀ j : Nat, j < (T.2.2.1 - T.2.1).toNat → 0 ≤ j → B (T.2.1 + j) = B (s + j)) := by
      unfold bI smT
      by_cases z : ∀ j : Nat, j < (T.2.2.1 - T.2.1).toNat → 0 ≤ j → B (T.2.1 + j) = B (s + j)
      · rw [if_pos z, if_pos (decide_eq_true ⟨by omega, fun j j1 => z j j1 (by omega)⟩)]
      · rw [if_neg z, if_neg (fun y => z fun j j1 _ => (of_decide_eq_true y).2 j j1)]
    rw [ee]
    simp (disch := first | assumption | exact c2_int _ | exact c2_ref _ | exact c2_jk | exact c2_null | omega | (apply rN1; assumption) | (apply rN2; assumption) | (apply rN3; assumption) | (apply rN4; assumption) | exact bI_r _ | exact bI_01 _) only [↓fX5_isSameWord_0, ↓fX5_isSameWord_1, ↓fX5_isSameWord_4, ↓fX5_isSameWord_5, ↓fX5_isSameWord_8, ↓fX5_isSameWord_9, ↓fX5_isSameWord_10, ↓fX5_isSameWord_11, ↓fX5_isSameWord_12, ↓fX5_isSameWord_15, ↓fX5_isSameWord_16, ↓fX5_isSameWord_17, ↓fX5_isSameWord_18, ↓fX5_isSameWord_20, ↓fX5_isSameWord_21, ↓fX5_isSameWord_24, ↓fX5_isSameWord_25, ↓fX5_isSameWord_28, ↓fX5_isSameWord_29, ↓fX5_isSameWord_32, ↓fX5_isSameWord_33, ↓fX5_isSameWord_34, ↓fX5_isSameWord_37, ↓fX5_isSameWord_38, ↓fX5_isSameWord_39, ↓fX5_isSameWord_42, ↓fX5_isSameWord_43, ↓fX5_isSameWord_44, ↓fX5_isSameWord_45, ↓fX5_isSameWord_46, ↓fX5_isSameWord_49, ↓fX5_isSameWord_52, ↓fX5_isSameWord_53, ↓fX5_isSameWord_54, ↓fX5_isSameWord_57, ↓fX5_isSameWord_60, ↓fX5_isSameWord_61, ↓lp', q2, and_self, true_and, and_true, false_and, and_false, not_true_eq_false, not_false_eq_true, or_self, true_or, or_true, false_or, or_false, ite_not, Decidable.not_not, decide_eq_true_eq, Bool.not_true, Bool.not_false, Bool.false_eq_true, Bool.not_eq_true, n10, n20, n21, n30, n31, n32, n40, n41, n42, n43, ↓reduceIte]
  · have ee : bI (smT B T s e = true) = 0 := bI_n (fun y => q2 (by
      have := (of_decide_eq_true y).1
      omega))
    rw [ee]
    simp (disch := first | assumption | exact c2_int _ | exact c2_ref _ | exact c2_jk | exact c2_null | omega | (apply rN1; assumption) | (apply rN2; assumption) | (apply rN3; assumption) | (apply rN4; assumption) | exact bI_r _ | exact bI_01 _) only [↓fX5_isSameWord_0, ↓fX5_isSameWord_1, ↓fX5_isSameWord_4, ↓fX5_isSameWord_5, ↓fX5_isSameWord_8, ↓fX5_isSameWord_9, ↓fX5_isSameWord_10, ↓fX5_isSameWord_11, ↓fX5_isSameWord_12, ↓fX5_isSameWord_15, ↓fX5_isSameWord_16, ↓fX5_isSameWord_17, ↓fX5_isSameWord_18, ↓fX5_isSameWord_19, ↓fX5_isSameWord_20, ↓fX5_isSameWord_21, ↓fX5_isSameWord_24, ↓fX5_isSameWord_25, ↓fX5_isSameWord_28, ↓fX5_isSameWord_29, ↓fX5_isSameWord_32, ↓fX5_isSameWord_33, ↓fX5_isSameWord_34, ↓fX5_isSameWord_37, ↓fX5_isSameWord_38, ↓fX5_isSameWord_39, ↓fX5_isSameWord_42, ↓fX5_isSameWord_43, ↓fX5_isSameWord_44, ↓fX5_isSameWord_45, ↓fX5_isSameWord_46, ↓fX5_isSameWord_49, ↓fX5_isSameWord_52, ↓fX5_isSameWord_53, ↓fX5_isSameWord_54, ↓fX5_isSameWord_57, ↓fX5_isSameWord_60, ↓fX5_isSameWord_61, q2, and_self, true_and, and_true, false_and, and_false, not_true_eq_false, not_false_eq_true, or_self, true_or, or_true, false_or, or_false, ite_not, Decidable.not_not, decide_eq_true_eq, Bool.not_true, Bool.not_false, Bool.false_eq_true, Bool.not_eq_true, n10, n20, n21, n30, n31, n32, n40, n41, n42, n43, ↓reduceIte]
end BS
