/-! The reader: names. -/
def hasN (B : Int → Int) (T : Int × Int × Int × Int) (f g : Nat → Int) (c : Nat) : Bool := decide (∃ i, i < c ∧ smT B T (f i) (g i) = true)
section BS
variable {E : AE} {G G' L : Nat → Nat → Int} {r : Nat → Nat → Option Nat} {h : AH} {Q : AH → Value → Prop} {D a c : Nat} {w : List Int} {i v x b u s e t n lo hi : Int} {B : Int → Int} {T T' : Int × Int × Int × Int}
theorem PS_c (h : PS E r G D B n T) (h1 : ∀ x, x ≤ D + 1 → x ≠ D → G' x = G x) (h2 : G' D 2 = G D 2 ∧ G' D 5 = G D 5 ∧ G' D 6 = G D 6 ∧ G' D 7 = G D 7 ∧ G' D 8 = G D 8) : PS E r G' D B n T := by
  obtain ⟨c0, c1, c2, c3, c4, c5, c6⟩ := h
  obtain ⟨d2, d5, d6, d7, d8⟩ := h2
  have e1 : G' (D + 1) = G (D + 1) := h1 _ (by omega) (by omega)
  refine ⟨c0, ?_, kStr_c c2 fun x hx _ => h1 x (by omega) (by omega), ?_, d2.trans c4, ?_, c6⟩
  · unfold rgB at c1 ⊢
    rw [d2, e1]
    exact c1
  · rw [← c3]
    funext i
    unfold bD
    rw [d2, e1]
  · rw [d5, d6, d7, d8]
    exact c5
theorem same_loop {s e : Int} (h : PS E r G D B n T) (hs : 0 ≤ s ∧ s ≤ 1000) {l2 : Value} (hl : c2 l2 = false) : ∀ (k i : Nat), (T.2.2.1 - T.2.1).toNat - i ≤ k → i ≤ (T.2.2.1 - T.2.1).toNat → RK MX5_isSameWord 19 [.ref D, .int (zi s), l2, .int (zi (i : Int))] [] (0, 0) (E, zg G, zk L, r) Q = Q (E, zg G, zk L, r) (.int (zi (bI (∀ j : Nat, j < (T.2.2.1 - T.2.1).toNat → i ≤ j → B (T.2.1 + j) = B (s + j))))) := by
  have h0 := h.1.1
  have hn := PS_n h
  obtain ⟨e5, e6, e7, e8⟩ := h.2.2.2.2.2.1
  obtain ⟨t1, t2, t3, t4⟩ := h.2.2.2.2.2.2
  have eb : ∀ (i : Int) Q, I32 i → RK MX5_byteAt 0 [.ref D, .int (zi i)] [] (0, 0) (E, zg G, zk L, r) Q = Q (E, zg G, zk L, r) (.int (zi (B i))) := fun i Q hi => by
    rw [c5_byteAt h.1 h.2.1.1 hi, h.2.2.2.1]
  have bb : ∀ i, I32 (B i) := fun i => by
    rw [← h.2.2.2.1]
    exact bD_r h.2.1
  intro k
  induction k with
  | zero =>
    intro i h1 h2
    have h6 : ¬ (i : Int) < G D 7 - G D 6 := by omega
    rw [bI_p (fun j j1 j2 => absurd j1 (by omega))]
    simp (disch := first | assumption | exact c2_int _ | exact c2_ref _ | exact c2_jk | exact c2_null | omega | (apply rN1; assumption) | (apply rN2; assumption) | (apply rN3; assumption) | (apply rN4; assumption) | exact bI_r _ | exact bI_01 _) only [↓fX5_isSameWord_0, ↓fX5_isSameWord_1, ↓fX5_isSameWord_4, ↓fX5_isSameWord_5, ↓fX5_isSameWord_8, ↓fX5_isSameWord_9, ↓fX5_isSameWord_10, ↓fX5_isSameWord_11, ↓fX5_isSameWord_12, ↓fX5_isSameWord_15, ↓fX5_isSameWord_16, ↓fX5_isSameWord_17, ↓fX5_isSameWord_18, ↓fX5_isSameWord_19, ↓fX5_isSameWord_20, ↓fX5_isSameWord_21, ↓fX5_isSameWord_24, ↓fX5_isSameWord_25, ↓fX5_isSameWord_28, ↓fX5_isSameWord_29, ↓fX5_isSameWord_32, ↓fX5_isSameWord_33, ↓fX5_isSameWord_34, ↓fX5_isSameWord_37, ↓fX5_isSameWord_38, ↓fX5_isSameWord_39, ↓fX5_isSameWord_42, ↓fX5_isSameWord_43, ↓fX5_isSameWord_44, ↓fX5_isSameWord_45, ↓fX5_isSameWord_46, ↓fX5_isSameWord_49, ↓fX5_isSameWord_52, ↓fX5_isSameWord_53, ↓fX5_isSameWord_54, ↓fX5_isSameWord_57, ↓fX5_isSameWord_60, ↓fX5_isSameWord_61, h6, and_self, true_and, and_true, false_and, and_false, not_true_eq_false, not_false_eq_true, or_self, true_or, or_true, false_or, or_false, ite_not, Decidable.not_not, decide_eq_true_eq, Bool.not_true, Bool.not_false, Bool.false_eq_true, Bool.not_eq_true, n10, n20, n21, n30, n31, n32, n40, n41, n42, n43, ↓reduceIte]
  | succ k ih =>
    intro i h1 h2
    by_cases h6 : (i : Int) < G D 7 - G D 6
    · have e6' : G D 6 + (i : Int) = T.2.1 + i := by rw [e6]
      have b1 := bb (T.2.1 + i)
      have b2 := bb (s + i)
      have eb1 : ∀ Q, RK MX5_byteAt 0 [.ref D, .int (zi (G D 6 + (i : Int)))] [] (0, 0) (E, zg G, zk L, r) Q = Q (E, zg G, zk L, r) (.int (zi (B (T.2.1 + i)))) := fun Q => by
        rw [e6']
        exact eb _ Q (by omega)
      have eb2 : ∀ Q, RK MX5_byteAt 0 [.ref D, .int (zi (s + (i : Int)))] [] (0, 0) (E, zg G, zk L, r) Q = Q (E, zg G, zk L, r) (.int (zi (B (s + i)))) := fun Q => eb _ Q (by omega)
      rw [fX5_isSameWord_19]
      by_cases h9 : B (T.2.1 + i) = B (s + i)
      · have ih' := ih (i + 1) (by omega) (by omega)
        have ih'' : RK MX5_isSameWord 19 [.ref D, .int (zi s), l2, .int (zi ((i : Int) + 1))] [] (0, 0) (E, zg G, zk L, r) Q = _ := ih'
        have ee : bI (∀ j : Nat, j < (T.2.2.1 - T.2.1).toNat → i ≤ j → B (T.2.1 + j) = B (s + j)) = bI (∀ j : Nat, j < (T.2.2.1 - T.2.1).toNat → i + 1 ≤ j → B (T.2.1 + j) = B (s + j)) := by
          unfold bI
          by_cases z : ∀ j : Nat, j < (T.2.2.1 - T.2.1).toNat → i + 1 ≤ j → B (T.2.1 + j) = B (s + j)
          · rw [if_pos z, if_pos (fun j j1 j2 => by
              by_cases y : j = i
              · rw [y, h9]
              · exact z j j1 (by omega))]
          · rw [if_neg z, if_neg (fun y => z fun j j1 j2 => y j j1 (by omega))]
        rw [ee, ← ih'']
        simp (disch := first | assumption | exact c2_int _ | exact c2_ref _ | exact c2_jk | exact c2_null | omega | (apply rN1; assumption) | (apply rN2; assumption) | (apply rN3; assumption) | (apply rN4; assumption) | exact bI_r _ | exact bI_01 _) only [↓fX5_isSameWord_0, ↓fX5_isSameWord_1, ↓fX5_isSameWord_4, ↓fX5_isSameWord_5, ↓fX5_isSameWord_8, ↓fX5_isSameWord_9, ↓fX5_isSameWord_10, ↓fX5_isSameWord_11, ↓fX5_isSameWord_12, ↓fX5_isSameWord_15, ↓fX5_isSameWord_16, ↓fX5_isSameWord_17, ↓fX5_isSameWord_18, ↓fX5_isSameWord_20, ↓fX5_isSameWord_21, ↓fX5_isSameWord_24, ↓fX5_isSameWord_25, ↓fX5_isSameWord_28, ↓fX5_isSameWord_29, ↓fX5_isSameWord_32, ↓fX5_isSameWord_33, ↓fX5_isSameWord_34, ↓fX5_isSameWord_37, ↓fX5_isSameWord_38, ↓fX5_isSameWord_39, ↓fX5_isSameWord_42, ↓fX5_isSameWord_43, ↓fX5_isSameWord_44, ↓fX5_isSameWord_45, ↓fX5_isSameWord_46, ↓fX5_isSameWord_49, ↓fX5_isSameWord_52, ↓fX5_isSameWord_53, ↓fX5_isSameWord_54, ↓fX5_isSameWord_57, ↓fX5_isSameWord_60, ↓fX5_isSameWord_61, ↓eb1, ↓eb2, h6, h9, and_self, true_and, and_true, false_and, and_false, not_true_eq_false, not_false_eq_true, or_self, true_or, or_true, false_or, or_false, ite_not, Decidable.not_not, decide_eq_true_eq, Bool.not_true, Bool.not_false, Bool.false_eq_true, Bool.not_eq_true, n10, n20, n21, n30, n31, n32, n40, n41, n42, n43, ↓reduceIte]
      · rw [bI_n (fun z => h9 (z i (by omega) (by omega)))]
        simp (disch := first | assumption | exact c2_int _ | exact c2_ref _ | exact c2_jk | exact c2_null | omega | (apply rN1; assumption) | (apply rN2; assumption) | (apply rN3; assumption) | (apply rN4; assumption) | exact bI_r _ | exact bI_01 _) only [↓fX5_isSameWord_0, ↓fX5_isSameWord_1, ↓fX5_isSameWord_4, ↓fX5_isSameWord_5, ↓fX5_isSameWord_8, ↓fX5_isSameWord_9, ↓fX5_isSameWord_10, ↓fX5_isSameWord_11, ↓fX5_isSameWord_12, ↓fX5_isSameWord_15, ↓fX5_isSameWord_16, ↓fX5_isSameWord_17, ↓fX5_isSameWord_18, ↓fX5_isSameWord_20, ↓fX5_isSameWord_21, ↓fX5_isSameWord_24, ↓fX5_isSameWord_25, ↓fX5_isSameWord_28, ↓fX5_isSameWord_29, ↓fX5_isSameWord_32, ↓fX5_isSameWord_33, ↓fX5_isSameWord_34, ↓fX5_isSameWord_37, ↓fX5_isSameWord_38, ↓fX5_isSameWord_39, ↓fX5_isSameWord_42, ↓fX5_isSameWord_43, ↓fX5_isSameWord_44, ↓fX5_isSameWord_45, ↓fX5_isSameWord_46, ↓fX5_isSameWord_49, ↓fX5_isSameWord_52, ↓fX5_isSameWord_53, ↓fX5_isSameWord_54, ↓fX5_isSameWord_57, ↓fX5_isSameWord_60, ↓fX5_isSameWord_61, ↓eb1, ↓eb2, h6, h9, and_self, true_and, and_true, false_and, and_false, not_true_eq_false, not_false_eq_true, or_self, true_or, or_true, false_or, or_false, ite_not, Decidable.not_not, decide_eq_true_eq, Bool.not_true, Bool.not_false, Bool.false_eq_true, Bool.not_eq_true, n10, n20, n21, n30, n31, n32, n40, n41, n42, n43, ↓reduceIte]
    · rw [bI_p (fun j j1 j2 => absurd j1 (by omega))]
      simp (disch := first | assumption | exact c2_int _ | exact c2_ref _ | exact c2_jk | exact c2_null | omega | (apply rN1; assumption) | (apply rN2; assumption) | (apply rN3; assumption) | (apply rN4; assumption) | exact bI_r _ | exact bI_01 _) only [↓fX5_isSameWord_0, ↓fX5_isSameWord_1, ↓fX5_isSameWord_4, ↓fX5_isSameWord_5, ↓fX5_isSameWord_8, ↓fX5_isSameWord_9, ↓fX5_isSameWord_10, ↓fX5_isSameWord_11, ↓fX5_isSameWord_12, ↓fX5_isSameWord_15, ↓fX5_isSameWord_16, ↓fX5_isSameWord_17, ↓fX5_isSameWord_18, ↓fX5_isSameWord_19, ↓fX5_isSameWord_20, ↓fX5_isSameWord_21, ↓fX5_isSameWord_24, ↓fX5_isSameWord_25, ↓fX5_isSameWord_28, ↓fX5_isSameWord_29, ↓fX5_isSameWord_32, ↓fX5_isSameWord_33, ↓fX5_isSameWord_34, ↓fX5_isSameWord_37, ↓fX5_isSameWord_38, ↓fX5_isSameWord_39, ↓fX5_isSameWord_42, ↓fX5_isSameWord_43, ↓fX5_isSameWord_44, ↓fX5_isSameWord_45, ↓fX5_isSameWord_46, ↓fX5_isSameWord_49, ↓fX5_isSameWord_52, ↓fX5_isSameWord_53, ↓fX5_isSameWord_54, ↓fX5_isSameWord_57, ↓fX5_isSameWord_60, ↓fX5_isSameWord_61, h6, and_self, true_and, and_true, false_and, and_false, not_true_eq_false, not_false_eq_true, or_self, true_or, or_true, false_or, or_false, ite_not, Decidable.not_not, decide_eq_true_eq, Bool.not_true, Bool.not_false, Bool.false_eq_true, Bool.not_eq_true, n10, n20, n21, n30, n31, n32, n40, n41, n42, n43, ↓reduceIte]
theorem PS_same {s e : Int} (h : PS E r G D B n T) (hs : 0 ≤ s ∧ s ≤ 1000) (he : 0 ≤ e ∧ e ≤ 1000) : RK MX5_isSameWord 0 [.ref D, .int (zi s), .int (zi e), jk] [] (0, 0) (E, zg G, zk L, r) Q = Q (E, zg G, zk L, r) (.int (zi (bI (smT B T s e = true)))) := by
  have h0 := h.1.1
  have hn := PS_n h
  obtain ⟨e5, e6, e7, e8⟩ := h.2.2.2.2.2.1
  obtain ⟨t1, t2, t3, t4⟩ := h.2.2.2.2.2.2
  by_cases q2 : G D 7 - G D 6 = e - s
  · have lp := same_loop (L := L) (Q := Q) (e := e) h hs (c2_int (zi e)) 1000 0 (by omega) (by omega)
    have lp' : RK MX5_isSameWord 19 [.ref D, .int (zi s), .int (zi e), .int (zi 0)] [] (0, 0) (E, zg G, zk L, r) Q = _ := lp
    have ee : bI (smT B T s e = true) = bI (∀ j : Nat, j < (T.2.2.1 - T.2.1).toNat → 0 ≤ j → B (T.2.1 + j) = B (s + j)) := by
      unfold bI smT
      by_cases z : ∀ j : Nat, j < (T.2.2.1 - T.2.1).toNat → 0 ≤ j → B (T.2.1 + j) = B (s + j)
      · rw [if_pos z, if_pos (decide_eq_true ⟨by omega, fun j j1 => z j j1 (by omega)⟩)]
      · rw [if_neg z, if_neg (fun y => z fun j j1 _ => (of_decide_eq_true y).2 j j1)]
    rw [ee]
    simp (disch := first | assumption | exact c2_int _ | exact c2_ref _ | exact c2_jk | exact c2_null | omega | (apply rN1; assumption) | (apply rN2; assumption) | (apply rN3; assumption) | (apply rN4; assumption) | exact bI_r _ | exact bI_01 _) only [↓fX5_isSameWord_0, ↓fX5_isSameWord_1, ↓fX5_isSameWord_4, ↓fX5_isSameWord_5, ↓fX5_isSameWord_8, ↓fX5_isSameWord_9, ↓fX5_isSameWord_10, ↓fX5_isSameWord_11, ↓fX5_isSameWord_12, ↓fX5_isSameWord_15, ↓fX5_isSameWord_16, ↓fX5_isSameWord_17, ↓fX5_isSameWord_18, ↓fX5_isSameWord_20, ↓fX5_isSameWord_21, ↓fX5_isSameWord_24, ↓fX5_isSameWord_25, ↓fX5_isSameWord_28, ↓fX5_isSameWord_29, ↓fX5_isSameWord_32, ↓fX5_isSameWord_33, ↓fX5_isSameWord_34, ↓fX5_isSameWord_37, ↓fX5_isSameWord_38, ↓fX5_isSameWord_39, ↓fX5_isSameWord_42, ↓fX5_isSameWord_43, ↓fX5_isSameWord_44, ↓fX5_isSameWord_45, ↓fX5_isSameWord_46, ↓fX5_isSameWord_49, ↓fX5_isSameWord_52, ↓fX5_isSameWord_53, ↓fX5_isSameWord_54, ↓fX5_isSameWord_57, ↓fX5_isSameWord_60, ↓fX5_isSameWord_61, ↓lp', q2, and_self, true_and, and_true, false_and, and_false, not_true_eq_false, not_false_eq_true, or_self, true_or, or_true, false_or, or_false, ite_not, Decidable.not_not, decide_eq_true_eq, Bool.not_true, Bool.not_false, Bool.false_eq_true, Bool.not_eq_true, n10, n20, n21, n30, n31, n32, n40, n41, n42, n43, ↓reduceIte]
  · have ee : bI (smT B T s e = true) = 0 := bI_n (fun y => q2 (by
      have := (of_decide_eq_true y).1
      omega))
    rw [ee]
    simp (disch := first | assumption | exact c2_int _ | exact c2_ref _ | exact c2_jk | exact c2_null | omega | (apply rN1; assumption) | (apply rN2; assumption) | (apply rN3; assumption) | (apply rN4; assumption) | exact bI_r _ | exact bI_01 _) only [↓fX5_isSameWord_0, ↓fX5_isSameWord_1, ↓fX5_isSameWord_4, ↓fX5_isSameWord_5, ↓fX5_isSameWord_8, ↓fX5_isSameWord_9, ↓fX5_isSameWord_10, ↓fX5_isSameWord_11, ↓fX5_isSameWord_12, ↓fX5_isSameWord_15, ↓fX5_isSameWord_16, ↓fX5_isSameWord_17, ↓fX5_isSameWord_18, ↓fX5_isSameWord_19, ↓fX5_isSameWord_20, ↓fX5_isSameWord_21, ↓fX5_isSameWord_24, ↓fX5_isSameWord_25, ↓fX5_isSameWord_28, ↓fX5_isSameWord_29, ↓fX5_isSameWord_32, ↓fX5_isSameWord_33, ↓fX5_isSameWord_34, ↓fX5_isSameWord_37, ↓fX5_isSameWord_38, ↓fX5_isSameWord_39, ↓fX5_isSameWord_42, ↓fX5_isSameWord_43, ↓fX5_isSameWord_44, ↓fX5_isSameWord_45, ↓fX5_isSameWord_46, ↓fX5_isSameWord_49, ↓fX5_isSameWord_52, ↓fX5_isSameWord_53, ↓fX5_isSameWord_54, ↓fX5_isSameWord_57, ↓fX5_isSameWord_60, ↓fX5_isSameWord_61, q2, and_self, true_and, and_true, false_and, and_false, not_true_eq_false, not_false_eq_true, or_self, true_or, or_true, false_or, or_false, ite_not, Decidable.not_not, decide_eq_true_eq, Bool.not_true, Bool.not_false, Bool.false_eq_true, Bool.not_eq_true, n10, n20, n21, n30, n31, n32, n40, n41, n42, n43, ↓reduceIte]
theorem name_loop (h : PS E r G D B n T) (hc : G D 10 + G D 12 = c) (hc7 : c ≤ 6) (hN : ∀ i, i < c → (0 ≤ G (D + 4) i ∧ G (D + 4) i ≤ 1000) ∧ (0 ≤ G (D + 5) i ∧ G (D + 5) i ≤ 1000)) : ∀ (k i : Nat), c - i ≤ k → i ≤ c → RK MX5_readName 22 [.ref D, .int (zi (i : Int))] [] (0, 0) (E, zg G, zk L, r) Q = if (∃ j, j < c ∧ i ≤ j ∧ smT B T (G (D + 4) j) (G (D + 5) j) = true) then Q (E, zg (faG G D 4 T.2.1), zk L, r) (.int (zi 0)) else RK MX5_readName 70 [.ref D, .int (zi (c : Int))] [] (0, 0) (E, zg G, zk L, r) Q := by
  obtain ⟨h0, ⟨h1, h2, h3, h4, h5⟩, ⟨l1, l2, l3, l4, l5⟩, ⟨r0, r2, r4, r5, r6⟩, -⟩ := id h.1
  intro k
  induction k with
  | zero =>
    intro i g1 g2
    have e : i = c := by omega
    subst e
    have h6 : ¬ (i : Int) < G D 10 + G D 12 := by omega
    rw [if_neg (fun ⟨j, j1, j2, _⟩ => absurd j1 (by omega))]
    simp (disch := first | assumption | exact c2_int _ | exact c2_ref _ | exact c2_jk | exact c2_null | omega | (apply rN1; assumption) | (apply rN2; assumption) | (apply rN3; assumption) | (apply rN4; assumption) | exact bI_r _ | exact bI_01 _) only [↓fX5_readName_0, ↓fX5_readName_1, ↓fX5_readName_4, ↓fX5_readName_5, ↓fX5_readName_8, ↓fX5_readName_9, ↓fX5_readName_12, ↓fX5_readName_15, ↓fX5_readName_16, ↓fX5_readName_19, ↓fX5_readName_20, ↓fX5_readName_21, ↓fX5_readName_22, ↓fX5_readName_23, ↓fX5_readName_24, ↓fX5_readName_27, ↓fX5_readName_28, ↓fX5_readName_31, ↓fX5_readName_32, ↓fX5_readName_35, ↓fX5_readName_36, ↓fX5_readName_37, ↓fX5_readName_40, ↓fX5_readName_41, ↓fX5_readName_44, ↓fX5_readName_45, ↓fX5_readName_48, ↓fX5_readName_49, ↓fX5_readName_52, ↓fX5_readName_55, ↓fX5_readName_58, ↓fX5_readName_59, ↓fX5_readName_60, ↓fX5_readName_63, ↓fX5_readName_64, ↓fX5_readName_67, ↓fX5_readName_71, ↓fX5_readName_74, ↓fX5_readName_75, ↓fX5_readName_78, ↓fX5_readName_79, ↓fX5_readName_82, ↓fX5_readName_83, ↓fX5_readName_84, ↓fX5_readName_87, ↓fX5_readName_90, ↓fX5_readName_91, ↓fX5_readName_94, ↓fX5_readName_95, ↓fX5_readName_98, ↓fX5_readName_99, ↓fX5_readName_102, ↓fX5_readName_103, ↓fX5_readName_104, ↓fX5_readName_107, ↓fX5_readName_110, ↓fX5_readName_111, ↓fX5_readName_114, ↓fX5_readName_115, h6, and_self, true_and, and_true, false_and, and_false, not_true_eq_false, not_false_eq_true, or_self, true_or, or_true, false_or, or_false, ite_not, Decidable.not_not, decide_eq_true_eq, Bool.not_true, Bool.not_false, Bool.false_eq_true, Bool.not_eq_true, n10, n20, n21, n30, n31, n32, n40, n41, n42, n43, ↓reduceIte]
  | succ k ih =>
    intro i g1 g2
    by_cases h6 : (i : Int) < G D 10 + G D 12
    · obtain ⟨n1, n2⟩ := hN i (by omega)
      have a1 : ∀ Q, RK MX9_at 0 [.ref (D + 4), .int (zi (i : Int))] [] (0, 0) (E, zg G, zk L, r) Q = Q (E, zg G, zk L, r) (.int (zi (G (D + 4) i))) := fun Q => by
        rw [c9_at h4 (by omega) (by omega), cAt, if_pos (by omega), Int.toNat_natCast]
      have a2 : ∀ Q, RK MX9_at 0 [.ref (D + 5), .int (zi (i : Int))] [] (0, 0) (E, zg G, zk L, r) Q = Q (E, zg G, zk L, r) (.int (zi (G (D + 5) i))) := fun Q => by
        rw [c9_at h5 (by omega) (by omega), cAt, if_pos (by omega), Int.toNat_natCast]
      have sm := fun Q => PS_same (L := L) (Q := Q) h n1 n2
      rw [fX5_readName_22]
      by_cases q : smT B T (G (D + 4) i) (G (D + 5) i) = true
      · rw [if_pos ⟨i, by omega, Nat.le_refl _, q⟩]
        simp (disch := first | assumption | exact c2_int _ | exact c2_ref _ | exact c2_jk | exact c2_null | omega | (apply rN1; assumption) | (apply rN2; assumption) | (apply rN3; assumption) | (apply rN4; assumption) | exact bI_r _ | exact bI_01 _) only [↓fX5_readName_0, ↓fX5_readName_1, ↓fX5_readName_4, ↓fX5_readName_5, ↓fX5_readName_8, ↓fX5_readName_9, ↓fX5_readName_12, ↓fX5_readName_15, ↓fX5_readName_16, ↓fX5_readName_19, ↓fX5_readName_20, ↓fX5_readName_21, ↓fX5_readName_23, ↓fX5_readName_24, ↓fX5_readName_27, ↓fX5_readName_28, ↓fX5_readName_31, ↓fX5_readName_32, ↓fX5_readName_35, ↓fX5_readName_36, ↓fX5_readName_37, ↓fX5_readName_40, ↓fX5_readName_41, ↓fX5_readName_44, ↓fX5_readName_45, ↓fX5_readName_48, ↓fX5_readName_49, ↓fX5_readName_52, ↓fX5_readName_55, ↓fX5_readName_58, ↓fX5_readName_59, ↓fX5_readName_60, ↓fX5_readName_63, ↓fX5_readName_64, ↓fX5_readName_67, ↓fX5_readName_71, ↓fX5_readName_74, ↓fX5_readName_75, ↓fX5_readName_78, ↓fX5_readName_79, ↓fX5_readName_82, ↓fX5_readName_83, ↓fX5_readName_84, ↓fX5_readName_87, ↓fX5_readName_90, ↓fX5_readName_91, ↓fX5_readName_94, ↓fX5_readName_95, ↓fX5_readName_98, ↓fX5_readName_99, ↓fX5_readName_102, ↓fX5_readName_103, ↓fX5_readName_104, ↓fX5_readName_107, ↓fX5_readName_110, ↓fX5_readName_111, ↓fX5_readName_114, ↓fX5_readName_115, ↓a1, ↓a2, ↓sm, ↓PS_refuse h, bI_0, h6, q, and_self, true_and, and_true, false_and, and_false, not_true_eq_false, not_false_eq_true, or_self, true_or, or_true, false_or, or_false, ite_not, Decidable.not_not, decide_eq_true_eq, Bool.not_true, Bool.not_false, Bool.false_eq_true, Bool.not_eq_true, n10, n20, n21, n30, n31, n32, n40, n41, n42, n43, ↓reduceIte]
      · have ih' := ih (i + 1) (by omega) (by omega)
        have ih'' : RK MX5_readName 22 [.ref D, .int (zi ((i : Int) + 1))] [] (0, 0) (E, zg G, zk L, r) Q = _ := ih'
        have ee : (∃ j, j < c ∧ i ≤ j ∧ smT B T (G (D + 4) j) (G (D + 5) j) = true) ↔ (∃ j, j < c ∧ i + 1 ≤ j ∧ smT B T (G (D + 4) j) (G (D + 5) j) = true) := by
          constructor
          · rintro ⟨j, j1, j2, j3⟩
            by_cases y : j = i
            · rw [y] at j3
              exact absurd j3 q
            · exact ⟨j, j1, by omega, j3⟩
          · rintro ⟨j, j1, j2, j3⟩
            exact ⟨j, j1, by omega, j3⟩
        simp only [ee]
        rw [← ih'']
        simp (disch := first | assumption | exact c2_int _ | exact c2_ref _ | exact c2_jk | exact c2_null | omega | (apply rN1; assumption) | (apply rN2; assumption) | (apply rN3; assumption) | (apply rN4; assumption) | exact bI_r _ | exact bI_01 _) only [↓fX5_readName_0, ↓fX5_readName_1, ↓fX5_readName_4, ↓fX5_readName_5, ↓fX5_readName_8, ↓fX5_readName_9, ↓fX5_readName_12, ↓fX5_readName_15, ↓fX5_readName_16, ↓fX5_readName_19, ↓fX5_readName_20, ↓fX5_readName_21, ↓fX5_readName_23, ↓fX5_readName_24, ↓fX5_readName_27, ↓fX5_readName_28, ↓fX5_readName_31, ↓fX5_readName_32, ↓fX5_readName_35, ↓fX5_readName_36, ↓fX5_readName_37, ↓fX5_readName_40, ↓fX5_readName_41, ↓fX5_readName_44, ↓fX5_readName_45, ↓fX5_readName_48, ↓fX5_readName_49, ↓fX5_readName_52, ↓fX5_readName_55, ↓fX5_readName_58, ↓fX5_readName_59, ↓fX5_readName_60, ↓fX5_readName_63, ↓fX5_readName_64, ↓fX5_readName_67, ↓fX5_readName_71, ↓fX5_readName_74, ↓fX5_readName_75, ↓fX5_readName_78, ↓fX5_readName_79, ↓fX5_readName_82, ↓fX5_readName_83, ↓fX5_readName_84, ↓fX5_readName_87, ↓fX5_readName_90, ↓fX5_readName_91, ↓fX5_readName_94, ↓fX5_readName_95, ↓fX5_readName_98, ↓fX5_readName_99, ↓fX5_readName_102, ↓fX5_readName_103, ↓fX5_readName_104, ↓fX5_readName_107, ↓fX5_readName_110, ↓fX5_readName_111, ↓fX5_readName_114, ↓fX5_readName_115, ↓a1, ↓a2, ↓sm, bI_0, h6, q, and_self, true_and, and_true, false_and, and_false, not_true_eq_false, not_false_eq_true, or_self, true_or, or_true, false_or, or_false, ite_not, Decidable.not_not, decide_eq_true_eq, Bool.not_true, Bool.not_false, Bool.false_eq_true, Bool.not_eq_true, n10, n20, n21, n30, n31, n32, n40, n41, n42, n43, ↓reduceIte]
    · have e : i = c := by omega
      subst e
      rw [if_neg (fun ⟨j, j1, j2, _⟩ => absurd j1 (by omega))]
      simp (disch := first | assumption | exact c2_int _ | exact c2_ref _ | exact c2_jk | exact c2_null | omega | (apply rN1; assumption) | (apply rN2; assumption) | (apply rN3; assumption) | (apply rN4; assumption) | exact bI_r _ | exact bI_01 _) only [↓fX5_readName_0, ↓fX5_readName_1, ↓fX5_readName_4, ↓fX5_readName_5, ↓fX5_readName_8, ↓fX5_readName_9, ↓fX5_readName_12, ↓fX5_readName_15, ↓fX5_readName_16, ↓fX5_readName_19, ↓fX5_readName_20, ↓fX5_readName_21, ↓fX5_readName_22, ↓fX5_readName_23, ↓fX5_readName_24, ↓fX5_readName_27, ↓fX5_readName_28, ↓fX5_readName_31, ↓fX5_readName_32, ↓fX5_readName_35, ↓fX5_readName_36, ↓fX5_readName_37, ↓fX5_readName_40, ↓fX5_readName_41, ↓fX5_readName_44, ↓fX5_readName_45, ↓fX5_readName_48, ↓fX5_readName_49, ↓fX5_readName_52, ↓fX5_readName_55, ↓fX5_readName_58, ↓fX5_readName_59, ↓fX5_readName_60, ↓fX5_readName_63, ↓fX5_readName_64, ↓fX5_readName_67, ↓fX5_readName_71, ↓fX5_readName_74, ↓fX5_readName_75, ↓fX5_readName_78, ↓fX5_readName_79, ↓fX5_readName_82, ↓fX5_readName_83, ↓fX5_readName_84, ↓fX5_readName_87, ↓fX5_readName_90, ↓fX5_readName_91, ↓fX5_readName_94, ↓fX5_readName_95, ↓fX5_readName_98, ↓fX5_readName_99, ↓fX5_readName_102, ↓fX5_readName_103, ↓fX5_readName_104, ↓fX5_readName_107, ↓fX5_readName_110, ↓fX5_readName_111, ↓fX5_readName_114, ↓fX5_readName_115, h6, and_self, true_and, and_true, false_and, and_false, not_true_eq_false, not_false_eq_true, or_self, true_or, or_true, false_or, or_false, ite_not, Decidable.not_not, decide_eq_true_eq, Bool.not_true, Bool.not_false, Bool.false_eq_true, Bool.not_eq_true, n10, n20, n21, n30, n31, n32, n40, n41, n42, n43, ↓reduceIte]
def nmG (G : Nat → Nat → Int) (D c : Nat) (s e : Int) : Nat → Nat → Int := u2 (u2 G (D + 4) c s) (D + 5) c e
theorem nmG_q {q : Nat} {s e : Int} (h : q ≠ D + 4) (h2 : q ≠ D + 5) : nmG G D c s e q = G q := (u2_a _ _ _ _ h2).trans (u2_a _ _ _ _ h)
theorem PS_nm {s e : Int} (h : PS E r G D B n T) : PS E r (nmG G D c s e) D B n T := PS_c h (fun x x1 x2 => nmG_q (by omega) (by omega)) (by rw [nmG_q (by omega) (by omega)]; exact ⟨rfl, rfl, rfl, rfl, rfl⟩)
theorem PS_readName (h : PS E r G D B n T) (hc : G D 10 + G D 12 = c) (hc7 : c ≤ 6) (hN : ∀ i, i < c → (0 ≤ G (D + 4) i ∧ G (D + 4) i ≤ 1000) ∧ (0 ≤ G (D + 5) i ∧ G (D + 5) i ≤ 1000)) :
    RK MX5_readName 0 [.ref D, jk] [] (0, 0) (E, zg G, zk L, r) Q = if T.1 = 2 ∧ resT B T = false then (if hasN B T (G (D + 4)) (G (D + 5)) c = true then Q (E, zg (faG G D 4 T.2.1), zk L, r) (.int (zi 0)) else Q (E, zg (seT (nmG G D c T.2.1 T.2.2.1) D (nxT B n T.2.2.1)), zk L, r) (.int (zi 1))) else Q (E, zg (faG G D (unK T) T.2.1), zk L, r) (.int (zi 0)) := by
  obtain ⟨h0, ⟨h1, h2, h3, h4, h5⟩, ⟨l1, l2, l3, l4, l5⟩, ⟨r0, r2, r4, r5, r6⟩, -⟩ := id h.1
  obtain ⟨e5, e6, e7, e8⟩ := h.2.2.2.2.2.1
  have hr := h.2.2.2.2.2.2.1
  by_cases c1 : T.1 = 2
  · have c1' : G D 5 = 2 := by omega
    cases c2 : resT B T
    · rw [if_pos ⟨c1, rfl⟩]
      have lp := name_loop (L := L) (Q := Q) h hc hc7 hN 7 0 (by omega) (by omega)
      have lp' : RK MX5_readName 22 [.ref D, .int (zi 0)] [] (0, 0) (E, zg G, zk L, r) Q = _ := lp
      have e0 : RK MX5_readName 0 [.ref D, jk] [] (0, 0) (E, zg G, zk L, r) Q = RK MX5_readName 22 [.ref D, .int (zi 0)] [] (0, 0) (E, zg G, zk L, r) Q := by
        simp (disch := first | assumption | exact c2_int _ | exact c2_ref _ | exact c2_jk | exact c2_null | omega | (apply rN1; assumption) | (apply rN2; assumption) | (apply rN3; assumption) | (apply rN4; assumption) | exact bI_r _ | exact bI_01 _) only [↓fX5_readName_0, ↓fX5_readName_1, ↓fX5_readName_4, ↓fX5_readName_5, ↓fX5_readName_8, ↓fX5_readName_9, ↓fX5_readName_12, ↓fX5_readName_15, ↓fX5_readName_16, ↓fX5_readName_19, ↓fX5_readName_20, ↓fX5_readName_21, ↓fX5_readName_23, ↓fX5_readName_24, ↓fX5_readName_27, ↓fX5_readName_28, ↓fX5_readName_31, ↓fX5_readName_32, ↓fX5_readName_35, ↓fX5_readName_36, ↓fX5_readName_37, ↓fX5_readName_40, ↓fX5_readName_41, ↓fX5_readName_44, ↓fX5_readName_45, ↓fX5_readName_48, ↓fX5_readName_49, ↓fX5_readName_52, ↓fX5_readName_55, ↓fX5_readName_58, ↓fX5_readName_59, ↓fX5_readName_60, ↓fX5_readName_63, ↓fX5_readName_64, ↓fX5_readName_67, ↓fX5_readName_70, ↓fX5_readName_71, ↓fX5_readName_74, ↓fX5_readName_75, ↓fX5_readName_78, ↓fX5_readName_79, ↓fX5_readName_82, ↓fX5_readName_83, ↓fX5_readName_84, ↓fX5_readName_87, ↓fX5_readName_90, ↓fX5_readName_91, ↓fX5_readName_94, ↓fX5_readName_95, ↓fX5_readName_98, ↓fX5_readName_99, ↓fX5_readName_102, ↓fX5_readName_103, ↓fX5_readName_104, ↓fX5_readName_107, ↓fX5_readName_110, ↓fX5_readName_111, ↓fX5_readName_114, ↓fX5_readName_115, ↓PS_reserved h, bI_0, c1', c2, and_self, true_and, and_true, false_and, and_false, not_true_eq_false, not_false_eq_true, or_self, true_or, or_true, false_or, or_false, ite_not, Decidable.not_not, decide_eq_true_eq, Bool.not_true, Bool.not_false, Bool.false_eq_true, Bool.not_eq_true, n10, n20, n21, n30, n31, n32, n40, n41, n42, n43, ↓reduceIte]
      rw [e0, lp']
      by_cases q : hasN B T (G (D + 4)) (G (D + 5)) c = true
      · obtain ⟨j, j1, j2⟩ := of_decide_eq_true q
        rw [if_pos q, if_pos ⟨j, j1, Nat.zero_le _, j2⟩]
      · rw [if_neg q, if_neg (fun ⟨j, j1, _, j2⟩ => q (decide_eq_true ⟨j, j1, j2⟩))]
        have a1 : ∀ Q, RK MX9_put 0 [.ref (D + 4), .int (zi (G D 10 + G D 12)), .int (zi (G D 6))] [] (0, 0) (E, zg G, zk L, r) Q = Q (E, zg (u2 G (D + 4) c T.2.1), zk L, r) .null := fun Q => by
          rw [hc, e6, c9_put h4 (by omega) (by omega), if_pos (by omega), Int.toNat_natCast]
        have a2 : ∀ Q, RK MX9_put 0 [.ref (D + 5), .int (zi (u2 G (D + 4) c T.2.1 D 10 + u2 G (D + 4) c T.2.1 D 12)), .int (zi (u2 G (D + 4) c T.2.1 D 7))] [] (0, 0) (E, zg (u2 G (D + 4) c T.2.1), zk L, r) Q = Q (E, zg (nmG G D c T.2.1 T.2.2.1), zk L, r) .null := fun Q => by
          rw [u2_a _ _ _ _ (by omega), hc, e7, c9_put h5 (by omega) (by omega), if_pos (by omega), Int.toNat_natCast]
          rfl
        have a3 := fun Q => PS_look (L := L) (Q := Q) (PS_nm (c := c) (s := T.2.1) (e := T.2.2.1) h)
        simp (disch := first | assumption | exact c2_int _ | exact c2_ref _ | exact c2_jk | exact c2_null | omega | (apply rN1; assumption) | (apply rN2; assumption) | (apply rN3; assumption) | (apply rN4; assumption) | exact bI_r _ | exact bI_01 _) only [↓fX5_readName_0, ↓fX5_readName_1, ↓fX5_readName_4, ↓fX5_readName_5, ↓fX5_readName_8, ↓fX5_readName_9, ↓fX5_readName_12, ↓fX5_readName_15, ↓fX5_readName_16, ↓fX5_readName_19, ↓fX5_readName_20, ↓fX5_readName_21, ↓fX5_readName_23, ↓fX5_readName_24, ↓fX5_readName_27, ↓fX5_readName_28, ↓fX5_readName_31, ↓fX5_readName_32, ↓fX5_readName_35, ↓fX5_readName_36, ↓fX5_readName_37, ↓fX5_readName_40, ↓fX5_readName_41, ↓fX5_readName_44, ↓fX5_readName_45, ↓fX5_readName_48, ↓fX5_readName_49, ↓fX5_readName_52, ↓fX5_readName_55, ↓fX5_readName_58, ↓fX5_readName_59, ↓fX5_readName_60, ↓fX5_readName_63, ↓fX5_readName_64, ↓fX5_readName_67, ↓fX5_readName_70, ↓fX5_readName_71, ↓fX5_readName_74, ↓fX5_readName_75, ↓fX5_readName_78, ↓fX5_readName_79, ↓fX5_readName_82, ↓fX5_readName_83, ↓fX5_readName_84, ↓fX5_readName_87, ↓fX5_readName_90, ↓fX5_readName_91, ↓fX5_readName_94, ↓fX5_readName_95, ↓fX5_readName_98, ↓fX5_readName_99, ↓fX5_readName_102, ↓fX5_readName_103, ↓fX5_readName_104, ↓fX5_readName_107, ↓fX5_readName_110, ↓fX5_readName_111, ↓fX5_readName_114, ↓fX5_readName_115, ↓a1, ↓a2, ↓a3, and_self, true_and, and_true, false_and, and_false, not_true_eq_false, not_false_eq_true, or_self, true_or, or_true, false_or, or_false, ite_not, Decidable.not_not, decide_eq_true_eq, Bool.not_true, Bool.not_false, Bool.false_eq_true, Bool.not_eq_true, n10, n20, n21, n30, n31, n32, n40, n41, n42, n43, ↓reduceIte]
    · rw [if_neg (fun z => absurd z.2 (by decide))]
      simp (disch := first | assumption | exact c2_int _ | exact c2_ref _ | exact c2_jk | exact c2_null | omega | (apply rN1; assumption) | (apply rN2; assumption) | (apply rN3; assumption) | (apply rN4; assumption) | exact bI_r _ | exact bI_01 _) only [↓fX5_readName_0, ↓fX5_readName_1, ↓fX5_readName_4, ↓fX5_readName_5, ↓fX5_readName_8, ↓fX5_readName_9, ↓fX5_readName_12, ↓fX5_readName_15, ↓fX5_readName_16, ↓fX5_readName_19, ↓fX5_readName_20, ↓fX5_readName_21, ↓fX5_readName_23, ↓fX5_readName_24, ↓fX5_readName_27, ↓fX5_readName_28, ↓fX5_readName_31, ↓fX5_readName_32, ↓fX5_readName_35, ↓fX5_readName_36, ↓fX5_readName_37, ↓fX5_readName_40, ↓fX5_readName_41, ↓fX5_readName_44, ↓fX5_readName_45, ↓fX5_readName_48, ↓fX5_readName_49, ↓fX5_readName_52, ↓fX5_readName_55, ↓fX5_readName_58, ↓fX5_readName_59, ↓fX5_readName_60, ↓fX5_readName_63, ↓fX5_readName_64, ↓fX5_readName_67, ↓fX5_readName_70, ↓fX5_readName_71, ↓fX5_readName_74, ↓fX5_readName_75, ↓fX5_readName_78, ↓fX5_readName_79, ↓fX5_readName_82, ↓fX5_readName_83, ↓fX5_readName_84, ↓fX5_readName_87, ↓fX5_readName_90, ↓fX5_readName_91, ↓fX5_readName_94, ↓fX5_readName_95, ↓fX5_readName_98, ↓fX5_readName_99, ↓fX5_readName_102, ↓fX5_readName_103, ↓fX5_readName_104, ↓fX5_readName_107, ↓fX5_readName_110, ↓fX5_readName_111, ↓fX5_readName_114, ↓fX5_readName_115, ↓PS_reserved h, ↓PS_unexpected h, bI_0, c1', c2, and_self, true_and, and_true, false_and, and_false, not_true_eq_false, not_false_eq_true, or_self, true_or, or_true, false_or, or_false, ite_not, Decidable.not_not, decide_eq_true_eq, Bool.not_true, Bool.not_false, Bool.false_eq_true, Bool.not_eq_true, n10, n20, n21, n30, n31, n32, n40, n41, n42, n43, ↓reduceIte]
  · have c1' : ¬ G D 5 = 2 := by omega
    rw [if_neg (fun z => c1 z.1)]
    simp (disch := first | assumption | exact c2_int _ | exact c2_ref _ | exact c2_jk | exact c2_null | omega | (apply rN1; assumption) | (apply rN2; assumption) | (apply rN3; assumption) | (apply rN4; assumption) | exact bI_r _ | exact bI_01 _) only [↓fX5_readName_0, ↓fX5_readName_1, ↓fX5_readName_4, ↓fX5_readName_5, ↓fX5_readName_8, ↓fX5_readName_9, ↓fX5_readName_12, ↓fX5_readName_15, ↓fX5_readName_16, ↓fX5_readName_19, ↓fX5_readName_20, ↓fX5_readName_21, ↓fX5_readName_23, ↓fX5_readName_24, ↓fX5_readName_27, ↓fX5_readName_28, ↓fX5_readName_31, ↓fX5_readName_32, ↓fX5_readName_35, ↓fX5_readName_36, ↓fX5_readName_37, ↓fX5_readName_40, ↓fX5_readName_41, ↓fX5_readName_44, ↓fX5_readName_45, ↓fX5_readName_48, ↓fX5_readName_49, ↓fX5_readName_52, ↓fX5_readName_55, ↓fX5_readName_58, ↓fX5_readName_59, ↓fX5_readName_60, ↓fX5_readName_63, ↓fX5_readName_64, ↓fX5_readName_67, ↓fX5_readName_70, ↓fX5_readName_71, ↓fX5_readName_74, ↓fX5_readName_75, ↓fX5_readName_78, ↓fX5_readName_79, ↓fX5_readName_82, ↓fX5_readName_83, ↓fX5_readName_84, ↓fX5_readName_87, ↓fX5_readName_90, ↓fX5_readName_91, ↓fX5_readName_94, ↓fX5_readName_95, ↓fX5_readName_98, ↓fX5_readName_99, ↓fX5_readName_102, ↓fX5_readName_103, ↓fX5_readName_104, ↓fX5_readName_107, ↓fX5_readName_110, ↓fX5_readName_111, ↓fX5_readName_114, ↓fX5_readName_115, ↓PS_unexpected h, c1', and_self, true_and, and_true, false_and, and_false, not_true_eq_false, not_false_eq_true, or_self, true_or, or_true, false_or, or_false, ite_not, Decidable.not_not, decide_eq_true_eq, Bool.not_true, Bool.not_false, Bool.false_eq_true, Bool.not_eq_true, n10, n20, n21, n30, n31, n32, n40, n41, n42, n43, ↓reduceIte]
end BS
