/-! The pure parser's pieces; readFixed, readTold. -/
abbrev ER : Type := Int × Int × Int × Int × Int
def rdNum (B : Int → Int) (n lo hi : Int) (T : Int × Int × Int × Int) : Except ER (Int × Int × Int × Int × Int) := if T.1 = 3 then (if lo ≤ T.2.2.2 ∧ T.2.2.2 ≤ hi then .ok (T.2.2.2, nxT B n T.2.2.1) else .error (3, T)) else .error (unK T, T)
def rdWord (B : Int → Int) (n : Int) (i : Nat) (T : Int × Int × Int × Int) : Except ER (Int × Int × Int × Int) := if isT B T (wdL i) = true then .ok (nxT B n T.2.2.1) else .error (unK T, T)
def rdSign (B : Int → Int) (n : Int) (T : Int × Int × Int × Int) : Except ER (Int × Int × Int × Int) := if T.1 = 4 then .ok (nxT B n T.2.2.1) else .error (unK T, T)
def rdFix (B : Int → Int) (n : Int) (T : Int × Int × Int × Int) : Except ER (Int × Int × Int × Int × Int × Int) :=
  match rdNum B n 2 99 T with
  | .error e => .error e
  | .ok (g, T1) => match rdWord B n 147 T1 with
    | .error e => .error e
    | .ok T2 => match rdNum B n 1 60 T2 with
      | .error e => .error e
      | .ok (m, T3) => .ok (g, m, T3)
section BS
variable {E : AE} {G G' L : Nat → Nat → Int} {r : Nat → Nat → Option Nat} {h : AH} {Q : AH → Value → Prop} {D S a c : Nat} {w : List Int} {i v x b u s e t n lo hi : Int} {B : Int → Int} {T T' : Int × Int × Int × Int}
theorem seT_id (h : PS E r G D B n T) : seT G D T = G := by
  obtain ⟨h5, h6, h7, h8⟩ := h.2.2.2.2.2.1
  unfold seT
  rw [← h5, ← h6, ← h7, ← h8]
  exact fD_id
theorem seT_seT : seT (seT G D T) D T' = seT G D T' := by
  funext a j
  simp only [seT, fD]
  by_cases ha : a = D
  · subst ha
    simp only [if_true]
    by_cases h5 : j = 5
    · simp only [h5, if_true]
    · by_cases h6 : j = 6
      · simp only [h6, if_true]
      · by_cases h7 : j = 7
        · simp only [h7, if_true]
        · by_cases h8 : j = 8
          · simp only [h8, if_true]
          · simp only [h5, h6, h7, h8, if_false]
  · simp only [ha, if_false]
theorem seT_q {q : Nat} (h : q ≠ D) : seT G D T q = G q := fD_q h
theorem seT_j {j : Nat} (h : j < 5 ∨ 8 < j) : seT G D T D j = G D j := fD_j h
theorem PS_num (h : PS E r G D B n T) (h1 : I32 lo) (h2 : I32 hi) :
    (∃ v T1, rdNum B n lo hi T = .ok (v, T1) ∧ (lo ≤ v ∧ v ≤ hi) ∧ PS E r (seT G D T1) D B n T1 ∧ ∀ Q, RK MX5_readNumber 0 [.ref D, .int (zi lo), .int (zi hi), jk] [] (0, 0) (E, zg G, zk L, r) Q = Q (E, zg (seT G D T1), zk L, r) (.int (zi v))) ∨ (∃ k T', rdNum B n lo hi T = .error (k, T') ∧ ∀ Q, RK MX5_readNumber 0 [.ref D, .int (zi lo), .int (zi hi), jk] [] (0, 0) (E, zg G, zk L, r) Q = Q (E, zg (faG (seT G D T') D k T'.2.1), zk L, r) (.int (zi (-1)))) := by
  unfold rdNum
  by_cases c : T.1 = 3
  · rw [if_pos c]
    by_cases d : lo ≤ T.2.2.2 ∧ T.2.2.2 ≤ hi
    · rw [if_pos d]
      exact Or.inl ⟨_, _, rfl, d, PS_se h (PS_nx h), fun Q => by rw [PS_readNumber h h1 h2, if_pos c, if_pos d]⟩
    · rw [if_neg d]
      exact Or.inr ⟨_, _, rfl, fun Q => by rw [PS_readNumber h h1 h2, if_pos c, if_neg d, seT_id h]⟩
  · rw [if_neg c]
    exact Or.inr ⟨_, _, rfl, fun Q => by rw [PS_readNumber h h1 h2, if_neg c, seT_id h]⟩
theorem PS_word (h : PS E r G D B n T) (i : Nat) (hi : i ∈ stT) :
    (∃ T1, rdWord B n i T = .ok T1 ∧ PS E r (seT G D T1) D B n T1 ∧ ∀ Q, RK MX5_readWord 0 [.ref D, .ref (E.2.2 i)] [] (0, 0) (E, zg G, zk L, r) Q = Q (E, zg (seT G D T1), zk L, r) (.int (zi 1))) ∨ (∃ k T', rdWord B n i T = .error (k, T') ∧ ∀ Q, RK MX5_readWord 0 [.ref D, .ref (E.2.2 i)] [] (0, 0) (E, zg G, zk L, r) Q = Q (E, zg (faG (seT G D T') D k T'.2.1), zk L, r) (.int (zi 0))) := by
  unfold rdWord
  by_cases c : isT B T (wdL i) = true
  · rw [if_pos c]
    exact Or.inl ⟨_, rfl, PS_se h (PS_nx h), fun Q => by rw [PS_readWord h i hi, if_pos c]⟩
  · rw [if_neg c]
    exact Or.inr ⟨_, _, rfl, fun Q => by rw [PS_readWord h i hi, if_neg c, seT_id h]⟩
theorem PS_sign (h : PS E r G D B n T) :
    (∃ T1, rdSign B n T = .ok T1 ∧ PS E r (seT G D T1) D B n T1 ∧ ∀ Q, RK MX5_readSign 0 [.ref D] [] (0, 0) (E, zg G, zk L, r) Q = Q (E, zg (seT G D T1), zk L, r) (.int (zi 1))) ∨ (∃ k T', rdSign B n T = .error (k, T') ∧ ∀ Q, RK MX5_readSign 0 [.ref D] [] (0, 0) (E, zg G, zk L, r) Q = Q (E, zg (faG (seT G D T') D k T'.2.1), zk L, r) (.int (zi 0))) := by
  unfold rdSign
  by_cases c : T.1 = 4
  · rw [if_pos c]
    exact Or.inl ⟨_, rfl, PS_se h (PS_nx h), fun Q => by rw [PS_readSign h, if_pos c]⟩
  · rw [if_neg c]
    exact Or.inr ⟨_, _, rfl, fun Q => by rw [PS_readSign h, if_neg c, seT_id h]⟩
def fxG (G : Nat → Nat → Int) (S : Nat) (g m : Int) : Nat → Nat → Int := u2 (u2 G (S + 1) 0 g) S 4 m
theorem PS_fixed (h : PS E r G D B n T) (hs : shS E r S) (hS : D + 5 < S) :
    (∃ g m T1, rdFix B n T = .ok (g, m, T1) ∧ (2 ≤ g ∧ g ≤ 99) ∧ (1 ≤ m ∧ m ≤ 60) ∧ PS E r (fxG (seT G D T1) S g m) D B n T1 ∧ ∀ Q, RK MX5_readFixed 0 [.ref D, .ref S, jk, jk] [] (0, 0) (E, zg G, zk L, r) Q = Q (E, zg (fxG (seT G D T1) S g m), zk L, r) (.int (zi 1))) ∨ (∃ k T', rdFix B n T = .error (k, T') ∧ ∀ Q, RK MX5_readFixed 0 [.ref D, .ref S, jk, jk] [] (0, 0) (E, zg G, zk L, r) Q = Q (E, zg (faG (seT G D T') D k T'.2.1), zk L, r) (.int (zi 0))) := by
  have h0 := h.1.1
  unfold rdFix
  rcases PS_num (L := L) (lo := 2) (hi := 99) h (by omega) (by omega) with ⟨g, T1, a1, a2, a3, a4⟩ | ⟨k, T', a1, a2⟩
  · rw [a1]
    have g9 : I32 g := by omega
    have gm : ¬ g = -1 := by omega
    rcases PS_word (L := L) a3 147 (by decide) with ⟨T2, b1, b2, b3⟩ | ⟨k, T', b1, b2⟩
    · simp only [b1]
      rw [seT_seT] at b2 b3
      rcases PS_num (L := L) (lo := 1) (hi := 60) b2 (by omega) (by omega) with ⟨m, T3, c1, c2, c3, c4⟩ | ⟨k, T', c1, c2⟩
      · simp only [c1]
        rw [seT_seT] at c3 c4
        have m9 : I32 m := by omega
        have mm : ¬ m = -1 := by omega
        obtain ⟨s0, ⟨s1, s2, s3, s4, s5⟩, ⟨l1, l2, l3, l4, l5⟩, r1, r2, r3, r4, r5⟩ := id hs
        have pp : ∀ Q, RK MX9_put 0 [.ref (S + 1), .int (zi 0), .int (zi g)] [] (0, 0) (E, zg (seT G D T3), zk L, r) Q = Q (E, zg (u2 (seT G D T3) (S + 1) 0 g), zk L, r) .null := fun Q => by
          rw [c9_put s1 (by omega) (by omega), if_pos (by omega)]
          rfl
        refine Or.inl ⟨g, m, T3, rfl, a2, c2, PS_c c3 (fun x x1 x2 => ?_) ?_, fun Q => ?_⟩
        · unfold fxG
          rw [u2_a _ _ _ _ (by omega), u2_a _ _ _ _ (by omega)]
        · unfold fxG
          rw [u2_a _ _ _ _ (by omega), u2_a _ _ _ _ (by omega)]
          exact ⟨rfl, rfl, rfl, rfl, rfl⟩
        · unfold fxG
          simp (disch := first | assumption | exact c2_int _ | exact c2_ref _ | exact c2_jk | exact c2_null | omega | (apply rN1; assumption) | (apply rN2; assumption) | (apply rN3; assumption) | (apply rN4; assumption) | exact bI_r _ | exact bI_01 _) only [↓fX5_readFixed_0, ↓fX5_readFixed_1, ↓fX5_readFixed_2, ↓fX5_readFixed_4, ↓fX5_readFixed_7, ↓fX5_readFixed_8, ↓fX5_readFixed_9, ↓fX5_readFixed_10, ↓fX5_readFixed_13, ↓fX5_readFixed_14, ↓fX5_readFixed_16, ↓fX5_readFixed_19, ↓fX5_readFixed_22, ↓fX5_readFixed_23, ↓fX5_readFixed_24, ↓fX5_readFixed_25, ↓fX5_readFixed_26, ↓fX5_readFixed_28, ↓fX5_readFixed_31, ↓fX5_readFixed_32, ↓fX5_readFixed_33, ↓fX5_readFixed_34, ↓fX5_readFixed_37, ↓fX5_readFixed_38, ↓fX5_readFixed_39, ↓fX5_readFixed_39n, ↓fX5_readFixed_40, ↓fX5_readFixed_43, ↓fX5_readFixed_44, ↓fX5_readFixed_45, ↓fX5_readFixed_48, ↓fX5_readFixed_48n, ↓fX5_readFixed_49, ↓fX5_readFixed_50, ↓fX5_readFixed_53, ↓fX5_readFixed_54, ↓a4, ↓b3, ↓c4, ↓pp, gm, mm, and_self, true_and, and_true, false_and, and_false, not_true_eq_false, not_false_eq_true, or_self, true_or, or_true, false_or, or_false, ite_not, Decidable.not_not, decide_eq_true_eq, Bool.not_true, Bool.not_false, Bool.false_eq_true, Bool.not_eq_true, n10, n20, n21, n30, n31, n32, n40, n41, n42, n43, ↓reduceIte]
      · simp only [c1]
        rw [seT_seT] at c2
        refine Or.inr ⟨k, T', rfl, fun Q => ?_⟩
        simp (disch := first | assumption | exact c2_int _ | exact c2_ref _ | exact c2_jk | exact c2_null | omega | (apply rN1; assumption) | (apply rN2; assumption) | (apply rN3; assumption) | (apply rN4; assumption) | exact bI_r _ | exact bI_01 _) only [↓fX5_readFixed_0, ↓fX5_readFixed_1, ↓fX5_readFixed_2, ↓fX5_readFixed_4, ↓fX5_readFixed_7, ↓fX5_readFixed_8, ↓fX5_readFixed_9, ↓fX5_readFixed_10, ↓fX5_readFixed_13, ↓fX5_readFixed_14, ↓fX5_readFixed_16, ↓fX5_readFixed_19, ↓fX5_readFixed_22, ↓fX5_readFixed_23, ↓fX5_readFixed_24, ↓fX5_readFixed_25, ↓fX5_readFixed_26, ↓fX5_readFixed_28, ↓fX5_readFixed_31, ↓fX5_readFixed_32, ↓fX5_readFixed_33, ↓fX5_readFixed_34, ↓fX5_readFixed_37, ↓fX5_readFixed_38, ↓fX5_readFixed_39, ↓fX5_readFixed_39n, ↓fX5_readFixed_40, ↓fX5_readFixed_43, ↓fX5_readFixed_44, ↓fX5_readFixed_45, ↓fX5_readFixed_48, ↓fX5_readFixed_48n, ↓fX5_readFixed_49, ↓fX5_readFixed_50, ↓fX5_readFixed_53, ↓fX5_readFixed_54, ↓a4, ↓b3, ↓c2, gm, and_self, true_and, and_true, false_and, and_false, not_true_eq_false, not_false_eq_true, or_self, true_or, or_true, false_or, or_false, ite_not, Decidable.not_not, decide_eq_true_eq, Bool.not_true, Bool.not_false, Bool.false_eq_true, Bool.not_eq_true, n10, n20, n21, n30, n31, n32, n40, n41, n42, n43, ↓reduceIte]
    · simp only [b1]
      rw [seT_seT] at b2
      refine Or.inr ⟨k, T', rfl, fun Q => ?_⟩
      simp (disch := first | assumption | exact c2_int _ | exact c2_ref _ | exact c2_jk | exact c2_null | omega | (apply rN1; assumption) | (apply rN2; assumption) | (apply rN3; assumption) | (apply rN4; assumption) | exact bI_r _ | exact bI_01 _) only [↓fX5_readFixed_0, ↓fX5_readFixed_1, ↓fX5_readFixed_2, ↓fX5_readFixed_4, ↓fX5_readFixed_7, ↓fX5_readFixed_8, ↓fX5_readFixed_9, ↓fX5_readFixed_10, ↓fX5_readFixed_13, ↓fX5_readFixed_14, ↓fX5_readFixed_16, ↓fX5_readFixed_19, ↓fX5_readFixed_22, ↓fX5_readFixed_23, ↓fX5_readFixed_24, ↓fX5_readFixed_25, ↓fX5_readFixed_26, ↓fX5_readFixed_28, ↓fX5_readFixed_31, ↓fX5_readFixed_32, ↓fX5_readFixed_33, ↓fX5_readFixed_34, ↓fX5_readFixed_37, ↓fX5_readFixed_38, ↓fX5_readFixed_39, ↓fX5_readFixed_39n, ↓fX5_readFixed_40, ↓fX5_readFixed_43, ↓fX5_readFixed_44, ↓fX5_readFixed_45, ↓fX5_readFixed_48, ↓fX5_readFixed_48n, ↓fX5_readFixed_49, ↓fX5_readFixed_50, ↓fX5_readFixed_53, ↓fX5_readFixed_54, ↓a4, ↓b2, gm, and_self, true_and, and_true, false_and, and_false, not_true_eq_false, not_false_eq_true, or_self, true_or, or_true, false_or, or_false, ite_not, Decidable.not_not, decide_eq_true_eq, Bool.not_true, Bool.not_false, Bool.false_eq_true, Bool.not_eq_true, n10, n20, n21, n30, n31, n32, n40, n41, n42, n43, ↓reduceIte]
  · rw [a1]
    refine Or.inr ⟨k, T', rfl, fun Q => ?_⟩
    simp (disch := first | assumption | exact c2_int _ | exact c2_ref _ | exact c2_jk | exact c2_null | omega | (apply rN1; assumption) | (apply rN2; assumption) | (apply rN3; assumption) | (apply rN4; assumption) | exact bI_r _ | exact bI_01 _) only [↓fX5_readFixed_0, ↓fX5_readFixed_1, ↓fX5_readFixed_2, ↓fX5_readFixed_4, ↓fX5_readFixed_7, ↓fX5_readFixed_8, ↓fX5_readFixed_9, ↓fX5_readFixed_10, ↓fX5_readFixed_13, ↓fX5_readFixed_14, ↓fX5_readFixed_16, ↓fX5_readFixed_19, ↓fX5_readFixed_22, ↓fX5_readFixed_23, ↓fX5_readFixed_24, ↓fX5_readFixed_25, ↓fX5_readFixed_26, ↓fX5_readFixed_28, ↓fX5_readFixed_31, ↓fX5_readFixed_32, ↓fX5_readFixed_33, ↓fX5_readFixed_34, ↓fX5_readFixed_37, ↓fX5_readFixed_38, ↓fX5_readFixed_39, ↓fX5_readFixed_39n, ↓fX5_readFixed_40, ↓fX5_readFixed_43, ↓fX5_readFixed_44, ↓fX5_readFixed_45, ↓fX5_readFixed_48, ↓fX5_readFixed_48n, ↓fX5_readFixed_49, ↓fX5_readFixed_50, ↓fX5_readFixed_53, ↓fX5_readFixed_54, ↓a2, and_self, true_and, and_true, false_and, and_false, not_true_eq_false, not_false_eq_true, or_self, true_or, or_true, false_or, or_false, ite_not, Decidable.not_not, decide_eq_true_eq, Bool.not_true, Bool.not_false, Bool.false_eq_true, Bool.not_eq_true, n10, n20, n21, n30, n31, n32, n40, n41, n42, n43, ↓reduceIte]
end BS
