/-! The reader: the pure parser's tokens (token, start, end, value), the small readers. -/
def nxT (B : Int → Int) (n e : Int) : Int × Int × Int × Int := ((tkT B n (bgT B n e)).1, bgT B n e, (tkT B n (bgT B n e)).2.1, (tkT B n (bgT B n e)).2.2)
def seT (G : Nat → Nat → Int) (D : Nat) (T : Int × Int × Int × Int) : Nat → Nat → Int := fD G D T.2.1 T.2.2.1 T.1 T.2.2.2
def isT (B : Int → Int) (T : Int × Int × Int × Int) (w : List Int) : Bool := decide (T.1 = 2 ∧ T.2.2.1 - T.2.1 = w.length ∧ ∀ j, j < w.length → B (T.2.1 + j) = w.getD j 0)
def lawT (B : Int → Int) (T : Int × Int × Int × Int) : Int := if isT B T (wdL 135) = true then 0 else if isT B T (wdL 137) = true then 1 else if isT B T (wdL 139) = true then 2 else if isT B T (wdL 141) = true then 3 else if isT B T (wdL 143) = true then 4 else if isT B T (wdL 145) = true then 5 else -1
def resT (B : Int → Int) (T : Int × Int × Int × Int) : Bool := decide (lawT B T ≠ -1) || isT B T (wdL 75) || isT B T (wdL 104) || isT B T (wdL 113) || isT B T (wdL 115) || isT B T (wdL 147) || isT B T (wdL 85)
def smT (B : Int → Int) (T : Int × Int × Int × Int) (s e : Int) : Bool := decide (T.2.2.1 - T.2.1 = e - s ∧ ∀ j : Nat, j < (T.2.2.1 - T.2.1).toNat → B (T.2.1 + j) = B (s + j))
def TR (n : Int) (T : Int × Int × Int × Int) : Prop := (0 ≤ T.1 ∧ T.1 ≤ 4) ∧ (0 ≤ T.2.1 ∧ T.2.1 ≤ n) ∧ (0 ≤ T.2.2.1 ∧ T.2.2.1 ≤ n) ∧ (0 ≤ T.2.2.2 ∧ T.2.2.2 ≤ 9999)
/-- what stands in the reader -/
def PS (E : AE) (r : Nat → Nat → Option Nat) (G : Nat → Nat → Int) (D : Nat) (B : Int → Int) (n : Int) (T : Int × Int × Int × Int) : Prop := shD E r D ∧ rgB G D ∧ kStr E G D ∧ bD G D = B ∧ G D 2 = n ∧ (G D 5 = T.1 ∧ G D 6 = T.2.1 ∧ G D 7 = T.2.2.1 ∧ G D 8 = T.2.2.2) ∧ TR n T
def faG (G : Nat → Nat → Int) (D : Nat) (k s : Int) : Nat → Nat → Int := u2 (u2 G D 3 k) D 4 s
def unK (T : Int × Int × Int × Int) : Int := if T.1 = 0 then 1 else 2
section BS
variable {E : AE} {G G' L : Nat → Nat → Int} {r : Nat → Nat → Option Nat} {h : AH} {Q : AH → Value → Prop} {D a : Nat} {w : List Int} {i v x b u s e t n lo hi : Int} {B : Int → Int} {T T' : Int × Int × Int × Int}
theorem nmL_b (B : Int → Int) (n s : Int) : ∀ (k : Nat) (i v : Int), s ≤ i → 0 ≤ v → (v < if i = s then 1 else if i = s + 1 then 10 else if i = s + 2 then 100 else if i = s + 3 then 1000 else 10000) → 0 ≤ nmL B n s k i v ∧ nmL B n s k i v ≤ 9999 := by
  intro k
  induction k with
  | zero =>
    intro i v h1 h2 h3
    unfold nmL
    refine ⟨h2, ?_⟩
    revert h3
    repeat (first | omega | split)
  | succ k ih =>
    intro i v h1 h2 h3
    unfold nmL
    by_cases c : i < n ∧ dgt (B i) = true
    · rw [if_pos c]
      have d := of_decide_eq_true c.2
      apply ih
      · omega
      · split <;> omega
      · revert h3
        by_cases y : i - s < 4
        · rw [if_pos y, if_neg (show ¬ i + 1 = s by omega)]
          repeat (first | omega | split)
        · rw [if_neg y]
          repeat (first | omega | split)
    · rw [if_neg c]
      refine ⟨h2, ?_⟩
      revert h3
      repeat (first | omega | split)
theorem bD_n (hg : rgB G D) (hb : bD G D s ≠ -1) : 0 ≤ s ∧ s < G D 2 := by
  unfold bD at hb
  by_cases c : 0 ≤ s ∧ s < G D 2 ∧ s < 600
  · omega
  · rw [if_neg c] at hb
    exact absurd rfl hb
theorem nxT_TR (hg : rgB G D) (he : 0 ≤ e ∧ e ≤ G D 2) : TR (G D 2) (nxT (bD G D) (G D 2) e) := by
  have b1 := spL_b (fun i => blk (bD G D i)) (G D 2) 600 e
  have hs : 0 ≤ bgT (bD G D) (G D 2) e ∧ bgT (bD G D) (G D 2) e ≤ G D 2 := by
    unfold bgT
    omega
  unfold TR nxT
  generalize bgT (bD G D) (G D 2) e = s at hs ⊢
  have hn := bD_n (s := s) hg
  have b2 := spL_b (fun i => ltr (bD G D i)) (G D 2) 600 s
  have b3 := spL_b (fun i => dgt (bD G D i)) (G D 2) 600 s
  have b4 := nmL_b (bD G D) (G D 2) s 600 s 0 (Int.le_refl _) (Int.le_refl _) (by rw [if_pos rfl]; decide)
  have z9 : (0 : Int) ≤ 0 ∧ (0 : Int) ≤ 9999 := by decide
  have k0 : (0 : Int) ≤ 0 ∧ (0 : Int) ≤ 4 := by decide
  have k1 : (0 : Int) ≤ 1 ∧ (1 : Int) ≤ 4 := by decide
  have k4 : (0 : Int) ≤ 4 ∧ (4 : Int) ≤ 4 := by decide
  unfold tkT
  by_cases q1 : bD G D s = -1
  · rw [if_pos q1]
    exact ⟨k1, hs, hs, z9⟩
  · rw [if_neg q1]
    have q1' := hn q1
    by_cases q2 : bD G D s = 59
    · rw [if_pos q2]
      refine ⟨k4, hs, ?_, z9⟩
      show 0 ≤ s + 1 ∧ s + 1 ≤ _
      omega
    · rw [if_neg q2]
      by_cases q3 : ltr (bD G D s) = true
      · rw [if_pos q3]
        refine ⟨?_, hs, ?_, z9⟩
        · show 0 ≤ (if _ then (2 : Int) else 0) ∧ (if _ then (2 : Int) else 0) ≤ 4
          split <;> omega
        · show 0 ≤ spL _ _ _ _ ∧ spL _ _ _ _ ≤ _
          omega
      · rw [if_neg q3]
        by_cases q4 : dgt (bD G D s) = true
        · rw [if_pos q4]
          refine ⟨?_, hs, ?_, b4⟩
          · show 0 ≤ (if _ then (3 : Int) else 0) ∧ (if _ then (3 : Int) else 0) ≤ 4
            split <;> omega
          · show 0 ≤ spL _ _ _ _ ∧ spL _ _ _ _ ≤ _
            omega
        · rw [if_neg q4]
          exact ⟨k0, hs, hs, z9⟩
theorem PS_n (h : PS E r G D B n T) : 0 ≤ n ∧ n ≤ 600 := by
  obtain ⟨-, h1, -, -, h2, -⟩ := h
  rw [← h2]
  exact h1.1
theorem PS_nx (h : PS E r G D B n T) : TR n (nxT B n T.2.2.1) := by
  obtain ⟨h0, h1, h2, h3, h4, h5, h6⟩ := h
  rw [← h3, ← h4]
  exact nxT_TR h1 (by rw [h4]; exact h6.2.2.1)
theorem PS_se (h : PS E r G D B n T) (ht : TR n T') : PS E r (seT G D T') D B n T' := by
  obtain ⟨h0, h1, h2, h3, h4, h5, h6⟩ := h
  refine ⟨h0, rgB_f h1, kStr_c h2 fun x hx _ => by rw [seT, fD_q (by omega)], fD_b.trans h3, (fD_j (by omega)).trans h4, ⟨fD_5, fD_6, fD_7, fD_8⟩, ht⟩
theorem PS_look (h : PS E r G D B n T) : RK MX5_look 0 [.ref D, jk] [] (0, 0) (E, zg G, zk L, r) Q = Q (E, zg (seT G D (nxT B n T.2.2.1)), zk L, r) .null := by
  have hn := PS_n h
  obtain ⟨h0, h1, h2, h3, h4, h5, h6⟩ := h
  rw [c5_look h0 h1 (by rw [h5.2.2.1]; exact ⟨h6.2.2.1.1, by have := h6.2.2.1.2; omega⟩), ← h3, ← h4, ← h5.2.2.1]
  rfl
theorem PS_isW (h : PS E r G D B n T) (w : List Int) : isW G D w = isT B T w := by
  obtain ⟨h0, h1, h2, h3, h4, h5, h6⟩ := h
  unfold isW isT
  rw [h3, h5.1, h5.2.1, h5.2.2.1]
theorem PS_law (h : PS E r G D B n T) : lawW G D = lawT B T := by
  unfold lawW lawT
  simp only [PS_isW h]
theorem PS_res (h : PS E r G D B n T) : resW G D = resT B T := by
  unfold resW resT
  simp only [PS_isW h, PS_law h]
theorem PS_r (h : PS E r G D B n T) : (0 ≤ G D 6 ∧ G D 6 ≤ 1000) ∧ (0 ≤ G D 7 ∧ G D 7 ≤ 1000) ∧ (0 ≤ G D 5 ∧ G D 5 ≤ 4) := by
  have hn := PS_n h
  obtain ⟨h0, h1, h2, h3, h4, h5, h6⟩ := h
  rw [h5.1, h5.2.1, h5.2.2.1]
  have := h6.2.1
  have := h6.2.2.1
  exact ⟨by omega, by omega, h6.1⟩
theorem PS_is (h : PS E r G D B n T) (i : Nat) (hi : i ∈ stT) : RK MX5_is 0 [.ref D, .ref (E.2.2 i), jk] [] (0, 0) (E, zg G, zk L, r) Q = Q (E, zg G, zk L, r) (.int (zi (bI (isT B T (wdL i) = true)))) := by
  obtain ⟨r1, r2, r3⟩ := PS_r h
  rw [is_k h.1 h.2.1 h.2.2.1 r1 r2 r3 i hi, PS_isW h]
theorem PS_kind (h : PS E r G D B n T) : RK MX5_kindOfLaw 0 [.ref D] [] (0, 0) (E, zg G, zk L, r) Q = Q (E, zg G, zk L, r) (.int (zi (lawT B T))) := by
  obtain ⟨r1, r2, r3⟩ := PS_r h
  rw [c5_kindOfLaw h.1 h.2.1 h.2.2.1 r1 r2 r3, PS_law h]
theorem PS_reserved (h : PS E r G D B n T) : RK MX5_isReserved 0 [.ref D] [] (0, 0) (E, zg G, zk L, r) Q = Q (E, zg G, zk L, r) (.int (zi (bI (resT B T = true)))) := by
  obtain ⟨r1, r2, r3⟩ := PS_r h
  rw [c5_isReserved h.1 h.2.1 h.2.2.1 r1 r2 r3, PS_res h]
theorem PS_refuse {k : Int} (h : PS E r G D B n T) : RK MX5_refuse 0 [.ref D, .int (zi k)] [] (0, 0) (E, zg G, zk L, r) Q = Q (E, zg (faG G D k T.2.1), zk L, r) (.int (zi 0)) := by
  have h0 := h.1.1
  have e : u2 G D 3 k D 6 = T.2.1 := (u2_i _ _ _ _ (by decide)).trans h.2.2.2.2.2.1.2.1
  unfold faG
  simp (disch := first | assumption | exact c2_int _ | exact c2_ref _ | exact c2_jk | exact c2_null | omega | (apply rN1; assumption) | (apply rN2; assumption) | (apply rN3; assumption) | (apply rN4; assumption) | exact bI_r _ | exact bI_01 _) only [↓fX5_refuse_0, ↓fX5_refuse_1, ↓fX5_refuse_2, ↓fX5_refuse_5, ↓fX5_refuse_6, ↓fX5_refuse_7, ↓fX5_refuse_10, ↓fX5_refuse_13, ↓fX5_refuse_14, e, and_self, true_and, and_true, false_and, and_false, not_true_eq_false, not_false_eq_true, or_self, true_or, or_true, false_or, or_false, ite_not, Decidable.not_not, decide_eq_true_eq, Bool.not_true, Bool.not_false, Bool.false_eq_true, Bool.not_eq_true, n10, n20, n21, n30, n31, n32, n40, n41, n42, n43, ↓reduceIte]
theorem PS_unexpected (h : PS E r G D B n T) : RK MX5_unexpected 0 [.ref D] [] (0, 0) (E, zg G, zk L, r) Q = Q (E, zg (faG G D (unK T) T.2.1), zk L, r) (.int (zi 0)) := by
  have h0 := h.1.1
  have h5 := h.2.2.2.2.2.1.1
  have hr := h.2.2.2.2.2.2.1
  unfold unK
  by_cases c : T.1 = 0
  · have c' : G D 5 = 0 := by omega
    rw [if_pos c]
    simp (disch := first | assumption | exact c2_int _ | exact c2_ref _ | exact c2_jk | exact c2_null | omega | (apply rN1; assumption) | (apply rN2; assumption) | (apply rN3; assumption) | (apply rN4; assumption) | exact bI_r _ | exact bI_01 _) only [↓fX5_unexpected_0, ↓fX5_unexpected_1, ↓fX5_unexpected_2, ↓fX5_unexpected_5, ↓fX5_unexpected_8, ↓fX5_unexpected_9, ↓fX5_unexpected_12, ↓fX5_unexpected_13, ↓fX5_unexpected_16, ↓PS_refuse h, c', and_self, true_and, and_true, false_and, and_false, not_true_eq_false, not_false_eq_true, or_self, true_or, or_true, false_or, or_false, ite_not, Decidable.not_not, decide_eq_true_eq, Bool.not_true, Bool.not_false, Bool.false_eq_true, Bool.not_eq_true, n10, n20, n21, n30, n31, n32, n40, n41, n42, n43, ↓reduceIte]
  · have c' : ¬ G D 5 = 0 := by omega
    rw [if_neg c]
    simp (disch := first | assumption | exact c2_int _ | exact c2_ref _ | exact c2_jk | exact c2_null | omega | (apply rN1; assumption) | (apply rN2; assumption) | (apply rN3; assumption) | (apply rN4; assumption) | exact bI_r _ | exact bI_01 _) only [↓fX5_unexpected_0, ↓fX5_unexpected_1, ↓fX5_unexpected_2, ↓fX5_unexpected_5, ↓fX5_unexpected_8, ↓fX5_unexpected_9, ↓fX5_unexpected_12, ↓fX5_unexpected_13, ↓fX5_unexpected_16, ↓PS_refuse h, c', and_self, true_and, and_true, false_and, and_false, not_true_eq_false, not_false_eq_true, or_self, true_or, or_true, false_or, or_false, ite_not, Decidable.not_not, decide_eq_true_eq, Bool.not_true, Bool.not_false, Bool.false_eq_true, Bool.not_eq_true, n10, n20, n21, n30, n31, n32, n40, n41, n42, n43, ↓reduceIte]
theorem PS_readWord (h : PS E r G D B n T) (i : Nat) (hi : i ∈ stT) : RK MX5_readWord 0 [.ref D, .ref (E.2.2 i)] [] (0, 0) (E, zg G, zk L, r) Q = if isT B T (wdL i) = true then Q (E, zg (seT G D (nxT B n T.2.2.1)), zk L, r) (.int (zi 1)) else Q (E, zg (faG G D (unK T) T.2.1), zk L, r) (.int (zi 0)) := by
  have h0 := h.1.1
  have e := fun Q => PS_is (L := L) (Q := Q) h i hi
  by_cases c : isT B T (wdL i) = true
  · rw [if_pos c]
    simp (disch := first | assumption | exact c2_int _ | exact c2_ref _ | exact c2_jk | exact c2_null | omega | (apply rN1; assumption) | (apply rN2; assumption) | (apply rN3; assumption) | (apply rN4; assumption) | exact bI_r _ | exact bI_01 _) only [↓fX5_readWord_0, ↓fX5_readWord_1, ↓fX5_readWord_1n, ↓fX5_readWord_2, ↓fX5_readWord_5, ↓fX5_readWord_8, ↓fX5_readWord_9, ↓fX5_readWord_12, ↓fX5_readWord_13, ↓fX5_readWord_14, ↓fX5_readWord_17, ↓fX5_readWord_18, ↓e, ↓PS_look h, bI_0, c, and_self, true_and, and_true, false_and, and_false, not_true_eq_false, not_false_eq_true, or_self, true_or, or_true, false_or, or_false, ite_not, Decidable.not_not, decide_eq_true_eq, Bool.not_true, Bool.not_false, Bool.false_eq_true, Bool.not_eq_true, n10, n20, n21, n30, n31, n32, n40, n41, n42, n43, ↓reduceIte]
  · rw [if_neg c]
    simp (disch := first | assumption | exact c2_int _ | exact c2_ref _ | exact c2_jk | exact c2_null | omega | (apply rN1; assumption) | (apply rN2; assumption) | (apply rN3; assumption) | (apply rN4; assumption) | exact bI_r _ | exact bI_01 _) only [↓fX5_readWord_0, ↓fX5_readWord_1, ↓fX5_readWord_1n, ↓fX5_readWord_2, ↓fX5_readWord_5, ↓fX5_readWord_8, ↓fX5_readWord_9, ↓fX5_readWord_12, ↓fX5_readWord_13, ↓fX5_readWord_14, ↓fX5_readWord_17, ↓fX5_readWord_18, ↓e, ↓PS_unexpected h, bI_0, c, and_self, true_and, and_true, false_and, and_false, not_true_eq_false, not_false_eq_true, or_self, true_or, or_true, false_or, or_false, ite_not, Decidable.not_not, decide_eq_true_eq, Bool.not_true, Bool.not_false, Bool.false_eq_true, Bool.not_eq_true, n10, n20, n21, n30, n31, n32, n40, n41, n42, n43, ↓reduceIte]
theorem PS_readSign (h : PS E r G D B n T) : RK MX5_readSign 0 [.ref D] [] (0, 0) (E, zg G, zk L, r) Q = if T.1 = 4 then Q (E, zg (seT G D (nxT B n T.2.2.1)), zk L, r) (.int (zi 1)) else Q (E, zg (faG G D (unK T) T.2.1), zk L, r) (.int (zi 0)) := by
  have h0 := h.1.1
  have h5 := h.2.2.2.2.2.1.1
  have hr := h.2.2.2.2.2.2.1
  by_cases c : T.1 = 4
  · have c' : G D 5 = 4 := by omega
    rw [if_pos c]
    simp (disch := first | assumption | exact c2_int _ | exact c2_ref _ | exact c2_jk | exact c2_null | omega | (apply rN1; assumption) | (apply rN2; assumption) | (apply rN3; assumption) | (apply rN4; assumption) | exact bI_r _ | exact bI_01 _) only [↓fX5_readSign_0, ↓fX5_readSign_1, ↓fX5_readSign_4, ↓fX5_readSign_5, ↓fX5_readSign_8, ↓fX5_readSign_9, ↓fX5_readSign_12, ↓fX5_readSign_13, ↓fX5_readSign_14, ↓fX5_readSign_17, ↓fX5_readSign_18, ↓PS_look h, c', and_self, true_and, and_true, false_and, and_false, not_true_eq_false, not_false_eq_true, or_self, true_or, or_true, false_or, or_false, ite_not, Decidable.not_not, decide_eq_true_eq, Bool.not_true, Bool.not_false, Bool.false_eq_true, Bool.not_eq_true, n10, n20, n21, n30, n31, n32, n40, n41, n42, n43, ↓reduceIte]
  · have c' : ¬ G D 5 = 4 := by omega
    rw [if_neg c]
    simp (disch := first | assumption | exact c2_int _ | exact c2_ref _ | exact c2_jk | exact c2_null | omega | (apply rN1; assumption) | (apply rN2; assumption) | (apply rN3; assumption) | (apply rN4; assumption) | exact bI_r _ | exact bI_01 _) only [↓fX5_readSign_0, ↓fX5_readSign_1, ↓fX5_readSign_4, ↓fX5_readSign_5, ↓fX5_readSign_8, ↓fX5_readSign_9, ↓fX5_readSign_12, ↓fX5_readSign_13, ↓fX5_readSign_14, ↓fX5_readSign_17, ↓fX5_readSign_18, ↓PS_unexpected h, c', and_self, true_and, and_true, false_and, and_false, not_true_eq_false, not_false_eq_true, or_self, true_or, or_true, false_or, or_false, ite_not, Decidable.not_not, decide_eq_true_eq, Bool.not_true, Bool.not_false, Bool.false_eq_true, Bool.not_eq_true, n10, n20, n21, n30, n31, n32, n40, n41, n42, n43, ↓reduceIte]
/-- a number or a fault -/
theorem PS_readNumber (h : PS E r G D B n T) (h1 : I32 lo) (h2 : I32 hi) : RK MX5_readNumber 0 [.ref D, .int (zi lo), .int (zi hi), jk] [] (0, 0) (E, zg G, zk L, r) Q = if T.1 = 3 then (if lo ≤ T.2.2.2 ∧ T.2.2.2 ≤ hi then Q (E, zg (seT G D (nxT B n T.2.2.1)), zk L, r) (.int (zi T.2.2.2)) else Q (E, zg (faG G D 3 T.2.1), zk L, r) (.int (zi (-1)))) else Q (E, zg (faG G D (unK T) T.2.1), zk L, r) (.int (zi (-1))) := by
  have h0 := h.1.1
  have h5 := h.2.2.2.2.2.1.1
  have h8 := h.2.2.2.2.2.1.2.2.2
  have hr := h.2.2.2.2.2.2.1
  have hv := h.2.2.2.2.2.2.2.2.2
  by_cases c : T.1 = 3
  · have c' : G D 5 = 3 := by omega
    rw [if_pos c]
    by_cases d : lo ≤ T.2.2.2 ∧ T.2.2.2 ≤ hi
    · rw [if_pos d]
      simp (disch := first | assumption | exact c2_int _ | exact c2_ref _ | exact c2_jk | exact c2_null | omega | (apply rN1; assumption) | (apply rN2; assumption) | (apply rN3; assumption) | (apply rN4; assumption) | exact bI_r _ | exact bI_01 _) only [↓fX5_readNumber_0, ↓fX5_readNumber_1, ↓fX5_readNumber_4, ↓fX5_readNumber_5, ↓fX5_readNumber_8, ↓fX5_readNumber_9, ↓fX5_readNumber_12, ↓fX5_readNumber_13, ↓fX5_readNumber_14, ↓fX5_readNumber_15, ↓fX5_readNumber_16, ↓fX5_readNumber_19, ↓fX5_readNumber_20, ↓fX5_readNumber_21, ↓fX5_readNumber_24, ↓fX5_readNumber_27, ↓fX5_readNumber_28, ↓fX5_readNumber_29, ↓fX5_readNumber_32, ↓fX5_readNumber_33, ↓fX5_readNumber_34, ↓fX5_readNumber_35, ↓fX5_readNumber_36, ↓fX5_readNumber_39, ↓fX5_readNumber_40, ↓fX5_readNumber_41, ↓fX5_readNumber_44, ↓fX5_readNumber_45, ↓PS_look h, ↓c9_within, bI_0, h8, c', d, and_self, true_and, and_true, false_and, and_false, not_true_eq_false, not_false_eq_true, or_self, true_or, or_true, false_or, or_false, ite_not, Decidable.not_not, decide_eq_true_eq, Bool.not_true, Bool.not_false, Bool.false_eq_true, Bool.not_eq_true, n10, n20, n21, n30, n31, n32, n40, n41, n42, n43, ↓reduceIte]
    · rw [if_neg d]
      simp (disch := first | assumption | exact c2_int _ | exact c2_ref _ | exact c2_jk | exact c2_null | omega | (apply rN1; assumption) | (apply rN2; assumption) | (apply rN3; assumption) | (apply rN4; assumption) | exact bI_r _ | exact bI_01 _) only [↓fX5_readNumber_0, ↓fX5_readNumber_1, ↓fX5_readNumber_4, ↓fX5_readNumber_5, ↓fX5_readNumber_8, ↓fX5_readNumber_9, ↓fX5_readNumber_12, ↓fX5_readNumber_13, ↓fX5_readNumber_14, ↓fX5_readNumber_15, ↓fX5_readNumber_16, ↓fX5_readNumber_19, ↓fX5_readNumber_20, ↓fX5_readNumber_21, ↓fX5_readNumber_24, ↓fX5_readNumber_27, ↓fX5_readNumber_28, ↓fX5_readNumber_29, ↓fX5_readNumber_32, ↓fX5_readNumber_33, ↓fX5_readNumber_34, ↓fX5_readNumber_35, ↓fX5_readNumber_36, ↓fX5_readNumber_39, ↓fX5_readNumber_40, ↓fX5_readNumber_41, ↓fX5_readNumber_44, ↓fX5_readNumber_45, ↓PS_refuse h, ↓c9_within, bI_0, h8, c', d, and_self, true_and, and_true, false_and, and_false, not_true_eq_false, not_false_eq_true, or_self, true_or, or_true, false_or, or_false, ite_not, Decidable.not_not, decide_eq_true_eq, Bool.not_true, Bool.not_false, Bool.false_eq_true, Bool.not_eq_true, n10, n20, n21, n30, n31, n32, n40, n41, n42, n43, ↓reduceIte]
  · have c' : ¬ G D 5 = 3 := by omega
    rw [if_neg c]
    simp (disch := first | assumption | exact c2_int _ | exact c2_ref _ | exact c2_jk | exact c2_null | omega | (apply rN1; assumption) | (apply rN2; assumption) | (apply rN3; assumption) | (apply rN4; assumption) | exact bI_r _ | exact bI_01 _) only [↓fX5_readNumber_0, ↓fX5_readNumber_1, ↓fX5_readNumber_4, ↓fX5_readNumber_5, ↓fX5_readNumber_8, ↓fX5_readNumber_9, ↓fX5_readNumber_12, ↓fX5_readNumber_13, ↓fX5_readNumber_14, ↓fX5_readNumber_15, ↓fX5_readNumber_16, ↓fX5_readNumber_19, ↓fX5_readNumber_20, ↓fX5_readNumber_21, ↓fX5_readNumber_24, ↓fX5_readNumber_27, ↓fX5_readNumber_28, ↓fX5_readNumber_29, ↓fX5_readNumber_32, ↓fX5_readNumber_33, ↓fX5_readNumber_34, ↓fX5_readNumber_35, ↓fX5_readNumber_36, ↓fX5_readNumber_39, ↓fX5_readNumber_40, ↓fX5_readNumber_41, ↓fX5_readNumber_44, ↓fX5_readNumber_45, ↓PS_unexpected h, c', and_self, true_and, and_true, false_and, and_false, not_true_eq_false, not_false_eq_true, or_self, true_or, or_true, false_or, or_false, ite_not, Decidable.not_not, decide_eq_true_eq, Bool.not_true, Bool.not_false, Bool.false_eq_true, Bool.not_eq_true, n10, n20, n21, n30, n31, n32, n40, n41, n42, n43, ↓reduceIte]
theorem PS_refuseSurplus (h : PS E r G D B n T) (h1 : I32 lo) (h2 : I32 hi) : RK MX5_refuseSurplus 0 [.ref D, .int (zi lo), .int (zi hi)] [] (0, 0) (E, zg G, zk L, r) Q = Q (E, zg (faG G D (if lo ≤ T.2.2.2 ∧ T.2.2.2 ≤ hi then 5 else 3) T.2.1), zk L, r) (.int (zi 0)) := by
  have h0 := h.1.1
  have h8 := h.2.2.2.2.2.1.2.2.2
  have hv := h.2.2.2.2.2.2.2.2.2
  by_cases d : lo ≤ T.2.2.2 ∧ T.2.2.2 ≤ hi
  · rw [if_pos d]
    simp (disch := first | assumption | exact c2_int _ | exact c2_ref _ | exact c2_jk | exact c2_null | omega | (apply rN1; assumption) | (apply rN2; assumption) | (apply rN3; assumption) | (apply rN4; assumption) | exact bI_r _ | exact bI_01 _) only [↓fX5_refuseSurplus_0, ↓fX5_refuseSurplus_1, ↓fX5_refuseSurplus_2, ↓fX5_refuseSurplus_5, ↓fX5_refuseSurplus_6, ↓fX5_refuseSurplus_7, ↓fX5_refuseSurplus_10, ↓fX5_refuseSurplus_13, ↓fX5_refuseSurplus_14, ↓fX5_refuseSurplus_17, ↓fX5_refuseSurplus_18, ↓fX5_refuseSurplus_21, ↓PS_refuse h, ↓c9_within, bI_0, h8, d, and_self, true_and, and_true, false_and, and_false, not_true_eq_false, not_false_eq_true, or_self, true_or, or_true, false_or, or_false, ite_not, Decidable.not_not, decide_eq_true_eq, Bool.not_true, Bool.not_false, Bool.false_eq_true, Bool.not_eq_true, n10, n20, n21, n30, n31, n32, n40, n41, n42, n43, ↓reduceIte]
  · rw [if_neg d]
    simp (disch := first | assumption | exact c2_int _ | exact c2_ref _ | exact c2_jk | exact c2_null | omega | (apply rN1; assumption) | (apply rN2; assumption) | (apply rN3; assumption) | (apply rN4; assumption) | exact bI_r _ | exact bI_01 _) only [↓fX5_refuseSurplus_0, ↓fX5_refuseSurplus_1, ↓fX5_refuseSurplus_2, ↓fX5_refuseSurplus_5, ↓fX5_refuseSurplus_6, ↓fX5_refuseSurplus_7, ↓fX5_refuseSurplus_10, ↓fX5_refuseSurplus_13, ↓fX5_refuseSurplus_14, ↓fX5_refuseSurplus_17, ↓fX5_refuseSurplus_18, ↓fX5_refuseSurplus_21, ↓PS_refuse h, ↓c9_within, bI_0, h8, d, and_self, true_and, and_true, false_and, and_false, not_true_eq_false, not_false_eq_true, or_self, true_or, or_true, false_or, or_false, ite_not, Decidable.not_not, decide_eq_true_eq, Bool.not_true, Bool.not_false, Bool.false_eq_true, Bool.not_eq_true, n10, n20, n21, n30, n31, n32, n40, n41, n42, n43, ↓reduceIte]
end BS
