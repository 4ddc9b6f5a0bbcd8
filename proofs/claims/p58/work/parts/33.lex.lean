/-! The reader: the tape, the token looked at. -/
/-- the String constants' rows of bytes -/
def kRef (E : AE) (r : Nat → Nat → Option Nat) (D : Nat) : Prop := ∀ i, i ∈ stT → E.2.2 i < D ∧ r (E.2.2 i) 0 = some (E.2.2 (3000 + i))
def shD (E : AE) (r : Nat → Nat → Option Nat) (D : Nat) : Prop := kd E D = 12 ∧ (kd E (D + 1) = 1 ∧ kd E (D + 2) = 5 ∧ kd E (D + 3) = 6 ∧ kd E (D + 4) = 1 ∧ kd E (D + 5) = 1) ∧ (le E (D + 1) = 600 ∧ le E (D + 2) = 4 ∧ le E (D + 3) = 3 ∧ le E (D + 4) = 7 ∧ le E (D + 5) = 7) ∧ (r D 0 = some (D + 1) ∧ r D 9 = some (D + 2) ∧ r D 11 = some (D + 3) ∧ r D 13 = some (D + 4) ∧ r D 14 = some (D + 5)) ∧ (∀ t, t < 4 → shS E r (D + 6 + 6 * t) ∧ r (D + 2) t = some (D + 6 + 6 * t)) ∧ (∀ t, t < 3 → shL E r (D + 30 + 2 * t) ∧ r (D + 3) t = some (D + 30 + 2 * t)) ∧ kRef E r D
def bD (G : Nat → Nat → Int) (D : Nat) (i : Int) : Int := if 0 ≤ i ∧ i < G D 2 ∧ i < 600 then G (D + 1) i.toNat else -1
/-- start, end, token, value set -/
def fD (G : Nat → Nat → Int) (D : Nat) (s e t v : Int) : Nat → Nat → Int := fun a j => if a = D then (if j = 5 then t else if j = 6 then s else if j = 7 then e else if j = 8 then v else G D j) else G a j
def blk (b : Int) : Bool := decide (b = 10 ∨ b = 32)
def ltr (b : Int) : Bool := decide (97 ≤ b ∧ b ≤ 122)
def dgt (b : Int) : Bool := decide (48 ≤ b ∧ b ≤ 57)
/-- how far a sort of bytes goes -/
def spL (P : Int → Bool) (n : Int) : Nat → Int → Int
  | 0, i => i
  | k + 1, i => if i < n ∧ P i = true then spL P n k (i + 1) else i
def nmL (B : Int → Int) (n s : Int) : Nat → Int → Int → Int
  | 0, _, v => v
  | k + 1, i, v => if i < n ∧ dgt (B i) = true then nmL B n s k (i + 1) (if i - s < 4 then 10 * v + B i - 48 else v) else v
section BS
variable {E : AE} {G L : Nat → Nat → Int} {r : Nat → Nat → Option Nat} {h : AH} {Q : AH → Value → Prop} {D : Nat} {i v x b u s e t n : Int}
theorem fD_5 : fD G D s e t v D 5 = t := by
  show (if D = D then _ else _) = _
  rw [if_pos rfl]
  rfl
theorem fD_6 : fD G D s e t v D 6 = s := by
  show (if D = D then _ else _) = _
  rw [if_pos rfl]
  rfl
theorem fD_7 : fD G D s e t v D 7 = e := by
  show (if D = D then _ else _) = _
  rw [if_pos rfl]
  rfl
theorem fD_8 : fD G D s e t v D 8 = v := by
  show (if D = D then _ else _) = _
  rw [if_pos rfl]
  rfl
theorem fD_j {j : Nat} (h : j < 5 ∨ 8 < j) : fD G D s e t v D j = G D j := by
  show (if D = D then _ else _) = _
  rw [if_pos rfl, if_neg (by omega), if_neg (by omega), if_neg (by omega), if_neg (by omega)]
theorem fD_q {q : Nat} (h : q ≠ D) : fD G D s e t v q = G q := by
  funext j
  exact if_neg h
theorem fD_s5 : u2 (fD G D s e t v) D 5 x = fD G D s e x v := by
  funext a j
  simp only [u2, fD]
  by_cases h : a = D
  · by_cases h5 : j = 5
    · simp [h, h5]
    · simp [h, h5]
  · simp [h]
theorem fD_s6 : u2 (fD G D s e t v) D 6 x = fD G D x e t v := by
  funext a j
  simp only [u2, fD]
  by_cases h : a = D
  · by_cases h5 : j = 6
    · simp [h, h5]
    · simp [h, h5]
  · simp [h]
theorem fD_s7 : u2 (fD G D s e t v) D 7 x = fD G D s x t v := by
  funext a j
  simp only [u2, fD]
  by_cases h : a = D
  · by_cases h5 : j = 7
    · simp [h, h5]
    · simp [h, h5]
  · simp [h]
theorem fD_s8 : u2 (fD G D s e t v) D 8 x = fD G D s e t x := by
  funext a j
  simp only [u2, fD]
  by_cases h : a = D
  · by_cases h5 : j = 8
    · simp [h, h5]
    · simp [h, h5]
  · simp [h]
theorem fD_id : fD G D (G D 6) (G D 7) (G D 5) (G D 8) = G := by
  funext a j
  simp only [fD]
  by_cases h : a = D
  · rw [if_pos h, h]
    by_cases h5 : j = 5
    · simp [h5]
    · by_cases h6 : j = 6
      · simp [h6]
      · by_cases h7 : j = 7
        · simp [h7]
        · by_cases h8 : j = 8
          · simp [h8]
          · simp [h5, h6, h7, h8]
  · rw [if_neg h]
theorem fD_b : bD (fD G D s e t v) D = bD G D := by
  funext i
  unfold bD
  rw [fD_j (by omega), fD_q (by omega)]
theorem c5_byteAt (hD : shD E r D) (hn : 0 ≤ G D 2 ∧ G D 2 ≤ 600) (hi : I32 i) : RK MX5_byteAt 0 [.ref D, .int (zi i)] [] (0, 0) (E, zg G, zk L, r) Q = Q (E, zg G, zk L, r) (.int (zi (bD G D i))) := by
  obtain ⟨h0, ⟨h1, h2, h3, h4, h5⟩, ⟨l1, l2, l3, l4, l5⟩, ⟨r0, r2, r4, r5, r6⟩, -⟩ := id hD
  unfold bD
  by_cases c : 0 ≤ i ∧ i < G D 2
  · have c1 : ¬ i < 0 := by omega
    have c2 : i < G D 2 := c.2
    have c3 : i < (le E (D + 1) : Int) := by omega
    rw [if_pos (by omega)]
    simp (disch := first | assumption | exact c2_int _ | exact c2_ref _ | exact c2_jk | exact c2_null | omega | (apply rN1; assumption) | (apply rN2; assumption) | (apply rN3; assumption) | (apply rN4; assumption) | exact bI_r _ | exact bI_01 _) only [↓fX5_byteAt_0, ↓fX5_byteAt_1, ↓fX5_byteAt_4, ↓fX5_byteAt_5, ↓fX5_byteAt_6, ↓fX5_byteAt_9, ↓fX5_byteAt_12, ↓fX5_byteAt_13, ↓fX5_byteAt_14, ↓fX5_byteAt_17, ↓fX5_byteAt_18, ↓fX5_byteAt_21, ↓fX5_byteAt_22, ↓fX5_byteAt_25, ↓fX5_byteAt_26, ↓fX5_byteAt_27, ↓fX5_byteAt_30, ↓fX5_byteAt_31, c1, c2, c3, and_self, true_and, and_true, false_and, and_false, not_true_eq_false, not_false_eq_true, or_self, true_or, or_true, false_or, or_false, ite_not, Decidable.not_not, decide_eq_true_eq, Bool.not_true, Bool.not_false, Bool.false_eq_true, Bool.not_eq_true, n10, n20, n21, n30, n31, n32, n40, n41, n42, n43, ↓reduceIte]
  · rw [if_neg (by omega)]
    by_cases c1 : i < 0
    · simp (disch := first | assumption | exact c2_int _ | exact c2_ref _ | exact c2_jk | exact c2_null | omega | (apply rN1; assumption) | (apply rN2; assumption) | (apply rN3; assumption) | (apply rN4; assumption) | exact bI_r _ | exact bI_01 _) only [↓fX5_byteAt_0, ↓fX5_byteAt_1, ↓fX5_byteAt_4, ↓fX5_byteAt_5, ↓fX5_byteAt_6, ↓fX5_byteAt_9, ↓fX5_byteAt_12, ↓fX5_byteAt_13, ↓fX5_byteAt_14, ↓fX5_byteAt_17, ↓fX5_byteAt_18, ↓fX5_byteAt_21, ↓fX5_byteAt_22, ↓fX5_byteAt_25, ↓fX5_byteAt_26, ↓fX5_byteAt_27, ↓fX5_byteAt_30, ↓fX5_byteAt_31, c1, and_self, true_and, and_true, false_and, and_false, not_true_eq_false, not_false_eq_true, or_self, true_or, or_true, false_or, or_false, ite_not, Decidable.not_not, decide_eq_true_eq, Bool.not_true, Bool.not_false, Bool.false_eq_true, Bool.not_eq_true, n10, n20, n21, n30, n31, n32, n40, n41, n42, n43, ↓reduceIte]
    · have c2 : ¬ i < G D 2 := by omega
      simp (disch := first | assumption | exact c2_int _ | exact c2_ref _ | exact c2_jk | exact c2_null | omega | (apply rN1; assumption) | (apply rN2; assumption) | (apply rN3; assumption) | (apply rN4; assumption) | exact bI_r _ | exact bI_01 _) only [↓fX5_byteAt_0, ↓fX5_byteAt_1, ↓fX5_byteAt_4, ↓fX5_byteAt_5, ↓fX5_byteAt_6, ↓fX5_byteAt_9, ↓fX5_byteAt_12, ↓fX5_byteAt_13, ↓fX5_byteAt_14, ↓fX5_byteAt_17, ↓fX5_byteAt_18, ↓fX5_byteAt_21, ↓fX5_byteAt_22, ↓fX5_byteAt_25, ↓fX5_byteAt_26, ↓fX5_byteAt_27, ↓fX5_byteAt_30, ↓fX5_byteAt_31, c1, c2, and_self, true_and, and_true, false_and, and_false, not_true_eq_false, not_false_eq_true, or_self, true_or, or_true, false_or, or_false, ite_not, Decidable.not_not, decide_eq_true_eq, Bool.not_true, Bool.not_false, Bool.false_eq_true, Bool.not_eq_true, n10, n20, n21, n30, n31, n32, n40, n41, n42, n43, ↓reduceIte]
theorem c5_isBlank (hb : I32 b) : RK MX5_isBlank 0 [.int (zi b)] [] (0, 0) h Q = Q h (.int (zi (bI (blk b = true)))) := by
  by_cases c1 : b = 10
  · have e : bI (blk b = true) = 1 := bI_p (by simp [blk, c1])
    rw [e]
    simp (disch := first | assumption | exact c2_int _ | exact c2_ref _ | exact c2_jk | exact c2_null | omega | (apply rN1; assumption) | (apply rN2; assumption) | (apply rN3; assumption) | (apply rN4; assumption) | exact bI_r _ | exact bI_01 _) only [↓fX5_isBlank_0, ↓fX5_isBlank_1, ↓fX5_isBlank_3, ↓fX5_isBlank_6, ↓fX5_isBlank_7, ↓fX5_isBlank_9, ↓fX5_isBlank_12, ↓fX5_isBlank_13, ↓fX5_isBlank_16, ↓fX5_isBlank_17, c1, and_self, true_and, and_true, false_and, and_false, not_true_eq_false, not_false_eq_true, or_self, true_or, or_true, false_or, or_false, ite_not, Decidable.not_not, decide_eq_true_eq, Bool.not_true, Bool.not_false, Bool.false_eq_true, Bool.not_eq_true, n10, n20, n21, n30, n31, n32, n40, n41, n42, n43, ↓reduceIte]
  · by_cases c2 : b = 32
    · have e : bI (blk b = true) = 1 := bI_p (by simp [blk, c2])
      have c3 : ((32 : Int) = 10) = False := by decide
      rw [e]
      simp (disch := first | assumption | exact c2_int _ | exact c2_ref _ | exact c2_jk | exact c2_null | omega | (apply rN1; assumption) | (apply rN2; assumption) | (apply rN3; assumption) | (apply rN4; assumption) | exact bI_r _ | exact bI_01 _) only [↓fX5_isBlank_0, ↓fX5_isBlank_1, ↓fX5_isBlank_3, ↓fX5_isBlank_6, ↓fX5_isBlank_7, ↓fX5_isBlank_9, ↓fX5_isBlank_12, ↓fX5_isBlank_13, ↓fX5_isBlank_16, ↓fX5_isBlank_17, c2, c3, and_self, true_and, and_true, false_and, and_false, not_true_eq_false, not_false_eq_true, or_self, true_or, or_true, false_or, or_false, ite_not, Decidable.not_not, decide_eq_true_eq, Bool.not_true, Bool.not_false, Bool.false_eq_true, Bool.not_eq_true, n10, n20, n21, n30, n31, n32, n40, n41, n42, n43, ↓reduceIte]
    · have e : bI (blk b = true) = 0 := bI_n (by simp [blk, c1, c2])
      rw [e]
      simp (disch := first | assumption | exact c2_int _ | exact c2_ref _ | exact c2_jk | exact c2_null | omega | (apply rN1; assumption) | (apply rN2; assumption) | (apply rN3; assumption) | (apply rN4; assumption) | exact bI_r _ | exact bI_01 _) only [↓fX5_isBlank_0, ↓fX5_isBlank_1, ↓fX5_isBlank_3, ↓fX5_isBlank_6, ↓fX5_isBlank_7, ↓fX5_isBlank_9, ↓fX5_isBlank_12, ↓fX5_isBlank_13, ↓fX5_isBlank_16, ↓fX5_isBlank_17, c1, c2, and_self, true_and, and_true, false_and, and_false, not_true_eq_false, not_false_eq_true, or_self, true_or, or_true, false_or, or_false, ite_not, Decidable.not_not, decide_eq_true_eq, Bool.not_true, Bool.not_false, Bool.false_eq_true, Bool.not_eq_true, n10, n20, n21, n30, n31, n32, n40, n41, n42, n43, ↓reduceIte]
theorem c5_isLetter (hb : I32 b) : RK MX5_isLetter 0 [.int (zi b)] [] (0, 0) h Q = Q h (.int (zi (bI (ltr b = true)))) := by
  by_cases c1 : 97 ≤ b
  · have c1' : ¬ b < 97 := by omega
    by_cases c2 : b ≤ 122
    · have c2' : ¬ 122 < b := by omega
      have e : bI (ltr b = true) = 1 := bI_p (by simp [ltr, c1, c2])
      rw [e]
      simp (disch := first | assumption | exact c2_int _ | exact c2_ref _ | exact c2_jk | exact c2_null | omega | (apply rN1; assumption) | (apply rN2; assumption) | (apply rN3; assumption) | (apply rN4; assumption) | exact bI_r _ | exact bI_01 _) only [↓fX5_isLetter_0, ↓fX5_isLetter_1, ↓fX5_isLetter_3, ↓fX5_isLetter_6, ↓fX5_isLetter_7, ↓fX5_isLetter_9, ↓fX5_isLetter_12, ↓fX5_isLetter_13, ↓fX5_isLetter_16, ↓fX5_isLetter_17, c1, c1', c2, c2', and_self, true_and, and_true, false_and, and_false, not_true_eq_false, not_false_eq_true, or_self, true_or, or_true, false_or, or_false, ite_not, Decidable.not_not, decide_eq_true_eq, Bool.not_true, Bool.not_false, Bool.false_eq_true, Bool.not_eq_true, n10, n20, n21, n30, n31, n32, n40, n41, n42, n43, ↓reduceIte]
    · have c2' : 122 < b := by omega
      have e : bI (ltr b = true) = 0 := bI_n (by simp [ltr, c1, c2])
      rw [e]
      simp (disch := first | assumption | exact c2_int _ | exact c2_ref _ | exact c2_jk | exact c2_null | omega | (apply rN1; assumption) | (apply rN2; assumption) | (apply rN3; assumption) | (apply rN4; assumption) | exact bI_r _ | exact bI_01 _) only [↓fX5_isLetter_0, ↓fX5_isLetter_1, ↓fX5_isLetter_3, ↓fX5_isLetter_6, ↓fX5_isLetter_7, ↓fX5_isLetter_9, ↓fX5_isLetter_12, ↓fX5_isLetter_13, ↓fX5_isLetter_16, ↓fX5_isLetter_17, c1, c1', c2, c2', and_self, true_and, and_true, false_and, and_false, not_true_eq_false, not_false_eq_true, or_self, true_or, or_true, false_or, or_false, ite_not, Decidable.not_not, decide_eq_true_eq, Bool.not_true, Bool.not_false, Bool.false_eq_true, Bool.not_eq_true, n10, n20, n21, n30, n31, n32, n40, n41, n42, n43, ↓reduceIte]
  · have c1' : b < 97 := by omega
    have e : bI (ltr b = true) = 0 := bI_n (by simp [ltr, c1])
    rw [e]
    simp (disch := first | assumption | exact c2_int _ | exact c2_ref _ | exact c2_jk | exact c2_null | omega | (apply rN1; assumption) | (apply rN2; assumption) | (apply rN3; assumption) | (apply rN4; assumption) | exact bI_r _ | exact bI_01 _) only [↓fX5_isLetter_0, ↓fX5_isLetter_1, ↓fX5_isLetter_3, ↓fX5_isLetter_6, ↓fX5_isLetter_7, ↓fX5_isLetter_9, ↓fX5_isLetter_12, ↓fX5_isLetter_13, ↓fX5_isLetter_16, ↓fX5_isLetter_17, c1, c1', and_self, true_and, and_true, false_and, and_false, not_true_eq_false, not_false_eq_true, or_self, true_or, or_true, false_or, or_false, ite_not, Decidable.not_not, decide_eq_true_eq, Bool.not_true, Bool.not_false, Bool.false_eq_true, Bool.not_eq_true, n10, n20, n21, n30, n31, n32, n40, n41, n42, n43, ↓reduceIte]
theorem c5_isDigit (hb : I32 b) : RK MX5_isDigit 0 [.int (zi b)] [] (0, 0) h Q = Q h (.int (zi (bI (dgt b = true)))) := by
  by_cases c1 : 48 ≤ b
  · have c1' : ¬ b < 48 := by omega
    by_cases c2 : b ≤ 57
    · have c2' : ¬ 57 < b := by omega
      have e : bI (dgt b = true) = 1 := bI_p (by simp [dgt, c1, c2])
      rw [e]
      simp (disch := first | assumption | exact c2_int _ | exact c2_ref _ | exact c2_jk | exact c2_null | omega | (apply rN1; assumption) | (apply rN2; assumption) | (apply rN3; assumption) | (apply rN4; assumption) | exact bI_r _ | exact bI_01 _) only [↓fX5_isDigit_0, ↓fX5_isDigit_1, ↓fX5_isDigit_3, ↓fX5_isDigit_6, ↓fX5_isDigit_7, ↓fX5_isDigit_9, ↓fX5_isDigit_12, ↓fX5_isDigit_13, ↓fX5_isDigit_16, ↓fX5_isDigit_17, c1, c1', c2, c2', and_self, true_and, and_true, false_and, and_false, not_true_eq_false, not_false_eq_true, or_self, true_or, or_true, false_or, or_false, ite_not, Decidable.not_not, decide_eq_true_eq, Bool.not_true, Bool.not_false, Bool.false_eq_true, Bool.not_eq_true, n10, n20, n21, n30, n31, n32, n40, n41, n42, n43, ↓reduceIte]
    · have c2' : 57 < b := by omega
      have e : bI (dgt b = true) = 0 := bI_n (by simp [dgt, c1, c2])
      rw [e]
      simp (disch := first | assumption | exact c2_int _ | exact c2_ref _ | exact c2_jk | exact c2_null | omega | (apply rN1; assumption) | (apply rN2; assumption) | (apply rN3; assumption) | (apply rN4; assumption) | exact bI_r _ | exact bI_01 _) only [↓fX5_isDigit_0, ↓fX5_isDigit_1, ↓fX5_isDigit_3, ↓fX5_isDigit_6, ↓fX5_isDigit_7, ↓fX5_isDigit_9, ↓fX5_isDigit_12, ↓fX5_isDigit_13, ↓fX5_isDigit_16, ↓fX5_isDigit_17, c1, c1', c2, c2', and_self, true_and, and_true, false_and, and_false, not_true_eq_false, not_false_eq_true, or_self, true_or, or_true, false_or, or_false, ite_not, Decidable.not_not, decide_eq_true_eq, Bool.not_true, Bool.not_false, Bool.false_eq_true, Bool.not_eq_true, n10, n20, n21, n30, n31, n32, n40, n41, n42, n43, ↓reduceIte]
  · have c1' : b < 48 := by omega
    have e : bI (dgt b = true) = 0 := bI_n (by simp [dgt, c1])
    rw [e]
    simp (disch := first | assumption | exact c2_int _ | exact c2_ref _ | exact c2_jk | exact c2_null | omega | (apply rN1; assumption) | (apply rN2; assumption) | (apply rN3; assumption) | (apply rN4; assumption) | exact bI_r _ | exact bI_01 _) only [↓fX5_isDigit_0, ↓fX5_isDigit_1, ↓fX5_isDigit_3, ↓fX5_isDigit_6, ↓fX5_isDigit_7, ↓fX5_isDigit_9, ↓fX5_isDigit_12, ↓fX5_isDigit_13, ↓fX5_isDigit_16, ↓fX5_isDigit_17, c1, c1', and_self, true_and, and_true, false_and, and_false, not_true_eq_false, not_false_eq_true, or_self, true_or, or_true, false_or, or_false, ite_not, Decidable.not_not, decide_eq_true_eq, Bool.not_true, Bool.not_false, Bool.false_eq_true, Bool.not_eq_true, n10, n20, n21, n30, n31, n32, n40, n41, n42, n43, ↓reduceIte]
theorem c5_sieveAt {s : Nat} (hD : shD E r D) (hs : s < 2147483648) : RK MX5_sieveAt 0 [.ref D, .int (zi (s : Int))] [] (0, 0) (E, zg G, zk L, r) Q = Q (E, zg G, zk L, r) (if s < 4 then .ref (D + 6 + 6 * s) else .null) := by
  obtain ⟨h0, ⟨h1, h2, h3, h4, h5⟩, ⟨l1, l2, l3, l4, l5⟩, ⟨r0, r2, r4, r5, r6⟩, b1, b2, -⟩ := id hD
  by_cases c : s < 4
  · have e := (b1 s c).2
    have e' : r (D + 2) (s : Int).toNat = some (D + 6 + 6 * s) := e
    have h6 : (0 ≤ (s : Int) ∧ (s : Int) ≤ (le E (D + 2) : Int) - 1) = True := eq_true (by omega)
    rw [if_pos c]
    simp (disch := first | assumption | exact c2_int _ | exact c2_ref _ | exact c2_jk | exact c2_null | omega | (apply rN1; assumption) | (apply rN2; assumption) | (apply rN3; assumption) | (apply rN4; assumption) | exact bI_r _ | exact bI_01 _) only [↓fX5_sieveAt_0, ↓fX5_sieveAt_1, ↓fX5_sieveAt_2, ↓fX5_sieveAt_3, ↓fX5_sieveAt_6, ↓fX5_sieveAt_7, ↓fX5_sieveAt_8, ↓fX5_sieveAt_9, ↓fX5_sieveAt_12, ↓fX5_sieveAt_15, ↓fX5_sieveAt_16, ↓fX5_sieveAt_19, ↓fX5_sieveAt_20, ↓fX5_sieveAt_21, ↓fX5_sieveAt_24, ↓fX5_sieveAt_25, ↓fX5_sieveAt_25n, ↓c9_within, bI_0, h6, and_self, true_and, and_true, false_and, and_false, not_true_eq_false, not_false_eq_true, or_self, true_or, or_true, false_or, or_false, ite_not, Decidable.not_not, decide_eq_true_eq, Bool.not_true, Bool.not_false, Bool.false_eq_true, Bool.not_eq_true, n10, n20, n21, n30, n31, n32, n40, n41, n42, n43, ↓reduceIte]
  · have h6 : (0 ≤ (s : Int) ∧ (s : Int) ≤ (le E (D + 2) : Int) - 1) = False := eq_false (by omega)
    rw [if_neg c]
    simp (disch := first | assumption | exact c2_int _ | exact c2_ref _ | exact c2_jk | exact c2_null | omega | (apply rN1; assumption) | (apply rN2; assumption) | (apply rN3; assumption) | (apply rN4; assumption) | exact bI_r _ | exact bI_01 _) only [↓fX5_sieveAt_0, ↓fX5_sieveAt_1, ↓fX5_sieveAt_2, ↓fX5_sieveAt_3, ↓fX5_sieveAt_6, ↓fX5_sieveAt_7, ↓fX5_sieveAt_8, ↓fX5_sieveAt_9, ↓fX5_sieveAt_12, ↓fX5_sieveAt_15, ↓fX5_sieveAt_16, ↓fX5_sieveAt_19, ↓fX5_sieveAt_20, ↓fX5_sieveAt_21, ↓fX5_sieveAt_24, ↓fX5_sieveAt_25, ↓fX5_sieveAt_25n, ↓c9_within, bI_0, h6, and_self, true_and, and_true, false_and, and_false, not_true_eq_false, not_false_eq_true, or_self, true_or, or_true, false_or, or_false, ite_not, Decidable.not_not, decide_eq_true_eq, Bool.not_true, Bool.not_false, Bool.false_eq_true, Bool.not_eq_true, n10, n20, n21, n30, n31, n32, n40, n41, n42, n43, ↓reduceIte]
theorem c5_listAt {s : Nat} (hD : shD E r D) (hs : s < 2147483648) : RK MX5_listAt 0 [.ref D, .int (zi (s : Int))] [] (0, 0) (E, zg G, zk L, r) Q = Q (E, zg G, zk L, r) (if s < 3 then .ref (D + 30 + 2 * s) else .null) := by
  obtain ⟨h0, ⟨h1, h2, h3, h4, h5⟩, ⟨l1, l2, l3, l4, l5⟩, ⟨r0, r2, r4, r5, r6⟩, b1, b2, -⟩ := id hD
  by_cases c : s < 3
  · have e := (b2 s c).2
    have e' : r (D + 3) (s : Int).toNat = some (D + 30 + 2 * s) := e
    have h6 : (0 ≤ (s : Int) ∧ (s : Int) ≤ (le E (D + 3) : Int) - 1) = True := eq_true (by omega)
    rw [if_pos c]
    simp (disch := first | assumption | exact c2_int _ | exact c2_ref _ | exact c2_jk | exact c2_null | omega | (apply rN1; assumption) | (apply rN2; assumption) | (apply rN3; assumption) | (apply rN4; assumption) | exact bI_r _ | exact bI_01 _) only [↓fX5_listAt_0, ↓fX5_listAt_1, ↓fX5_listAt_2, ↓fX5_listAt_3, ↓fX5_listAt_6, ↓fX5_listAt_7, ↓fX5_listAt_8, ↓fX5_listAt_9, ↓fX5_listAt_12, ↓fX5_listAt_15, ↓fX5_listAt_16, ↓fX5_listAt_19, ↓fX5_listAt_20, ↓fX5_listAt_21, ↓fX5_listAt_24, ↓fX5_listAt_25, ↓fX5_listAt_25n, ↓c9_within, bI_0, h6, and_self, true_and, and_true, false_and, and_false, not_true_eq_false, not_false_eq_true, or_self, true_or, or_true, false_or, or_false, ite_not, Decidable.not_not, decide_eq_true_eq, Bool.not_true, Bool.not_false, Bool.false_eq_true, Bool.not_eq_true, n10, n20, n21, n30, n31, n32, n40, n41, n42, n43, ↓reduceIte]
  · have h6 : (0 ≤ (s : Int) ∧ (s : Int) ≤ (le E (D + 3) : Int) - 1) = False := eq_false (by omega)
    rw [if_neg c]
    simp (disch := first | assumption | exact c2_int _ | exact c2_ref _ | exact c2_jk | exact c2_null | omega | (apply rN1; assumption) | (apply rN2; assumption) | (apply rN3; assumption) | (apply rN4; assumption) | exact bI_r _ | exact bI_01 _) only [↓fX5_listAt_0, ↓fX5_listAt_1, ↓fX5_listAt_2, ↓fX5_listAt_3, ↓fX5_listAt_6, ↓fX5_listAt_7, ↓fX5_listAt_8, ↓fX5_listAt_9, ↓fX5_listAt_12, ↓fX5_listAt_15, ↓fX5_listAt_16, ↓fX5_listAt_19, ↓fX5_listAt_20, ↓fX5_listAt_21, ↓fX5_listAt_24, ↓fX5_listAt_25, ↓fX5_listAt_25n, ↓c9_within, bI_0, h6, and_self, true_and, and_true, false_and, and_false, not_true_eq_false, not_false_eq_true, or_self, true_or, or_true, false_or, or_false, ite_not, Decidable.not_not, decide_eq_true_eq, Bool.not_true, Bool.not_false, Bool.false_eq_true, Bool.not_eq_true, n10, n20, n21, n30, n31, n32, n40, n41, n42, n43, ↓reduceIte]
end BS
