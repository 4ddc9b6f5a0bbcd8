/-! The row as a text. -/
def shP (E : AE) (r : Nat → Nat → Option Nat) (P : Nat) : Prop := kd E P = 11 ∧ kd E (P + 1) = 1 ∧ le E (P + 1) = 3600 ∧ r P 0 = some (P + 1)
/-- a list written behind what stands: object o counts in its field f, the array a takes the first cap -/
def wrL (G : Nat → Nat → Int) (o f a cap : Nat) (ys : List Int) : Nat → Nat → Int := fun q j => if q = o ∧ j = f then G o f + ys.length else if q = a ∧ G o f ≤ j ∧ j < G o f + ys.length ∧ j < cap then ys.getD (j - (G o f).toNat) 0 else G q j
theorem wrL_nil {o f a cap : Nat} {G : Nat → Nat → Int} : wrL G o f a cap [] = G := by
  funext q j
  unfold wrL
  by_cases h : q = o ∧ j = f
  · rw [if_pos h, h.1, h.2]
    simp
  · rw [if_neg h, if_neg (by simp; omega)]
theorem wrL_n {o f a cap : Nat} {G : Nat → Nat → Int} {ys : List Int} : wrL G o f a cap ys o f = G o f + ys.length := if_pos ⟨rfl, rfl⟩
theorem wrL_o {o f a cap : Nat} {G : Nat → Nat → Int} {ys : List Int} {q j : Nat} (h : ¬ (q = o ∧ j = f)) (h2 : q ≠ a) : wrL G o f a cap ys q j = G q j := by
  unfold wrL
  rw [if_neg h, if_neg (fun z => h2 z.1)]
theorem wrL_q {o f a cap : Nat} {G : Nat → Nat → Int} {ys : List Int} {q : Nat} (h : q ≠ o) (h2 : q ≠ a) : wrL G o f a cap ys q = G q := by
  funext j
  exact wrL_o (fun z => h z.1) h2
theorem wrL_app {o f a cap : Nat} {G : Nat → Nat → Int} {xs ys : List Int} (h0 : 0 ≤ G o f) (hne : a ≠ o) : wrL (wrL G o f a cap xs) o f a cap ys = wrL G o f a cap (xs ++ ys) := by
  funext q j
  have e1 : wrL G o f a cap xs o f = G o f + xs.length := wrL_n
  rw [wrL, e1]
  show _ = (if q = o ∧ j = f then G o f + (xs ++ ys).length else if q = a ∧ G o f ≤ j ∧ j < G o f + (xs ++ ys).length ∧ j < cap then (xs ++ ys).getD (j - (G o f).toNat) 0 else G q j)
  rw [List.length_append]
  by_cases h : q = o ∧ j = f
  · rw [if_pos h, if_pos h]
    omega
  · rw [if_neg h, if_neg h]
    by_cases h2 : q = a ∧ G o f + xs.length ≤ j ∧ (j : Int) < G o f + xs.length + ys.length ∧ j < cap
    · rw [if_pos h2, if_pos (by omega), List.getD_eq_getElem?_getD, List.getD_eq_getElem?_getD, List.getElem?_append_right (by omega)]
      congr 2
      omega
    · rw [if_neg h2]
      unfold wrL
      rw [if_neg h]
      by_cases h3 : q = a ∧ G o f ≤ j ∧ (j : Int) < G o f + xs.length ∧ j < cap
      · rw [if_pos h3, if_pos (by omega), List.getD_eq_getElem?_getD, List.getD_eq_getElem?_getD, List.getElem?_append_left (by omega)]
      · rw [if_neg h3, if_neg (by omega)]
theorem wrL_1 {o f a cap : Nat} {G : Nat → Nat → Int} {b : Int} (h0 : 0 ≤ G o f) (hne : a ≠ o) : u2 (if 0 ≤ G o f ∧ G o f < (cap : Int) then u2 G a (G o f).toNat b else G) o f ((if 0 ≤ G o f ∧ G o f < (cap : Int) then u2 G a (G o f).toNat b else G) o f + 1) = wrL G o f a cap [b] := by
  have e : (if 0 ≤ G o f ∧ G o f < (cap : Int) then u2 G a (G o f).toNat b else G) o f = G o f := by
    split
    · exact if_neg (fun z => hne z.1.symm)
    · rfl
  rw [e]
  funext q j
  show (if q = o ∧ j = f then _ else _) = (if q = o ∧ j = f then _ else _)
  by_cases h : q = o ∧ j = f
  · rw [if_pos h, if_pos h]
    rfl
  · rw [if_neg h, if_neg h]
    by_cases h2 : 0 ≤ G o f ∧ G o f < (cap : Int)
    · rw [if_pos h2]
      show (if q = a ∧ j = (G o f).toNat then b else G q j) = _
      by_cases h3 : q = a ∧ j = (G o f).toNat
      · rw [if_pos h3, if_pos ⟨h3.1, by omega, by simp; omega, by omega⟩, show j - (G o f).toNat = 0 by omega]
        rfl
      · rw [if_neg h3, if_neg (fun z => h3 ⟨z.1, by have := z.2.2.1; simp at this; omega⟩)]
    · rw [if_neg h2, if_neg (fun z => h2 ⟨h0, by omega⟩)]
/-- digits -/
def dgL (n : Int) : Nat → Int → List Int
  | 0, _ => []
  | k + 1, u => if 0 < u then (if u ≤ n ∨ u = 1 then [48 + n / u % 10] else []) ++ dgL n k (u / 10) else []
def dgC (n : Int) : List Int := dgL n 6 100000
section BS
variable {E : AE} {G L : Nat → Nat → Int} {r : Nat → Nat → Option Nat} {h : AH} {Q : AH → Value → Prop} {S P : Nat} {i v n p x b u : Int}
theorem c4_append (hp : shP E r P) (hl : 0 ≤ G P 1 ∧ G P 1 ≤ 100000) : RK MX4_append 0 [.ref P, .int (zi b)] [] (0, 0) (E, zg G, zk L, r) Q = Q (E, zg (wrL G P 1 (P + 1) 3600 [b]), zk L, r) .null := by
  obtain ⟨p0, p1, p2, p3⟩ := id hp
  rw [← wrL_1 hl.1 (by omega)]
  have e : ((3600 : Nat) : Int) = (le E (P + 1) : Int) := by rw [p2]
  rw [e]
  simp (disch := first | assumption | exact c2_int _ | exact c2_ref _ | exact c2_jk | exact c2_null | omega | (apply rN1; assumption) | (apply rN2; assumption) | (apply rN3; assumption) | (apply rN4; assumption) | exact bI_r _ | exact bI_01 _) only [↓fX4_append_0, ↓fX4_append_1, ↓fX4_append_4, ↓fX4_append_5, ↓fX4_append_8, ↓fX4_append_9, ↓fX4_append_12, ↓fX4_append_13, ↓fX4_append_14, ↓fX4_append_17, ↓fX4_append_18, ↓fX4_append_19, ↓fX4_append_22, ↓c9_put, and_self, true_and, and_true, false_and, and_false, not_true_eq_false, not_false_eq_true, or_self, true_or, or_true, false_or, or_false, ite_not, Decidable.not_not, decide_eq_true_eq, Bool.not_true, Bool.not_false, Bool.false_eq_true, Bool.not_eq_true, n10, n20, n21, n30, n31, n32, n40, n41, n42, n43, ↓reduceIte]
theorem dgL_len (n : Int) : ∀ (k : Nat) (u : Int), (dgL n k u).length ≤ k := by
  intro k
  induction k with
  | zero => exact fun _ => Nat.le_refl 0
  | succ k ih =>
    intro u
    unfold dgL
    by_cases h : 0 < u
    · rw [if_pos h, List.length_append]
      have := ih (u / 10)
      by_cases h2 : u ≤ n ∨ u = 1
      · rw [if_pos h2]
        simp only [List.length_cons, List.length_nil]
        omega
      · rw [if_neg h2]
        simp only [List.length_nil]
        omega
    · rw [if_neg h]
      exact Nat.zero_le _
theorem c4_digits (hp : shP E r P) (hn : 0 ≤ n ∧ n < 2147483648) : ∀ (k : Nat) (u : Int) (G : Nat → Nat → Int), u < (10 : Int) ^ k → 0 ≤ u → u < 2147483648 → 0 ≤ G P 1 ∧ G P 1 + k ≤ 100000 →
    RK MX4_appendNumber 3 [.ref P, .int (zi n), .int (zi u)] [] (0, 0) (E, zg G, zk L, r) Q = Q (E, zg (wrL G P 1 (P + 1) 3600 (dgL n k u)), zk L, r) .null := by
  obtain ⟨p0, p1, p2, p3⟩ := id hp
  intro k
  induction k with
  | zero =>
    intro u G h1 h2 h3 h4
    have h1' : u < 1 := h1
    have h6 : u ≤ 0 := by omega
    rw [dgL, wrL_nil]
    simp (disch := first | assumption | exact c2_int _ | exact c2_ref _ | exact c2_jk | exact c2_null | omega | (apply rN1; assumption) | (apply rN2; assumption) | (apply rN3; assumption) | (apply rN4; assumption) | exact bI_r _ | exact bI_01 _) only [↓fX4_appendNumber_0, ↓fX4_appendNumber_2, ↓fX4_appendNumber_3, ↓fX4_appendNumber_4, ↓fX4_appendNumber_7, ↓fX4_appendNumber_8, ↓fX4_appendNumber_9, ↓fX4_appendNumber_12, ↓fX4_appendNumber_13, ↓fX4_appendNumber_14, ↓fX4_appendNumber_17, ↓fX4_appendNumber_18, ↓fX4_appendNumber_20, ↓fX4_appendNumber_21, ↓fX4_appendNumber_22, ↓fX4_appendNumber_23, ↓fX4_appendNumber_25, ↓fX4_appendNumber_26, ↓fX4_appendNumber_27, ↓fX4_appendNumber_30, ↓fX4_appendNumber_31, ↓fX4_appendNumber_33, ↓fX4_appendNumber_34, ↓fX4_appendNumber_35, ↓fX4_appendNumber_38, h6, and_self, true_and, and_true, false_and, and_false, not_true_eq_false, not_false_eq_true, or_self, true_or, or_true, false_or, or_false, ite_not, Decidable.not_not, decide_eq_true_eq, Bool.not_true, Bool.not_false, Bool.false_eq_true, Bool.not_eq_true, n10, n20, n21, n30, n31, n32, n40, n41, n42, n43, ↓reduceIte]
  | succ k ih =>
    intro u G h1 h2 h3 h4
    by_cases h6 : u ≤ 0
    · rw [dgL, if_neg (by omega), wrL_nil]
      simp (disch := first | assumption | exact c2_int _ | exact c2_ref _ | exact c2_jk | exact c2_null | omega | (apply rN1; assumption) | (apply rN2; assumption) | (apply rN3; assumption) | (apply rN4; assumption) | exact bI_r _ | exact bI_01 _) only [↓fX4_appendNumber_0, ↓fX4_appendNumber_2, ↓fX4_appendNumber_3, ↓fX4_appendNumber_4, ↓fX4_appendNumber_7, ↓fX4_appendNumber_8, ↓fX4_appendNumber_9, ↓fX4_appendNumber_12, ↓fX4_appendNumber_13, ↓fX4_appendNumber_14, ↓fX4_appendNumber_17, ↓fX4_appendNumber_18, ↓fX4_appendNumber_20, ↓fX4_appendNumber_21, ↓fX4_appendNumber_22, ↓fX4_appendNumber_23, ↓fX4_appendNumber_25, ↓fX4_appendNumber_26, ↓fX4_appendNumber_27, ↓fX4_appendNumber_30, ↓fX4_appendNumber_31, ↓fX4_appendNumber_33, ↓fX4_appendNumber_34, ↓fX4_appendNumber_35, ↓fX4_appendNumber_38, h6, and_self, true_and, and_true, false_and, and_false, not_true_eq_false, not_false_eq_true, or_self, true_or, or_true, false_or, or_false, ite_not, Decidable.not_not, decide_eq_true_eq, Bool.not_true, Bool.not_false, Bool.false_eq_true, Bool.not_eq_true, n10, n20, n21, n30, n31, n32, n40, n41, n42, n43, ↓reduceIte]
    · have hd : u / 10 < (10 : Int) ^ k := by
        have : (10 : Int) ^ (k + 1) = 10 ^ k * 10 := Int.pow_succ _ _
        omega
      rw [dgL, if_pos (by omega), fX4_appendNumber_3]
      by_cases h7 : u ≤ n ∨ u = 1
      · have e1 : ∀ ys, wrL (wrL G P 1 (P + 1) 3600 [48 + n / u % 10]) P 1 (P + 1) 3600 ys = wrL G P 1 (P + 1) 3600 ([48 + n / u % 10] ++ ys) := fun ys => wrL_app h4.1 (by omega)
        have m1 : 0 ≤ n / u := Int.ediv_nonneg (by omega) (by omega)
        have m2 : n / u ≤ n := Int.ediv_le_self _ (by omega)
        have ih' := ih (u / 10) (wrL G P 1 (P + 1) 3600 [48 + n / u % 10]) hd (by omega) (by omega) (by
          rw [wrL_n]
          simp only [List.length_cons, List.length_nil]
          omega)
        rw [if_pos h7, ← e1]
        by_cases h8 : u ≤ n
        · simp (disch := first | assumption | exact c2_int _ | exact c2_ref _ | exact c2_jk | exact c2_null | omega | (apply rN1; assumption) | (apply rN2; assumption) | (apply rN3; assumption) | (apply rN4; assumption) | exact bI_r _ | exact bI_01 _) only [↓fX4_appendNumber_0, ↓fX4_appendNumber_2, ↓fX4_appendNumber_4, ↓fX4_appendNumber_7, ↓fX4_appendNumber_8, ↓fX4_appendNumber_9, ↓fX4_appendNumber_12, ↓fX4_appendNumber_13, ↓fX4_appendNumber_14, ↓fX4_appendNumber_17, ↓fX4_appendNumber_18, ↓fX4_appendNumber_20, ↓fX4_appendNumber_21, ↓fX4_appendNumber_22, ↓fX4_appendNumber_23, ↓fX4_appendNumber_25, ↓fX4_appendNumber_26, ↓fX4_appendNumber_27, ↓fX4_appendNumber_30, ↓fX4_appendNumber_31, ↓fX4_appendNumber_33, ↓fX4_appendNumber_34, ↓fX4_appendNumber_35, ↓fX4_appendNumber_38, ↓c4_append hp, ↓ih', h6, h8, Int.not_lt.mpr h8, and_self, true_and, and_true, false_and, and_false, not_true_eq_false, not_false_eq_true, or_self, true_or, or_true, false_or, or_false, ite_not, Decidable.not_not, decide_eq_true_eq, Bool.not_true, Bool.not_false, Bool.false_eq_true, Bool.not_eq_true, n10, n20, n21, n30, n31, n32, n40, n41, n42, n43, ↓reduceIte]
        · have h9 : u = 1 := by omega
          have h10 : n < 1 := by omega
          subst h9
          simp (disch := first | assumption | exact c2_int _ | exact c2_ref _ | exact c2_jk | exact c2_null | omega | (apply rN1; assumption) | (apply rN2; assumption) | (apply rN3; assumption) | (apply rN4; assumption) | exact bI_r _ | exact bI_01 _) only [↓fX4_appendNumber_0, ↓fX4_appendNumber_2, ↓fX4_appendNumber_4, ↓fX4_appendNumber_7, ↓fX4_appendNumber_8, ↓fX4_appendNumber_9, ↓fX4_appendNumber_12, ↓fX4_appendNumber_13, ↓fX4_appendNumber_14, ↓fX4_appendNumber_17, ↓fX4_appendNumber_18, ↓fX4_appendNumber_20, ↓fX4_appendNumber_21, ↓fX4_appendNumber_22, ↓fX4_appendNumber_23, ↓fX4_appendNumber_25, ↓fX4_appendNumber_26, ↓fX4_appendNumber_27, ↓fX4_appendNumber_30, ↓fX4_appendNumber_31, ↓fX4_appendNumber_33, ↓fX4_appendNumber_34, ↓fX4_appendNumber_35, ↓fX4_appendNumber_38, ↓c4_append hp, ↓ih', h6, h8, h10, and_self, true_and, and_true, false_and, and_false, not_true_eq_false, not_false_eq_true, or_self, true_or, or_true, false_or, or_false, ite_not, Decidable.not_not, decide_eq_true_eq, Bool.not_true, Bool.not_false, Bool.false_eq_true, Bool.not_eq_true, n10, n20, n21, n30, n31, n32, n40, n41, n42, n43, ↓reduceIte]
      · have ih' := ih (u / 10) G hd (by omega) (by omega) (by omega)
        rw [if_neg h7, List.nil_append]
        have h8 : n < u := by omega
        have h9 : ¬ u = 1 := by omega
        simp (disch := first | assumption | exact c2_int _ | exact c2_ref _ | exact c2_jk | exact c2_null | omega | (apply rN1; assumption) | (apply rN2; assumption) | (apply rN3; assumption) | (apply rN4; assumption) | exact bI_r _ | exact bI_01 _) only [↓fX4_appendNumber_0, ↓fX4_appendNumber_2, ↓fX4_appendNumber_4, ↓fX4_appendNumber_7, ↓fX4_appendNumber_8, ↓fX4_appendNumber_9, ↓fX4_appendNumber_12, ↓fX4_appendNumber_13, ↓fX4_appendNumber_14, ↓fX4_appendNumber_17, ↓fX4_appendNumber_18, ↓fX4_appendNumber_20, ↓fX4_appendNumber_21, ↓fX4_appendNumber_22, ↓fX4_appendNumber_23, ↓fX4_appendNumber_25, ↓fX4_appendNumber_26, ↓fX4_appendNumber_27, ↓fX4_appendNumber_30, ↓fX4_appendNumber_31, ↓fX4_appendNumber_33, ↓fX4_appendNumber_34, ↓fX4_appendNumber_35, ↓fX4_appendNumber_38, ↓ih', h6, h8, h9, and_self, true_and, and_true, false_and, and_false, not_true_eq_false, not_false_eq_true, or_self, true_or, or_true, false_or, or_false, ite_not, Decidable.not_not, decide_eq_true_eq, Bool.not_true, Bool.not_false, Bool.false_eq_true, Bool.not_eq_true, n10, n20, n21, n30, n31, n32, n40, n41, n42, n43, ↓reduceIte]
theorem c4_appendNumber (hp : shP E r P) (hn : 0 ≤ n ∧ n < 2147483648) (h4 : 0 ≤ G P 1 ∧ G P 1 ≤ 90000) : RK MX4_appendNumber 0 [.ref P, .int (zi n), jk] [] (0, 0) (E, zg G, zk L, r) Q = Q (E, zg (wrL G P 1 (P + 1) 3600 (dgC n)), zk L, r) .null := by
  have := c4_digits (L := L) (Q := Q) hp hn 6 100000 G (by decide) (by omega) (by omega) (by omega)
  simp (disch := first | assumption | exact c2_int _ | exact c2_ref _ | exact c2_jk | exact c2_null | omega | (apply rN1; assumption) | (apply rN2; assumption) | (apply rN3; assumption) | (apply rN4; assumption) | exact bI_r _ | exact bI_01 _) only [↓fX4_appendNumber_0, ↓fX4_appendNumber_2, ↓fX4_appendNumber_4, ↓fX4_appendNumber_7, ↓fX4_appendNumber_8, ↓fX4_appendNumber_9, ↓fX4_appendNumber_12, ↓fX4_appendNumber_13, ↓fX4_appendNumber_14, ↓fX4_appendNumber_17, ↓fX4_appendNumber_18, ↓fX4_appendNumber_20, ↓fX4_appendNumber_21, ↓fX4_appendNumber_22, ↓fX4_appendNumber_23, ↓fX4_appendNumber_25, ↓fX4_appendNumber_26, ↓fX4_appendNumber_27, ↓fX4_appendNumber_30, ↓fX4_appendNumber_31, ↓fX4_appendNumber_33, ↓fX4_appendNumber_34, ↓fX4_appendNumber_35, ↓fX4_appendNumber_38, and_self, true_and, and_true, false_and, and_false, not_true_eq_false, not_false_eq_true, or_self, true_or, or_true, false_or, or_false, ite_not, Decidable.not_not, decide_eq_true_eq, Bool.not_true, Bool.not_false, Bool.false_eq_true, Bool.not_eq_true, n10, n20, n21, n30, n31, n32, n40, n41, n42, n43, ↓reduceIte]
  exact this
/-- the whole row -/
def pwL (A : Int → Int) (R : Int → Int) (n : Int) : Nat → Int → Int → List Int
  | 0, _, _ => []
  | k + 1, p, sh => if p ≤ n then (if p ≤ sh then pwL A R n k (p + 1) sh else (if 1 < p then [32] else []) ++ (dgC (A p) ++ (if R p - p < 2 then pwL A R n k (p + 1) sh else [45] ++ (dgC (A (R p)) ++ pwL A R n k (p + 1) (R p))))) else []
theorem pwL_len (A R : Int → Int) (n : Int) : ∀ (k : Nat) (p sh : Int), (pwL A R n k p sh).length ≤ 14 * k := by
  intro k
  induction k with
  | zero => exact fun _ _ => Nat.le_refl 0
  | succ k ih =>
    intro p sh
    unfold pwL
    have i1 := ih (p + 1) sh
    have i2 := ih (p + 1) (R p)
    have d1 := dgL_len (A p) 6 100000
    have d2 := dgL_len (A (R p)) 6 100000
    have d3 : (if 1 < p then [(32 : Int)] else []).length ≤ 1 := by split <;> simp
    unfold dgC
    by_cases h1 : p ≤ n
    · rw [if_pos h1]
      by_cases h2 : p ≤ sh
      · rw [if_pos h2]
        omega
      · rw [if_neg h2, List.length_append, List.length_append]
        by_cases h3 : R p - p < 2
        · rw [if_pos h3]
          omega
        · rw [if_neg h3, List.length_append, List.length_append, List.length_singleton]
          omega
    · rw [if_neg h1]
      exact Nat.zero_le _
theorem shP_c {S : Nat} {ys : List Int} (hS : S + 5 < P ∨ P + 1 < S) : ∀ q, S ≤ q → q ≤ S + 5 → wrL G P 1 (P + 1) 3600 ys q = G q := fun q h1 h2 => wrL_q (by omega) (by omega)
theorem reL_n (g : Int → Int) (n by_ : Int) : ∀ (k : Nat) (i : Int), i ≤ n → reL g n by_ k i ≤ n := by
  intro k
  induction k with
  | zero => exact fun i h => h
  | succ k ih =>
    intro i h
    unfold reL
    split
    · exact ih _ (by omega)
    · exact h
theorem c4_write_key {l4 : Value} {sh : Int} (hs : shS E r S) (hp : shP E r P) (F : List Int → Nat → Nat → Int) {n : Int} {ys : List Int} (hF : ∀ ys, F ys S 13 = n) (h6 : p ≤ n ∧ n < 10000) (h7 : ¬ p ≤ sh) (h1 : 1 ≤ p) (h4 : I32 sh)
    (a1 : ∀ ys b Q, ys.length ≤ 100 → RK MX4_append 0 [.ref P, .int (zi b)] [] (0, 0) (E, zg (F ys), zk L, r) Q = Q (E, zg (F (ys ++ [b])), zk L, r) .null)
    (t : ∀ xs, xs.length ≤ 1 → RK MX4_write 36 [.ref P, .ref S, .int (zi sh), .int (zi p), l4] [] (0, 0) (E, zg (F xs), zk L, r) Q = Q (E, zg (F (xs ++ ys)), zk L, r) .null) :
    RK MX4_write 9 [.ref P, .ref S, .int (zi sh), .int (zi p), l4] [] (0, 0) (E, zg (F []), zk L, r) Q = Q (E, zg (F ((if 1 < p then [32] else []) ++ ys)), zk L, r) .null := by
  obtain ⟨p0, p1, p2, p3⟩ := id hp
  obtain ⟨s0, ⟨s1, s2, s3, s4, s5⟩, ⟨l1, l2, l3, l4, l5⟩, r1, r2, r3, r4, r5⟩ := id hs
  have h6' := h6.1
  by_cases h8 : p ≤ 1
  · rw [if_neg (by omega), ← t [] (by decide)]
    simp (disch := first | assumption | exact c2_int _ | exact c2_ref _ | exact c2_jk | exact c2_null | omega | (apply rN1; assumption) | (apply rN2; assumption) | (apply rN3; assumption) | (apply rN4; assumption) | exact bI_r _ | exact bI_01 _) only [↓fX4_write_0, ↓fX4_write_1, ↓fX4_write_2, ↓fX4_write_5, ↓fX4_write_6, ↓fX4_write_7, ↓fX4_write_8, ↓fX4_write_9, ↓fX4_write_10, ↓fX4_write_10n, ↓fX4_write_11, ↓fX4_write_14, ↓fX4_write_17, ↓fX4_write_18, ↓fX4_write_19, ↓fX4_write_22, ↓fX4_write_25, ↓fX4_write_26, ↓fX4_write_27, ↓fX4_write_30, ↓fX4_write_31, ↓fX4_write_33, ↓fX4_write_37, ↓fX4_write_37n, ↓fX4_write_38, ↓fX4_write_39, ↓fX4_write_42, ↓fX4_write_45, ↓fX4_write_45n, ↓fX4_write_46, ↓fX4_write_47, ↓fX4_write_50, ↓fX4_write_52, ↓fX4_write_54, ↓fX4_write_55, ↓fX4_write_56, ↓fX4_write_57, ↓fX4_write_60, ↓fX4_write_63, ↓fX4_write_64, ↓fX4_write_66, ↓fX4_write_69, ↓fX4_write_70, ↓fX4_write_70n, ↓fX4_write_71, ↓fX4_write_73, ↓fX4_write_76, ↓fX4_write_79, ↓fX4_write_81, ↓fX4_write_82, ↓fX4_write_85, ↓fX4_write_88, ↓t, hF, h6', h7, h8, and_self, true_and, and_true, false_and, and_false, not_true_eq_false, not_false_eq_true, or_self, true_or, or_true, false_or, or_false, ite_not, Decidable.not_not, decide_eq_true_eq, Bool.not_true, Bool.not_false, Bool.false_eq_true, Bool.not_eq_true, n10, n20, n21, n30, n31, n32, n40, n41, n42, n43, ↓reduceIte]
  · rw [if_pos (by omega), ← t [32] (by decide)]
    have a1' := fun Q => a1 [] 32 Q (by decide)
    rw [List.nil_append] at a1'
    simp (disch := first | assumption | exact c2_int _ | exact c2_ref _ | exact c2_jk | exact c2_null | omega | (apply rN1; assumption) | (apply rN2; assumption) | (apply rN3; assumption) | (apply rN4; assumption) | exact bI_r _ | exact bI_01 _) only [↓fX4_write_0, ↓fX4_write_1, ↓fX4_write_2, ↓fX4_write_5, ↓fX4_write_6, ↓fX4_write_7, ↓fX4_write_8, ↓fX4_write_9, ↓fX4_write_10, ↓fX4_write_10n, ↓fX4_write_11, ↓fX4_write_14, ↓fX4_write_17, ↓fX4_write_18, ↓fX4_write_19, ↓fX4_write_22, ↓fX4_write_25, ↓fX4_write_26, ↓fX4_write_27, ↓fX4_write_30, ↓fX4_write_31, ↓fX4_write_33, ↓fX4_write_37, ↓fX4_write_37n, ↓fX4_write_38, ↓fX4_write_39, ↓fX4_write_42, ↓fX4_write_45, ↓fX4_write_45n, ↓fX4_write_46, ↓fX4_write_47, ↓fX4_write_50, ↓fX4_write_52, ↓fX4_write_54, ↓fX4_write_55, ↓fX4_write_56, ↓fX4_write_57, ↓fX4_write_60, ↓fX4_write_63, ↓fX4_write_64, ↓fX4_write_66, ↓fX4_write_69, ↓fX4_write_70, ↓fX4_write_70n, ↓fX4_write_71, ↓fX4_write_73, ↓fX4_write_76, ↓fX4_write_79, ↓fX4_write_81, ↓fX4_write_82, ↓fX4_write_85, ↓fX4_write_88, ↓a1', hF, h6', h7, h8, and_self, true_and, and_true, false_and, and_false, not_true_eq_false, not_false_eq_true, or_self, true_or, or_true, false_or, or_false, ite_not, Decidable.not_not, decide_eq_true_eq, Bool.not_true, Bool.not_false, Bool.false_eq_true, Bool.not_eq_true, n10, n20, n21, n30, n31, n32, n40, n41, n42, n43, ↓reduceIte]
theorem c4_write_tail {l4 : Value} {sh : Int} (hs : shS E r S) (hp : shP E r P) (F : List Int → Nat → Nat → Int) (A : Int → Int) (e : Int) (pw : Int → Int → List Int) (n : Int) (h6 : 1 ≤ p ∧ p ≤ n) (he : 1 ≤ e ∧ e ≤ n) (hn : n < 10000) (hdg : ∀ n, (dgC n).length ≤ 6)
    (a1 : ∀ ys b Q, ys.length ≤ 100 → RK MX4_append 0 [.ref P, .int (zi b)] [] (0, 0) (E, zg (F ys), zk L, r) Q = Q (E, zg (F (ys ++ [b])), zk L, r) .null)
    (a2 : ∀ ys q Q, I32 q → RK MX7_numberAt 0 [.ref S, .int (zi q)] [] (0, 0) (E, zg (F ys), zk L, r) Q = Q (E, zg (F ys), zk L, r) (.int (zi (A q))))
    (a3 : ∀ ys q Q, 1 ≤ q ∧ q ≤ n → ys.length ≤ 100 → RK MX4_appendNumber 0 [.ref P, .int (zi (A q)), jk] [] (0, 0) (E, zg (F ys), zk L, r) Q = Q (E, zg (F (ys ++ dgC (A q))), zk L, r) .null)
    (a4 : ∀ ys Q, RK MX8_runEnd 0 [.ref S, .int (zi p), jk] [] (0, 0) (E, zg (F ys), zk L, r) Q = Q (E, zg (F ys), zk L, r) (.int (zi e)))
    (a5 : ∀ ys sh' l4, ys.length ≤ 14 → I32 sh' → RK MX4_write 9 [.ref P, .ref S, .int (zi sh'), .int (zi (p + 1)), l4] [] (0, 0) (E, zg (F ys), zk L, r) Q = Q (E, zg (F (ys ++ pw (p + 1) sh')), zk L, r) .null) :
    I32 sh → ∀ xs, xs.length ≤ 1 → RK MX4_write 36 [.ref P, .ref S, .int (zi sh), .int (zi p), l4] [] (0, 0) (E, zg (F xs), zk L, r) Q = Q (E, zg (F (xs ++ (dgC (A p) ++ (if e - p < 2 then pw (p + 1) sh else [45] ++ (dgC (A e) ++ pw (p + 1) e))))), zk L, r) .null := by
  intro h4 xs hx
  obtain ⟨p0, p1, p2, p3⟩ := id hp
  have s0 := hs.1
  have d1 := hdg (A p)
  have d2 := hdg (A e)
  have w1 : (xs ++ dgC (A p)).length ≤ 7 := by
    rw [List.length_append]
    omega
  have w2 : (xs ++ dgC (A p) ++ [45]).length ≤ 8 := by
    rw [List.length_append, List.length_singleton]
    omega
  have w3 : (xs ++ dgC (A p) ++ [45] ++ dgC (A e)).length ≤ 14 := by
    rw [List.length_append]
    omega
  have b1 := fun Q => a3 xs p Q h6 (by omega)
  have b2 := fun Q => a1 (xs ++ dgC (A p)) 45 Q (by omega)
  have b3 := fun Q => a3 (xs ++ dgC (A p) ++ [45]) e Q he (by omega)
  have b4 := a5 (xs ++ dgC (A p)) sh (.int (zi e)) (by omega) h4
  have b5 := a5 (xs ++ dgC (A p) ++ [45] ++ dgC (A e)) e (.int (zi e)) w3 (by omega)
  have b6 := fun Q => a2 (xs ++ dgC (A p) ++ [45]) e Q (by omega)
  by_cases h9 : e - p < 2
  · rw [if_pos h9, ← List.append_assoc, ← b4]
    simp (disch := first | assumption | exact c2_int _ | exact c2_ref _ | exact c2_jk | exact c2_null | omega | (apply rN1; assumption) | (apply rN2; assumption) | (apply rN3; assumption) | (apply rN4; assumption) | exact bI_r _ | exact bI_01 _) only [↓fX4_write_0, ↓fX4_write_1, ↓fX4_write_2, ↓fX4_write_5, ↓fX4_write_6, ↓fX4_write_7, ↓fX4_write_8, ↓fX4_write_10, ↓fX4_write_10n, ↓fX4_write_11, ↓fX4_write_14, ↓fX4_write_17, ↓fX4_write_18, ↓fX4_write_19, ↓fX4_write_22, ↓fX4_write_25, ↓fX4_write_26, ↓fX4_write_27, ↓fX4_write_30, ↓fX4_write_31, ↓fX4_write_33, ↓fX4_write_36, ↓fX4_write_37, ↓fX4_write_37n, ↓fX4_write_38, ↓fX4_write_39, ↓fX4_write_42, ↓fX4_write_45, ↓fX4_write_45n, ↓fX4_write_46, ↓fX4_write_47, ↓fX4_write_50, ↓fX4_write_52, ↓fX4_write_54, ↓fX4_write_55, ↓fX4_write_56, ↓fX4_write_57, ↓fX4_write_60, ↓fX4_write_63, ↓fX4_write_64, ↓fX4_write_66, ↓fX4_write_69, ↓fX4_write_70, ↓fX4_write_70n, ↓fX4_write_71, ↓fX4_write_73, ↓fX4_write_76, ↓fX4_write_79, ↓fX4_write_81, ↓fX4_write_82, ↓fX4_write_85, ↓fX4_write_88, ↓b1, ↓a2, ↓a4, h9, and_self, true_and, and_true, false_and, and_false, not_true_eq_false, not_false_eq_true, or_self, true_or, or_true, false_or, or_false, ite_not, Decidable.not_not, decide_eq_true_eq, Bool.not_true, Bool.not_false, Bool.false_eq_true, Bool.not_eq_true, n10, n20, n21, n30, n31, n32, n40, n41, n42, n43, ↓reduceIte]
  · rw [if_neg h9, ← List.append_assoc, ← List.append_assoc, ← List.append_assoc, ← b5]
    simp (disch := first | assumption | exact c2_int _ | exact c2_ref _ | exact c2_jk | exact c2_null | omega | (apply rN1; assumption) | (apply rN2; assumption) | (apply rN3; assumption) | (apply rN4; assumption) | exact bI_r _ | exact bI_01 _) only [↓fX4_write_0, ↓fX4_write_1, ↓fX4_write_2, ↓fX4_write_5, ↓fX4_write_6, ↓fX4_write_7, ↓fX4_write_8, ↓fX4_write_10, ↓fX4_write_10n, ↓fX4_write_11, ↓fX4_write_14, ↓fX4_write_17, ↓fX4_write_18, ↓fX4_write_19, ↓fX4_write_22, ↓fX4_write_25, ↓fX4_write_26, ↓fX4_write_27, ↓fX4_write_30, ↓fX4_write_31, ↓fX4_write_33, ↓fX4_write_36, ↓fX4_write_37, ↓fX4_write_37n, ↓fX4_write_38, ↓fX4_write_39, ↓fX4_write_42, ↓fX4_write_45, ↓fX4_write_45n, ↓fX4_write_46, ↓fX4_write_47, ↓fX4_write_50, ↓fX4_write_52, ↓fX4_write_54, ↓fX4_write_55, ↓fX4_write_56, ↓fX4_write_57, ↓fX4_write_60, ↓fX4_write_63, ↓fX4_write_64, ↓fX4_write_66, ↓fX4_write_69, ↓fX4_write_70, ↓fX4_write_70n, ↓fX4_write_71, ↓fX4_write_73, ↓fX4_write_76, ↓fX4_write_79, ↓fX4_write_81, ↓fX4_write_82, ↓fX4_write_85, ↓fX4_write_88, ↓b1, ↓b2, ↓b3, ↓a2, ↓a4, h9, and_self, true_and, and_true, false_and, and_false, not_true_eq_false, not_false_eq_true, or_self, true_or, or_true, false_or, or_false, ite_not, Decidable.not_not, decide_eq_true_eq, Bool.not_true, Bool.not_false, Bool.false_eq_true, Bool.not_eq_true, n10, n20, n21, n30, n31, n32, n40, n41, n42, n43, ↓reduceIte]
theorem c4_write_loop (hs : shS E r S) (hp : shP E r P) (hS : S + 5 < P ∨ P + 1 < S) : ∀ (k : Nat) (p sh : Int) (l4 : Value) (G : Nat → Nat → Int), rgS G S → (∀ j, 1 ≤ j → j ≤ G S 13 → 0 ≤ nA G S j) → G S 13 + 1 - p ≤ k → 1 ≤ p → p + k ≤ 10000 → I32 sh → 0 ≤ G P 1 → G P 1 + 14 * k ≤ 80000 →
    RK MX4_write 9 [.ref P, .ref S, .int (zi sh), .int (zi p), l4] [] (0, 0) (E, zg G, zk L, r) Q = Q (E, zg (wrL G P 1 (P + 1) 3600 (pwL (nA G S) (reL (gA G S) (G S 13) (G S 2) 600) (G S 13) k p sh)), zk L, r) .null := by
  obtain ⟨p0, p1, p2, p3⟩ := id hp
  obtain ⟨s0, ⟨s1, s2, s3, s4, s5⟩, ⟨l1, l2, l3, l4, l5⟩, r1, r2, r3, r4, r5⟩ := id hs
  intro k
  induction k with
  | zero =>
    intro p sh l4 G hg hA h1 h2 h3 h4 h5 h5'
    obtain ⟨g0, g1, g2, g3, g4, g6, g7, g8, g13, ga1, ga2, ga3, ga4, ga5⟩ := id hg
    have h6 : ¬ p ≤ G S 13 := by omega
    rw [pwL, wrL_nil]
    simp (disch := first | assumption | exact c2_int _ | exact c2_ref _ | exact c2_jk | exact c2_null | omega | (apply rN1; assumption) | (apply rN2; assumption) | (apply rN3; assumption) | (apply rN4; assumption) | exact bI_r _ | exact bI_01 _) only [↓fX4_write_0, ↓fX4_write_1, ↓fX4_write_2, ↓fX4_write_5, ↓fX4_write_6, ↓fX4_write_7, ↓fX4_write_8, ↓fX4_write_9, ↓fX4_write_10, ↓fX4_write_10n, ↓fX4_write_11, ↓fX4_write_14, ↓fX4_write_17, ↓fX4_write_18, ↓fX4_write_19, ↓fX4_write_22, ↓fX4_write_25, ↓fX4_write_26, ↓fX4_write_27, ↓fX4_write_30, ↓fX4_write_31, ↓fX4_write_33, ↓fX4_write_36, ↓fX4_write_37, ↓fX4_write_37n, ↓fX4_write_38, ↓fX4_write_39, ↓fX4_write_42, ↓fX4_write_45, ↓fX4_write_45n, ↓fX4_write_46, ↓fX4_write_47, ↓fX4_write_50, ↓fX4_write_52, ↓fX4_write_54, ↓fX4_write_55, ↓fX4_write_56, ↓fX4_write_57, ↓fX4_write_60, ↓fX4_write_63, ↓fX4_write_64, ↓fX4_write_66, ↓fX4_write_69, ↓fX4_write_70, ↓fX4_write_70n, ↓fX4_write_71, ↓fX4_write_73, ↓fX4_write_76, ↓fX4_write_79, ↓fX4_write_81, ↓fX4_write_82, ↓fX4_write_85, ↓fX4_write_88, h6, and_self, true_and, and_true, false_and, and_false, not_true_eq_false, not_false_eq_true, or_self, true_or, or_true, false_or, or_false, ite_not, Decidable.not_not, decide_eq_true_eq, Bool.not_true, Bool.not_false, Bool.false_eq_true, Bool.not_eq_true, n10, n20, n21, n30, n31, n32, n40, n41, n42, n43, ↓reduceIte]
  | succ k ih =>
    intro p sh l4 G hg hA h1 h2 h3 h4 h5 h5'
    obtain ⟨g0, g1, g2, g3, g4, g6, g7, g8, g13, ga1, ga2, ga3, ga4, ga5⟩ := id hg
    by_cases h6 : p ≤ G S 13
    · by_cases h7 : p ≤ sh
      · have h7' : ¬ sh < p := by omega
        have ih' := ih (p + 1) sh l4 G hg hA (by omega) (by omega) (by omega) h4 h5 (by omega)
        rw [pwL, if_pos h6, if_pos h7, fX4_write_9]
        simp (disch := first | assumption | exact c2_int _ | exact c2_ref _ | exact c2_jk | exact c2_null | omega | (apply rN1; assumption) | (apply rN2; assumption) | (apply rN3; assumption) | (apply rN4; assumption) | exact bI_r _ | exact bI_01 _) only [↓fX4_write_0, ↓fX4_write_1, ↓fX4_write_2, ↓fX4_write_5, ↓fX4_write_6, ↓fX4_write_7, ↓fX4_write_8, ↓fX4_write_10, ↓fX4_write_10n, ↓fX4_write_11, ↓fX4_write_14, ↓fX4_write_17, ↓fX4_write_18, ↓fX4_write_19, ↓fX4_write_22, ↓fX4_write_25, ↓fX4_write_26, ↓fX4_write_27, ↓fX4_write_30, ↓fX4_write_31, ↓fX4_write_33, ↓fX4_write_36, ↓fX4_write_37, ↓fX4_write_37n, ↓fX4_write_38, ↓fX4_write_39, ↓fX4_write_42, ↓fX4_write_45, ↓fX4_write_45n, ↓fX4_write_46, ↓fX4_write_47, ↓fX4_write_50, ↓fX4_write_52, ↓fX4_write_54, ↓fX4_write_55, ↓fX4_write_56, ↓fX4_write_57, ↓fX4_write_60, ↓fX4_write_63, ↓fX4_write_64, ↓fX4_write_66, ↓fX4_write_69, ↓fX4_write_70, ↓fX4_write_70n, ↓fX4_write_71, ↓fX4_write_73, ↓fX4_write_76, ↓fX4_write_79, ↓fX4_write_81, ↓fX4_write_82, ↓fX4_write_85, ↓fX4_write_88, ↓ih', h6, h7, and_self, true_and, and_true, false_and, and_false, not_true_eq_false, not_false_eq_true, or_self, true_or, or_true, false_or, or_false, ite_not, Decidable.not_not, decide_eq_true_eq, Bool.not_true, Bool.not_false, Bool.false_eq_true, Bool.not_eq_true, n10, n20, n21, n30, n31, n32, n40, n41, n42, n43, ↓reduceIte]
      · have hdg : ∀ n, (dgC n).length ≤ 6 := fun n => dgL_len n 6 100000
        have hE : ∀ xs ys, wrL (wrL G P 1 (P + 1) 3600 xs) P 1 (P + 1) 3600 ys = wrL G P 1 (P + 1) 3600 (xs ++ ys) := fun xs ys => wrL_app h5 (by omega)
        have hN : ∀ ys, wrL G P 1 (P + 1) 3600 ys P 1 = G P 1 + ys.length := fun ys => wrL_n
        have hC : ∀ ys, rgS (wrL G P 1 (P + 1) 3600 ys) S ∧ nA (wrL G P 1 (P + 1) 3600 ys) S = nA G S ∧ gA (wrL G P 1 (P + 1) 3600 ys) S = gA G S ∧ wrL G P 1 (P + 1) 3600 ys S = G S := fun ys => ⟨rgS_c (shP_c hS) hg, nA_c (shP_c hS), gA_c (shP_c hS), shP_c hS S (by omega) (by omega)⟩
        have bA : ∀ q, 1 ≤ q → q ≤ G S 13 → 0 ≤ nA G S q ∧ nA G S q < 2147483648 := fun q q1 q2 => ⟨hA q q1 q2, by have := nA_b hg q; omega⟩
        have bR := reL_b (gA G S) (G S 13) (G S 2) 600 p
        have bR2 := reL_n (gA G S) (G S 13) (G S 2) 600 p h6
        have a1 : ∀ ys b Q, ys.length ≤ 100 → RK MX4_append 0 [.ref P, .int (zi b)] [] (0, 0) (E, zg (wrL G P 1 (P + 1) 3600 ys), zk L, r) Q = Q (E, zg (wrL G P 1 (P + 1) 3600 (ys ++ [b])), zk L, r) .null := by
          intro ys b Q hy
          rw [← hE]
          exact c4_append hp (by rw [hN]; omega)
        have a2 : ∀ ys q Q, I32 q → RK MX7_numberAt 0 [.ref S, .int (zi q)] [] (0, 0) (E, zg (wrL G P 1 (P + 1) 3600 ys), zk L, r) Q = Q (E, zg (wrL G P 1 (P + 1) 3600 ys), zk L, r) (.int (zi (nA G S q))) := by
          intro ys q Q hq
          rw [c7_numberAt hs (hC ys).1 hq, (hC ys).2.1]
        have a3 : ∀ ys q Q, 1 ≤ q ∧ q ≤ G S 13 → ys.length ≤ 100 → RK MX4_appendNumber 0 [.ref P, .int (zi (nA G S q)), jk] [] (0, 0) (E, zg (wrL G P 1 (P + 1) 3600 ys), zk L, r) Q = Q (E, zg (wrL G P 1 (P + 1) 3600 (ys ++ dgC (nA G S q))), zk L, r) .null := by
          intro ys q Q hq hy
          rw [← hE]
          exact c4_appendNumber hp (bA q hq.1 hq.2) (by rw [hN]; omega)
        have a4 : ∀ ys Q, RK MX8_runEnd 0 [.ref S, .int (zi p), jk] [] (0, 0) (E, zg (wrL G P 1 (P + 1) 3600 ys), zk L, r) Q = Q (E, zg (wrL G P 1 (P + 1) 3600 ys), zk L, r) (.int (zi (reL (gA G S) (G S 13) (G S 2) 600 p))) := by
          intro ys Q
          rw [c8_runEnd hs (hC ys).1 (by omega), (hC ys).2.2.1, (hC ys).2.2.2]
        have a5 : ∀ ys sh' l4, ys.length ≤ 14 → I32 sh' → RK MX4_write 9 [.ref P, .ref S, .int (zi sh'), .int (zi (p + 1)), l4] [] (0, 0) (E, zg (wrL G P 1 (P + 1) 3600 ys), zk L, r) Q = Q (E, zg (wrL G P 1 (P + 1) 3600 (ys ++ pwL (nA G S) (reL (gA G S) (G S 13) (G S 2) 600) (G S 13) k (p + 1) sh')), zk L, r) .null := by
          intro ys sh' l4 hy hsh
          have := ih (p + 1) sh' l4 (wrL G P 1 (P + 1) 3600 ys) (hC ys).1 (by rw [(hC ys).2.1, (hC ys).2.2.2]; exact hA) (by rw [(hC ys).2.2.2]; omega) (by omega) (by omega) hsh (by rw [hN]; omega) (by rw [hN]; omega)
          rw [(hC ys).2.1, (hC ys).2.2.1, (hC ys).2.2.2, hE] at this
          exact this
        have d1 := hdg (nA G S p)
        have d2 := hdg (nA G S (reL (gA G S) (G S 13) (G S 2) 600 p))
        have key : RK MX4_write 9 [.ref P, .ref S, .int (zi sh), .int (zi p), l4] [] (0, 0) (E, zg (wrL G P 1 (P + 1) 3600 []), zk L, r) Q = Q (E, zg (wrL G P 1 (P + 1) 3600 ((if 1 < p then [32] else []) ++ (dgC (nA G S p) ++ (if reL (gA G S) (G S 13) (G S 2) 600 p - p < 2 then pwL (nA G S) (reL (gA G S) (G S 13) (G S 2) 600) (G S 13) k (p + 1) sh else [45] ++ (dgC (nA G S (reL (gA G S) (G S 13) (G S 2) 600 p)) ++ pwL (nA G S) (reL (gA G S) (G S 13) (G S 2) 600) (G S 13) k (p + 1) (reL (gA G S) (G S 13) (G S 2) 600 p)))))), zk L, r) .null := by
          have e13 : ∀ ys, wrL G P 1 (P + 1) 3600 ys S 13 = G S 13 := fun ys => by rw [(hC ys).2.2.2]
          have t := c4_write_tail (L := L) (Q := Q) (p := p) (sh := sh) (l4 := l4) hs hp (wrL G P 1 (P + 1) 3600) (nA G S) (reL (gA G S) (G S 13) (G S 2) 600 p) (fun t sh' => pwL (nA G S) (reL (gA G S) (G S 13) (G S 2) 600) (G S 13) k t sh') (G S 13) ⟨h2, h6⟩ ⟨by omega, by omega⟩ (by omega) hdg a1 a2 a3 a4 a5 h4
          exact c4_write_key hs hp (wrL G P 1 (P + 1) 3600) e13 ⟨h6, by omega⟩ h7 h2 h4 a1 t
        rw [wrL_nil] at key
        rw [pwL, if_pos h6, if_neg h7]
        exact key
    · rw [pwL, if_neg h6, wrL_nil]
      simp (disch := first | assumption | exact c2_int _ | exact c2_ref _ | exact c2_jk | exact c2_null | omega | (apply rN1; assumption) | (apply rN2; assumption) | (apply rN3; assumption) | (apply rN4; assumption) | exact bI_r _ | exact bI_01 _) only [↓fX4_write_0, ↓fX4_write_1, ↓fX4_write_2, ↓fX4_write_5, ↓fX4_write_6, ↓fX4_write_7, ↓fX4_write_8, ↓fX4_write_9, ↓fX4_write_10, ↓fX4_write_10n, ↓fX4_write_11, ↓fX4_write_14, ↓fX4_write_17, ↓fX4_write_18, ↓fX4_write_19, ↓fX4_write_22, ↓fX4_write_25, ↓fX4_write_26, ↓fX4_write_27, ↓fX4_write_30, ↓fX4_write_31, ↓fX4_write_33, ↓fX4_write_36, ↓fX4_write_37, ↓fX4_write_37n, ↓fX4_write_38, ↓fX4_write_39, ↓fX4_write_42, ↓fX4_write_45, ↓fX4_write_45n, ↓fX4_write_46, ↓fX4_write_47, ↓fX4_write_50, ↓fX4_write_52, ↓fX4_write_54, ↓fX4_write_55, ↓fX4_write_56, ↓fX4_write_57, ↓fX4_write_60, ↓fX4_write_63, ↓fX4_write_64, ↓fX4_write_66, ↓fX4_write_69, ↓fX4_write_70, ↓fX4_write_70n, ↓fX4_write_71, ↓fX4_write_73, ↓fX4_write_76, ↓fX4_write_79, ↓fX4_write_81, ↓fX4_write_82, ↓fX4_write_85, ↓fX4_write_88, h6, and_self, true_and, and_true, false_and, and_false, not_true_eq_false, not_false_eq_true, or_self, true_or, or_true, false_or, or_false, ite_not, Decidable.not_not, decide_eq_true_eq, Bool.not_true, Bool.not_false, Bool.false_eq_true, Bool.not_eq_true, n10, n20, n21, n30, n31, n32, n40, n41, n42, n43, ↓reduceIte]
/-- the text of a row -/
def pwC (G : Nat → Nat → Int) (S : Nat) : List Int := pwL (nA G S) (reL (gA G S) (G S 13) (G S 2) 600) (G S 13) 600 1 0
theorem c4_write (hs : shS E r S) (hp : shP E r P) (hS : S + 5 < P ∨ P + 1 < S) (hg : rgS G S) (hA : ∀ j, 1 ≤ j → j ≤ G S 13 → 0 ≤ nA G S j) : RK MX4_write 0 [.ref P, .ref S, jk, jk, jk] [] (0, 0) (E, zg G, zk L, r) Q = Q (E, zg (wrL (u2 G P 1 0) P 1 (P + 1) 3600 (pwC G S)), zk L, r) .null := by
  obtain ⟨p0, p1, p2, p3⟩ := id hp
  have hc : ∀ q, S ≤ q → q ≤ S + 5 → u2 G P 1 0 q = G q := fun q h1 h2 => u2_a _ _ _ _ (by omega)
  have h0 : u2 G P 1 0 P 1 = 0 := u2_s _ _ _ _
  have e1 : rgS (u2 G P 1 0) S := rgS_c hc hg
  have e2 : nA (u2 G P 1 0) S = nA G S := nA_c hc
  have e3 : gA (u2 G P 1 0) S = gA G S := gA_c hc
  have e4 : u2 G P 1 0 S = G S := hc S (by omega) (by omega)
  have := c4_write_loop (L := L) (Q := Q) hs hp hS 600 1 0 jk (u2 G P 1 0) e1 (by rw [e2, e4]; exact hA) (by have := e1.2.2.2.2.2.2.2.2.1; omega) (by omega) (by omega) (by omega) (by omega) (by omega)
  rw [e2, e3, e4] at this
  simp (disch := first | assumption | exact c2_int _ | exact c2_ref _ | exact c2_jk | exact c2_null | omega | (apply rN1; assumption) | (apply rN2; assumption) | (apply rN3; assumption) | (apply rN4; assumption) | exact bI_r _ | exact bI_01 _) only [↓fX4_write_0, ↓fX4_write_1, ↓fX4_write_2, ↓fX4_write_5, ↓fX4_write_6, ↓fX4_write_7, ↓fX4_write_8, ↓fX4_write_10, ↓fX4_write_10n, ↓fX4_write_11, ↓fX4_write_14, ↓fX4_write_17, ↓fX4_write_18, ↓fX4_write_19, ↓fX4_write_22, ↓fX4_write_25, ↓fX4_write_26, ↓fX4_write_27, ↓fX4_write_30, ↓fX4_write_31, ↓fX4_write_33, ↓fX4_write_36, ↓fX4_write_37, ↓fX4_write_37n, ↓fX4_write_38, ↓fX4_write_39, ↓fX4_write_42, ↓fX4_write_45, ↓fX4_write_45n, ↓fX4_write_46, ↓fX4_write_47, ↓fX4_write_50, ↓fX4_write_52, ↓fX4_write_54, ↓fX4_write_55, ↓fX4_write_56, ↓fX4_write_57, ↓fX4_write_60, ↓fX4_write_63, ↓fX4_write_64, ↓fX4_write_66, ↓fX4_write_69, ↓fX4_write_70, ↓fX4_write_70n, ↓fX4_write_71, ↓fX4_write_73, ↓fX4_write_76, ↓fX4_write_79, ↓fX4_write_81, ↓fX4_write_82, ↓fX4_write_85, ↓fX4_write_88, and_self, true_and, and_true, false_and, and_false, not_true_eq_false, not_false_eq_true, or_self, true_or, or_true, false_or, or_false, ite_not, Decidable.not_not, decide_eq_true_eq, Bool.not_true, Bool.not_false, Bool.false_eq_true, Bool.not_eq_true, n10, n20, n21, n30, n31, n32, n40, n41, n42, n43, ↓reduceIte]
  exact this
end BS
