/-! The row as a text. -/
def shP (E : AE) (r : Nat → Nat → Option Nat) (P : Nat) : Prop := kd E P = 11 ∧ kd E (P + 1) = 1 ∧ le E (P + 1) = 3600 ∧ r P 0 = some (P + 1)
/-- a list written behind what stands: object o counts in its field f, the array a takes the first cap -/
def wrL (G : Nat → Nat → Int) (o f a cap : Nat) (ys : List Int) : Nat → Nat → Int := fun q j => if q = o ∧ j = f then G o f + ys.length else if q = a ∧ G o f ≤ j ∧ j < G o f + ys.length ∧ j < cap then ys.getD (j - (G o f).toNat) 0 else G q j
theorem wrL_nil {o f a cap : Nat} {G : Nat → Nat → Int} : wrL G o f a cap [] = G := by
  funext q j
  unfold wrL
  by_cases h : q = o ∧ j = f
  · rw [if_pos h, h.1, h.2]
    simp
  · rw [if_neg h, if_neg (by simp; omega)]
theorem wrL_n {o f a cap : Nat} {G : Nat → Nat → Int} {ys : List Int} : wrL G o f a cap ys o f = G o f + ys.length := if_pos ⟨rfl, rfl⟩
theorem wrL_o {o f a cap : Nat} {G : Nat → Nat → Int} {ys : List Int} {q j : Nat} (h : ¬ (q = o ∧ j = f)) (h2 : q ≠ a) : wrL G o f a cap ys q j = G q j := by
  unfold wrL
  rw [if_neg h, if_neg (fun z => h2 z.1)]
theorem wrL_q {o f a cap : Nat} {G : Nat → Nat → Int} {ys : List Int} {q : Nat} (h : q ≠ o) (h2 : q ≠ a) : wrL G o f a cap ys q = G q := by
  funext j
  exact wrL_o (fun z => h z.1) h2
theorem wrL_app {o f a cap : Nat} {G : Nat → Nat → Int} {xs ys : List Int} (h0 : 0 ≤ G o f) (hne : a ≠ o) : wrL (wrL G o f a cap xs) o f a cap ys = wrL G o f a cap (xs ++ ys) := by
  funext q j
  have e1 : wrL G o f a cap xs o f = G o f + xs.length := wrL_n
  rw [wrL, e1]
  show _ = (if q = o ∧ j = f then G o f + (xs ++ ys).length else if q = a ∧ G o f ≤ j ∧ j < G o f + (xs ++ ys).length ∧ j < cap then (xs ++ ys).getD (j - (G o f).toNat) 0 else G q j)
  rw [List.length_append]
  by_cases h : q = o ∧ j = f
  · rw [if_pos h, if_pos h]
    omega
  · rw [if_neg h, if_neg h]
    by_cases h2 : q = a ∧ G o f + xs.length ≤ j ∧ (j : Int) < G o f + xs.length + ys.length ∧ j < cap
    · rw [if_pos h2, if_pos (by omega), List.getD_eq_getElem?_getD, List.getD_eq_getElem?_getD, List.getElem?_append_right (by omega)]
      congr 2
      omega
    · rw [if_neg h2]
      unfold wrL
      rw [if_neg h]
      by_cases h3 : q = a ∧ G o f ≤ j ∧ (j : Int) < G o f + xs.length ∧ j < cap
      · rw [if_pos h3, if_pos (by omega), List.getD_eq_getElem?_getD, List.getD_eq_getElem?_getD, List.getElem?_append_left (by omega)]
      · rw [if_neg h3, if_neg (by omega)]
theorem wrL_1 {o f a cap : Nat} {G : Nat → Nat → Int} {b : Int} (h0 : 0 ≤ G o f) (hne : a ≠ o) : u2 (if 0 ≤ G o f ∧ G o f < (cap : Int) then u2 G a (G o f).toNat b else G) o f ((if 0 ≤ G o f ∧ G o f < (cap : Int) then u2 G a (G o f).toNat b else G) o f + 1) = wrL G o f a cap [b] := by
  have e : (if 0 ≤ G o f ∧ G o f < (cap : Int) then u2 G a (G o f).toNat b else G) o f = G o f := by
    split
    · exact if_neg (fun z => hne z.1.symm)
    · rfl
  rw [e]
  funext q j
  show (if q = o ∧ j = f then _ else _) = (if q = o ∧ j = f then _ else _)
  by_cases h : q = o ∧ j = f
  · rw [if_pos h, if_pos h]
    rfl
  · rw [if_neg h, if_neg h]
    by_cases h2 : 0 ≤ G o f ∧ G o f < (cap : Int)
    · rw [if_pos h2]
      show (if q = a ∧ j = (G o f).toNat then b else G q j) = _
      by_cases h3 : q = a ∧ j = (G o f).toNat
      · rw [if_pos h3, if_pos ⟨h3.1, by omega, by simp; omega, by omega⟩, show j - (G o f).toNat = 0 by omega]
        rfl
      · rw [if_neg h3, if_neg (fun z => h3 ⟨z.1, by have := z.2.2.1; simp at this; omega⟩)]
    · rw [if_neg h2, if_neg (fun z => h2 ⟨h0, by omega⟩)]
/-- digits -/
def dgL (n : Int) : Nat → Int → List Int
  | 0, _ => []
  | k + 1, u => if 0 < u then (if u ≤ n ∨ u = 1 then [48 + n / u % 10] else []) ++ dgL n k (u / 10) else []
def dgC (n : Int) : List Int := dgL n 6 100000
section BS
variable {E : AE} {G L : Nat → Nat → Int} {r : Nat → Nat → Option Nat} {h : AH} {Q : AH → Value → Prop} {S P : Nat} {i v n p x b u : Int}
theorem dgL_len (n : Int) : ∀ (k : Nat) (u : Int), (dgL n k u).length ≤ k := by
  intro k
  induction k with
  | zero => exact fun _ => Nat.le_refl 0
  | succ k ih =>
    intro u
    unfold dgL
    by_cases h : 0 < u
    · rw [if_pos h, List.length_append]
      have := ih (u / 10)
      by_cases h2 : u ≤ n ∨ u = 1
      · rw [if_pos h2]
        simp only [List.length_cons, List.length_nil]
        omega
      · rw [if_neg h2]
        simp only [List.length_nil]
        omega
    · rw [if_neg h]
      exact Nat.zero_le _
/-- the whole row -/
def pwL (A : Int → Int) (R : Int → Int) (n : Int) : Nat → Int → Int → List Int
  | 0, _, _ => []
  | k + 1, p, sh => if p ≤ n then (if p ≤ sh then pwL A R n k (p + 1) sh else (if 1 < p then [32] else []) ++ (dgC (A p) ++ (if R p - p < 2 then pwL A R n k (p + 1) sh else [45] ++ (dgC (A (R p)) ++ pwL A R n k (p + 1) (R p))))) else []
theorem pwL_len (A R : Int → Int) (n : Int) : ∀ (k : Nat) (p sh : Int), (pwL A R n k p sh).length ≤ 14 * k := by
  intro k
  induction k with
  | zero => exact fun _ _ => Nat.le_refl 0
  | succ k ih =>
    intro p sh
    unfold pwL
    have i1 := ih (p + 1) sh
    have i2 := ih (p + 1) (R p)
    have d1 := dgL_len (A p) 6 100000
    have d2 := dgL_len (A (R p)) 6 100000
    have d3 : (if 1 < p then [(32 : Int)] else []).length ≤ 1 := by split <;> simp
    unfold dgC
    by_cases h1 : p ≤ n
    · rw [if_pos h1]
      by_cases h2 : p ≤ sh
      · rw [if_pos h2]
        omega
      · rw [if_neg h2, List.length_append, List.length_append]
        by_cases h3 : R p - p < 2
        · rw [if_pos h3]
          omega
        · rw [if_neg h3, List.length_append, List.length_append, List.length_singleton]
          omega
    · rw [if_neg h1]
      exact Nat.zero_le _
theorem shP_c {S : Nat} {ys : List Int} (hS : S + 5 < P ∨ P + 1 < S) : ∀ q, S ≤ q → q ≤ S + 5 → wrL G P 1 (P + 1) 3600 ys q = G q := fun q h1 h2 => wrL_q (by omega) (by omega)
theorem reL_n (g : Int → Int) (n by_ : Int) : ∀ (k : Nat) (i : Int), i ≤ n → reL g n by_ k i ≤ n := by
  intro k
  induction k with
  | zero => exact fun i h => h
  | succ k ih =>
    intro i h
    unfold reL
    split
    · exact ih _ (by omega)
    · exact h
/-- the text of a row -/
def pwC (G : Nat → Nat → Int) (S : Nat) : List Int := pwL (nA G S) (reL (gA G S) (G S 13) (G S 2) 600) (G S 13) 600 1 0
end BS
