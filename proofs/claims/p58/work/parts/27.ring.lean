/-! Ring and chain. -/
def rgF (f : Int → Int) (pos : Int) : Int → Int := fun j => if j < pos then f j else f (j + 1)
def rnL (g : Int) : Nat → (Int → Int) → Int → Int → Int
  | 0, f, cnt, pos => f ((pos + g - 1) % cnt)
  | k + 1, f, cnt, pos => rnL g k (rgF f ((pos + g - 1) % cnt)) (cnt - 1) ((pos + g - 1) % cnt)
def chL (A : Int → Int) (n : Int) : Nat → Int → Int → Int → (Int → Bool) → Int × Int × Int
  | 0, p, la, le_, _ => (p, la, le_)
  | k + 1, p, la, le_, v => if 1 ≤ p ∧ p ≤ n ∧ v p = false ∧ le_ < n then chL A n k (A p) (A p) (le_ + 1) (fun q => decide (q = p) || v q) else (p, la, le_)
section BS
variable {E : AE} {G L : Nat → Nat → Int} {r : Nat → Nat → Option Nat} {h : AH} {Q : AH → Value → Prop} {S T : Nat} {i v p x kk d e f w m c g : Int}
theorem cAt_T {H : Nat → Nat → Int} (ht : shT E T) (hi : 0 ≤ i ∧ i < 1200) : cAt E H T i = H T i.toNat := by
  unfold cAt
  rw [if_pos (by have := ht.2; omega)]
/-- where in a ring of cnt the one stands that is struck behind k others, told from the last one back -/
def rnP (g : Int) : Nat → Int → Int
  | 0, cnt => (-1 + g) % cnt
  | k + 1, cnt => (rnP g k (cnt - 1) + g) % cnt
def rnQ (g n : Int) : Nat → Int → Int → Int
  | 0, _, pos => pos
  | k + 1, cnt, pos => if cnt ≤ n then rnQ g n k (cnt + 1) ((pos + g) % cnt) else pos
theorem rnP_b (g : Int) (k : Nat) {cnt : Int} (h : 0 < cnt) : 0 ≤ rnP g k cnt ∧ rnP g k cnt < cnt := by
  cases k with
  | zero => exact ⟨Int.emod_nonneg _ (by omega), Int.emod_lt_of_pos _ h⟩
  | succ k => exact ⟨Int.emod_nonneg _ (by omega), Int.emod_lt_of_pos _ h⟩
theorem rnL_P (g : Int) : ∀ (k : Nat) (f : Int → Int) (cnt pos : Int), k + 1 ≤ cnt → rnL g k f cnt pos = f ((pos + rnP g k cnt) % cnt) := by
  intro k
  induction k with
  | zero =>
    intro f cnt pos h1
    show f ((pos + g - 1) % cnt) = f ((pos + (-1 + g) % cnt) % cnt)
    rw [Int.add_emod_emod]
    congr 2
    omega
  | succ k ih =>
    intro f cnt pos h1
    rw [rnL, ih _ _ _ (by omega), rnP, Int.add_emod_emod]
    have e1 : (pos + (rnP g k (cnt - 1) + g)) % cnt = ((pos + g - 1) % cnt + (rnP g k (cnt - 1) + 1)) % cnt := by
      rw [Int.emod_add_emod]
      congr 1
      omega
    rw [e1]
    have q1 : 0 ≤ (pos + g - 1) % cnt := Int.emod_nonneg _ (by omega)
    have q2 : (pos + g - 1) % cnt < cnt := Int.emod_lt_of_pos _ (by omega)
    generalize (pos + g - 1) % cnt = q at q1 q2 ⊢
    obtain ⟨p1, p2⟩ := rnP_b g k (cnt := cnt - 1) (by omega)
    generalize rnP g k (cnt - 1) = P at p1 p2 ⊢
    by_cases z : q + P < cnt - 1
    · have e2 : (q + P) % (cnt - 1) = q + P := Int.emod_eq_of_lt (by omega) z
      have e3 : (q + (P + 1)) % cnt = q + (P + 1) := Int.emod_eq_of_lt (by omega) (by omega)
      rw [e2, e3]
      unfold rgF
      rw [if_neg (by omega)]
      congr 1
      omega
    · have e2 : (q + P) % (cnt - 1) = q + P - (cnt - 1) := by
        have := Int.add_emod_right (q + P - (cnt - 1)) (cnt - 1)
        rw [Int.sub_add_cancel] at this
        rw [this]
        exact Int.emod_eq_of_lt (by omega) (by omega)
      have e3 : (q + (P + 1)) % cnt = q + (P + 1) - cnt := by
        have := Int.add_emod_right (q + (P + 1) - cnt) cnt
        rw [Int.sub_add_cancel] at this
        rw [this]
        exact Int.emod_eq_of_lt (by omega) (by omega)
      rw [e2, e3]
      unfold rgF
      rw [if_pos (by omega)]
      congr 1
      omega
theorem rnQ_P (g n : Int) : ∀ (k j : Nat) (cnt : Int), cnt + k = n + 1 → rnQ g n k cnt (rnP g j (cnt - 1)) = rnP g (j + k) n := by
  intro k
  induction k with
  | zero =>
    intro j cnt h
    show rnP g j (cnt - 1) = rnP g j n
    congr 1
    omega
  | succ k ih =>
    intro j cnt h
    rw [rnQ, if_pos (by omega)]
    have e : (rnP g j (cnt - 1) + g) % cnt = rnP g (j + 1) (cnt + 1 - 1) := by
      rw [Int.add_sub_cancel]
      rfl
    rw [e, ih (j + 1) (cnt + 1) (by omega)]
    congr 1
    omega
theorem rnQ_0 (g n : Int) {t : Nat} (h : (t : Int) < n) : rnQ g n (t + 1) (n - t) (-1) = rnP g t n := by
  rw [rnQ, if_pos (by omega)]
  have e : (-1 + g) % (n - t) = rnP g 0 (n - t + 1 - 1) := by
    rw [Int.add_sub_cancel]
    rfl
  rw [e, rnQ_P g n t 0 _ (by omega), Nat.zero_add]
theorem rnQ_b (g n : Int) (hn : n ≤ 600) : ∀ (k : Nat) (cnt pos : Int), 1 ≤ cnt → (-1 ≤ pos ∧ pos ≤ 600) → -1 ≤ rnQ g n k cnt pos ∧ rnQ g n k cnt pos ≤ 600 := by
  intro k
  induction k with
  | zero => intro cnt pos _ h; exact h
  | succ k ih =>
    intro cnt pos h1 h
    rw [rnQ]
    by_cases z : cnt ≤ n
    · rw [if_pos z]
      have m1 : 0 ≤ (pos + g) % cnt := Int.emod_nonneg _ (by omega)
      have m2 : (pos + g) % cnt < cnt := Int.emod_lt_of_pos _ (by omega)
      exact ih _ _ (by omega) (by omega)
    · rw [if_neg z]
      exact h
def rgC (G : Nat → Nat → Int) (S : Nat) (g turn : Int) : Int := if turn < G S 13 then rnL g turn.toNat (fun j => nA G S (j + 1)) (G S 13) 0 else -1
def chC (G : Nat → Nat → Int) (S : Nat) (x w : Int) : Int := if poC G S x = -1 then -1 else if w = 0 then (chL (nA G S) (G S 13) 600 (poC G S x) x 0 (fun _ => false)).2.2 else if w = 1 then (chL (nA G S) (G S 13) 600 (poC G S x) x 0 (fun _ => false)).2.1 else bI (1 ≤ (chL (nA G S) (G S 13) 600 (poC G S x) x 0 (fun _ => false)).1 ∧ (chL (nA G S) (G S 13) 600 (poC G S x) x 0 (fun _ => false)).1 ≤ G S 13)
end BS
