/-! Ring and chain. -/
def rgF (f : Int → Int) (pos : Int) : Int → Int := fun j => if j < pos then f j else f (j + 1)
def rnL (g : Int) : Nat → (Int → Int) → Int → Int → Int
  | 0, f, cnt, pos => f ((pos + g - 1) % cnt)
  | k + 1, f, cnt, pos => rnL g k (rgF f ((pos + g - 1) % cnt)) (cnt - 1) ((pos + g - 1) % cnt)
def chL (A : Int → Int) (n : Int) : Nat → Int → Int → Int → (Int → Bool) → Int × Int × Int
  | 0, p, la, le_, _ => (p, la, le_)
  | k + 1, p, la, le_, v => if 1 ≤ p ∧ p ≤ n ∧ v p = false ∧ le_ < n then chL A n k (A p) (A p) (le_ + 1) (fun q => decide (q = p) || v q) else (p, la, le_)
section BS
variable {E : AE} {G L : Nat → Nat → Int} {r : Nat → Nat → Option Nat} {h : AH} {Q : AH → Value → Prop} {S T : Nat} {i v p x kk d e f w m c g : Int}
theorem cAt_T {H : Nat → Nat → Int} (ht : shT E T) (hi : 0 ≤ i ∧ i < 1200) : cAt E H T i = H T i.toNat := by
  unfold cAt
  rw [if_pos (by have := ht.2; omega)]
/-- where in a ring of cnt the one stands that is struck behind k others, told from the last one back -/
def rnP (g : Int) : Nat → Int → Int
  | 0, cnt => (-1 + g) % cnt
  | k + 1, cnt => (rnP g k (cnt - 1) + g) % cnt
def rnQ (g n : Int) : Nat → Int → Int → Int
  | 0, _, pos => pos
  | k + 1, cnt, pos => if cnt ≤ n then rnQ g n k (cnt + 1) ((pos + g) % cnt) else pos
theorem rnP_b (g : Int) (k : Nat) {cnt : Int} (h : 0 < cnt) : 0 ≤ rnP g k cnt ∧ rnP g k cnt < cnt := by
  cases k with
  | zero => exact ⟨Int.emod_nonneg _ (by omega), Int.emod_lt_of_pos _ h⟩
  | succ k => exact ⟨Int.emod_nonneg _ (by omega), Int.emod_lt_of_pos _ h⟩
theorem rnL_P (g : Int) : ∀ (k : Nat) (f : Int → Int) (cnt pos : Int), k + 1 ≤ cnt → rnL g k f cnt pos = f ((pos + rnP g k cnt) % cnt) := by
  intro k
  induction k with
  | zero =>
    intro f cnt pos h1
    show f ((pos + g - 1) % cnt) = f ((pos + (-1 + g) % cnt) % cnt)
    rw [Int.add_emod_emod]
    congr 2
    omega
  | succ k ih =>
    intro f cnt pos h1
    rw [rnL, ih _ _ _ (by omega), rnP, Int.add_emod_emod]
    have e1 : (pos + (rnP g k (cnt - 1) + g)) % cnt = ((pos + g - 1) % cnt + (rnP g k (cnt - 1) + 1)) % cnt := by
      rw [Int.emod_add_emod]
      congr 1
      omega
    rw [e1]
    have q1 : 0 ≤ (pos + g - 1) % cnt := Int.emod_nonneg _ (by omega)
    have q2 : (pos + g - 1) % cnt < cnt := Int.emod_lt_of_pos _ (by omega)
    generalize (pos + g - 1) % cnt = q at q1 q2 ⊢
    obtain ⟨p1, p2⟩ := rnP_b g k (cnt := cnt - 1) (by omega)
    generalize rnP g k (cnt - 1) = P at p1 p2 ⊢
    by_cases z : q + P < cnt - 1
    · have e2 : (q + P) % (cnt - 1) = q + P := Int.emod_eq_of_lt (by omega) z
      have e3 : (q + (P + 1)) % cnt = q + (P + 1) := Int.emod_eq_of_lt (by omega) (by omega)
      rw [e2, e3]
      unfold rgF
      rw [if_neg (by omega)]
      congr 1
      omega
    · have e2 : (q + P) % (cnt - 1) = q + P - (cnt - 1) := by
        have := Int.add_emod_right (q + P - (cnt - 1)) (cnt - 1)
        rw [Int.sub_add_cancel] at this
        rw [this]
        exact Int.emod_eq_of_lt (by omega) (by omega)
      have e3 : (q + (P + 1)) % cnt = q + (P + 1) - cnt := by
        have := Int.add_emod_right (q + (P + 1) - cnt) cnt
        rw [Int.sub_add_cancel] at this
        rw [this]
        exact Int.emod_eq_of_lt (by omega) (by omega)
      rw [e2, e3]
      unfold rgF
      rw [if_pos (by omega)]
      congr 1
      omega
theorem rnQ_P (g n : Int) : ∀ (k j : Nat) (cnt : Int), cnt + k = n + 1 → rnQ g n k cnt (rnP g j (cnt - 1)) = rnP g (j + k) n := by
  intro k
  induction k with
  | zero =>
    intro j cnt h
    show rnP g j (cnt - 1) = rnP g j n
    congr 1
    omega
  | succ k ih =>
    intro j cnt h
    rw [rnQ, if_pos (by omega)]
    have e : (rnP g j (cnt - 1) + g) % cnt = rnP g (j + 1) (cnt + 1 - 1) := by
      rw [Int.add_sub_cancel]
      rfl
    rw [e, ih (j + 1) (cnt + 1) (by omega)]
    congr 1
    omega
theorem rnQ_0 (g n : Int) {t : Nat} (h : (t : Int) < n) : rnQ g n (t + 1) (n - t) (-1) = rnP g t n := by
  rw [rnQ, if_pos (by omega)]
  have e : (-1 + g) % (n - t) = rnP g 0 (n - t + 1 - 1) := by
    rw [Int.add_sub_cancel]
    rfl
  rw [e, rnQ_P g n t 0 _ (by omega), Nat.zero_add]
theorem rnQ_b (g n : Int) (hn : n ≤ 600) : ∀ (k : Nat) (cnt pos : Int), 1 ≤ cnt → (-1 ≤ pos ∧ pos ≤ 600) → -1 ≤ rnQ g n k cnt pos ∧ rnQ g n k cnt pos ≤ 600 := by
  intro k
  induction k with
  | zero => intro cnt pos _ h; exact h
  | succ k ih =>
    intro cnt pos h1 h
    rw [rnQ]
    by_cases z : cnt ≤ n
    · rw [if_pos z]
      have m1 : 0 ≤ (pos + g) % cnt := Int.emod_nonneg _ (by omega)
      have m2 : (pos + g) % cnt < cnt := Int.emod_lt_of_pos _ (by omega)
      exact ih _ _ (by omega) (by omega)
    · rw [if_neg z]
      exact h
theorem c8_ring_loop {turn : Int} (hs : shS E r S) (hG : rgS G S) (hg : 1 ≤ g ∧ g < 2147483648) : ∀ (k : Nat) (cnt pos : Int), G S 13 + 1 - cnt ≤ k → 1 ≤ cnt → cnt + k ≤ 10000 → (-1 ≤ pos ∧ pos ≤ 600) →
    RK MX8_struckFromRing 22 [.ref S, .int (zi g), .int (zi turn), .long (zl pos), jk, .int (zi cnt)] [] (0, 0) (E, zg G, zk L, r) Q = Q (E, zg G, zk L, r) (.int (zi (nA G S (rnQ g (G S 13) k cnt pos + 1)))) := by
  obtain ⟨s0, ⟨s1, s2, s3, s4, s5⟩, ⟨l1, l2, l3, l4, l5⟩, r1, r2, r3, r4, r5⟩ := id hs
  have g13 := hG.2.2.2.2.2.2.2.2.1
  intro k
  induction k with
  | zero =>
    intro cnt pos h1 h2 h3 h4
    have h5 : ¬ cnt ≤ 0 := by omega
    have h6 : ¬ cnt ≤ G S 13 := by omega
    simp (disch := first | assumption | exact c2_int _ | exact c2_ref _ | exact c2_jk | exact c2_null | omega | (apply rN1; assumption) | (apply rN2; assumption) | (apply rN3; assumption) | (apply rN4; assumption) | exact bI_r _ | exact bI_01 _) only [↓fX8_struckFromRing_0, ↓fX8_struckFromRing_1, ↓fX8_struckFromRing_1n, ↓fX8_struckFromRing_2, ↓fX8_struckFromRing_5, ↓fX8_struckFromRing_8, ↓fX8_struckFromRing_9, ↓fX8_struckFromRing_10, ↓fX8_struckFromRing_13, ↓fX8_struckFromRing_14, ↓fX8_struckFromRing_14n, ↓fX8_struckFromRing_15, ↓fX8_struckFromRing_18, ↓fX8_struckFromRing_19, ↓fX8_struckFromRing_20, ↓fX8_struckFromRing_22, ↓fX8_struckFromRing_24, ↓fX8_struckFromRing_27, ↓fX8_struckFromRing_29, ↓fX8_struckFromRing_29n, ↓fX8_struckFromRing_30, ↓fX8_struckFromRing_33, ↓fX8_struckFromRing_36, ↓fX8_struckFromRing_37, ↓fX8_struckFromRing_38, ↓fX8_struckFromRing_39, ↓fX8_struckFromRing_40, ↓fX8_struckFromRing_42, ↓fX8_struckFromRing_43, ↓fX8_struckFromRing_44, ↓fX8_struckFromRing_45, ↓fX8_struckFromRing_48, ↓fX8_struckFromRing_51, ↓fX8_struckFromRing_51n, ↓fX8_struckFromRing_52, ↓fX8_struckFromRing_53, ↓fX8_struckFromRing_54, ↓fX8_struckFromRing_55, ↓fX8_struckFromRing_56, ↓fX8_struckFromRing_59, ↓c7_numberAt, h5, h6, rnQ, and_self, true_and, and_true, false_and, and_false, not_true_eq_false, not_false_eq_true, or_self, true_or, or_true, false_or, or_false, ite_not, Decidable.not_not, decide_eq_true_eq, Bool.not_true, Bool.not_false, Bool.false_eq_true, Bool.not_eq_true, n10, n20, n21, n30, n31, n32, n40, n41, n42, n43, ↓reduceIte]
  | succ k ih =>
    intro cnt pos h1 h2 h3 h4
    have h5 : ¬ cnt ≤ 0 := by omega
    by_cases h6 : cnt ≤ G S 13
    · have m1 : 0 ≤ (pos + g) % cnt := Int.emod_nonneg _ (by omega)
      have m2 : (pos + g) % cnt < cnt := Int.emod_lt_of_pos _ (by omega)
      have e := ih (cnt + 1) ((pos + g) % cnt) (by omega) (by omega) (by omega) (by omega)
      have e2 : rnQ g (G S 13) (k + 1) cnt pos = rnQ g (G S 13) k (cnt + 1) ((pos + g) % cnt) := by rw [rnQ, if_pos h6]
      rw [e2, ← e, fX8_struckFromRing_22]
      simp (disch := first | assumption | exact c2_int _ | exact c2_ref _ | exact c2_jk | exact c2_null | omega | (apply rN1; assumption) | (apply rN2; assumption) | (apply rN3; assumption) | (apply rN4; assumption) | exact bI_r _ | exact bI_01 _) only [↓fX8_struckFromRing_0, ↓fX8_struckFromRing_1, ↓fX8_struckFromRing_1n, ↓fX8_struckFromRing_2, ↓fX8_struckFromRing_5, ↓fX8_struckFromRing_8, ↓fX8_struckFromRing_9, ↓fX8_struckFromRing_10, ↓fX8_struckFromRing_13, ↓fX8_struckFromRing_14, ↓fX8_struckFromRing_14n, ↓fX8_struckFromRing_15, ↓fX8_struckFromRing_18, ↓fX8_struckFromRing_19, ↓fX8_struckFromRing_20, ↓fX8_struckFromRing_24, ↓fX8_struckFromRing_27, ↓fX8_struckFromRing_29, ↓fX8_struckFromRing_29n, ↓fX8_struckFromRing_30, ↓fX8_struckFromRing_33, ↓fX8_struckFromRing_36, ↓fX8_struckFromRing_37, ↓fX8_struckFromRing_38, ↓fX8_struckFromRing_39, ↓fX8_struckFromRing_40, ↓fX8_struckFromRing_42, ↓fX8_struckFromRing_43, ↓fX8_struckFromRing_44, ↓fX8_struckFromRing_45, ↓fX8_struckFromRing_48, ↓fX8_struckFromRing_51, ↓fX8_struckFromRing_51n, ↓fX8_struckFromRing_52, ↓fX8_struckFromRing_53, ↓fX8_struckFromRing_54, ↓fX8_struckFromRing_55, ↓fX8_struckFromRing_56, ↓fX8_struckFromRing_59, h5, h6, and_self, true_and, and_true, false_and, and_false, not_true_eq_false, not_false_eq_true, or_self, true_or, or_true, false_or, or_false, ite_not, Decidable.not_not, decide_eq_true_eq, Bool.not_true, Bool.not_false, Bool.false_eq_true, Bool.not_eq_true, n10, n20, n21, n30, n31, n32, n40, n41, n42, n43, ↓reduceIte]
    · have e2 : rnQ g (G S 13) (k + 1) cnt pos = pos := by rw [rnQ, if_neg h6]
      rw [e2]
      simp (disch := first | assumption | exact c2_int _ | exact c2_ref _ | exact c2_jk | exact c2_null | omega | (apply rN1; assumption) | (apply rN2; assumption) | (apply rN3; assumption) | (apply rN4; assumption) | exact bI_r _ | exact bI_01 _) only [↓fX8_struckFromRing_0, ↓fX8_struckFromRing_1, ↓fX8_struckFromRing_1n, ↓fX8_struckFromRing_2, ↓fX8_struckFromRing_5, ↓fX8_struckFromRing_8, ↓fX8_struckFromRing_9, ↓fX8_struckFromRing_10, ↓fX8_struckFromRing_13, ↓fX8_struckFromRing_14, ↓fX8_struckFromRing_14n, ↓fX8_struckFromRing_15, ↓fX8_struckFromRing_18, ↓fX8_struckFromRing_19, ↓fX8_struckFromRing_20, ↓fX8_struckFromRing_22, ↓fX8_struckFromRing_24, ↓fX8_struckFromRing_27, ↓fX8_struckFromRing_29, ↓fX8_struckFromRing_29n, ↓fX8_struckFromRing_30, ↓fX8_struckFromRing_33, ↓fX8_struckFromRing_36, ↓fX8_struckFromRing_37, ↓fX8_struckFromRing_38, ↓fX8_struckFromRing_39, ↓fX8_struckFromRing_40, ↓fX8_struckFromRing_42, ↓fX8_struckFromRing_43, ↓fX8_struckFromRing_44, ↓fX8_struckFromRing_45, ↓fX8_struckFromRing_48, ↓fX8_struckFromRing_51, ↓fX8_struckFromRing_51n, ↓fX8_struckFromRing_52, ↓fX8_struckFromRing_53, ↓fX8_struckFromRing_54, ↓fX8_struckFromRing_55, ↓fX8_struckFromRing_56, ↓fX8_struckFromRing_59, ↓c7_numberAt, h5, h6, and_self, true_and, and_true, false_and, and_false, not_true_eq_false, not_false_eq_true, or_self, true_or, or_true, false_or, or_false, ite_not, Decidable.not_not, decide_eq_true_eq, Bool.not_true, Bool.not_false, Bool.false_eq_true, Bool.not_eq_true, n10, n20, n21, n30, n31, n32, n40, n41, n42, n43, ↓reduceIte]
def rgC (G : Nat → Nat → Int) (S : Nat) (g turn : Int) : Int := if turn < G S 13 then rnL g turn.toNat (fun j => nA G S (j + 1)) (G S 13) 0 else -1
theorem c8_struckFromRing {turn : Int} (hs : shS E r S) (hG : rgS G S) (hg : 1 ≤ g ∧ g < 2147483648) (hu : 0 ≤ turn ∧ turn < 2147483648) : RK MX8_struckFromRing 0 [.ref S, .int (zi g), .int (zi turn), jk, jk, jk] [] (0, 0) (E, zg G, zk L, r) Q = Q (E, zg G, zk L, r) (.int (zi (rgC G S g turn))) := by
  obtain ⟨s0, ⟨s1, s2, s3, s4, s5⟩, ⟨l1, l2, l3, l4, l5⟩, r1, r2, r3, r4, r5⟩ := id hs
  have g13 := hG.2.2.2.2.2.2.2.2.1
  unfold rgC
  by_cases h1 : turn < G S 13
  · have hb := rnP_b g turn.toNat (cnt := G S 13) (by omega)
    have e1 : rnL g turn.toNat (fun j => nA G S (j + 1)) (G S 13) 0 = nA G S (rnP g turn.toNat (G S 13) + 1) := by
      rw [rnL_P _ _ _ _ _ (by omega), Int.zero_add, Int.emod_eq_of_lt hb.1 hb.2]
    have e2 := rnQ_0 g (G S 13) (t := turn.toNat) (by omega)
    rw [Int.toNat_of_nonneg hu.1] at e2
    have hl := c8_ring_loop (L := L) (Q := Q) (turn := turn) hs hG hg (turn.toNat + 1) (G S 13 - turn) (-1) (by omega) (by omega) (by omega) (by omega)
    rw [e2] at hl
    rw [if_pos h1, e1, ← hl]
    simp (disch := first | assumption | exact c2_int _ | exact c2_ref _ | exact c2_jk | exact c2_null | omega | (apply rN1; assumption) | (apply rN2; assumption) | (apply rN3; assumption) | (apply rN4; assumption) | exact bI_r _ | exact bI_01 _) only [↓fX8_struckFromRing_0, ↓fX8_struckFromRing_1, ↓fX8_struckFromRing_1n, ↓fX8_struckFromRing_2, ↓fX8_struckFromRing_5, ↓fX8_struckFromRing_8, ↓fX8_struckFromRing_9, ↓fX8_struckFromRing_10, ↓fX8_struckFromRing_13, ↓fX8_struckFromRing_14, ↓fX8_struckFromRing_14n, ↓fX8_struckFromRing_15, ↓fX8_struckFromRing_18, ↓fX8_struckFromRing_19, ↓fX8_struckFromRing_20, ↓fX8_struckFromRing_24, ↓fX8_struckFromRing_27, ↓fX8_struckFromRing_29, ↓fX8_struckFromRing_29n, ↓fX8_struckFromRing_30, ↓fX8_struckFromRing_33, ↓fX8_struckFromRing_36, ↓fX8_struckFromRing_37, ↓fX8_struckFromRing_38, ↓fX8_struckFromRing_39, ↓fX8_struckFromRing_40, ↓fX8_struckFromRing_42, ↓fX8_struckFromRing_43, ↓fX8_struckFromRing_44, ↓fX8_struckFromRing_45, ↓fX8_struckFromRing_48, ↓fX8_struckFromRing_51, ↓fX8_struckFromRing_51n, ↓fX8_struckFromRing_52, ↓fX8_struckFromRing_53, ↓fX8_struckFromRing_54, ↓fX8_struckFromRing_55, ↓fX8_struckFromRing_56, ↓fX8_struckFromRing_59, h1, and_self, true_and, and_true, false_and, and_false, not_true_eq_false, not_false_eq_true, or_self, true_or, or_true, false_or, or_false, ite_not, Decidable.not_not, decide_eq_true_eq, Bool.not_true, Bool.not_false, Bool.false_eq_true, Bool.not_eq_true, n10, n20, n21, n30, n31, n32, n40, n41, n42, n43, ↓reduceIte]
  · simp (disch := first | assumption | exact c2_int _ | exact c2_ref _ | exact c2_jk | exact c2_null | omega | (apply rN1; assumption) | (apply rN2; assumption) | (apply rN3; assumption) | (apply rN4; assumption) | exact bI_r _ | exact bI_01 _) only [↓fX8_struckFromRing_0, ↓fX8_struckFromRing_1, ↓fX8_struckFromRing_1n, ↓fX8_struckFromRing_2, ↓fX8_struckFromRing_5, ↓fX8_struckFromRing_8, ↓fX8_struckFromRing_9, ↓fX8_struckFromRing_10, ↓fX8_struckFromRing_13, ↓fX8_struckFromRing_14, ↓fX8_struckFromRing_14n, ↓fX8_struckFromRing_15, ↓fX8_struckFromRing_18, ↓fX8_struckFromRing_19, ↓fX8_struckFromRing_20, ↓fX8_struckFromRing_22, ↓fX8_struckFromRing_24, ↓fX8_struckFromRing_27, ↓fX8_struckFromRing_29, ↓fX8_struckFromRing_29n, ↓fX8_struckFromRing_30, ↓fX8_struckFromRing_33, ↓fX8_struckFromRing_36, ↓fX8_struckFromRing_37, ↓fX8_struckFromRing_38, ↓fX8_struckFromRing_39, ↓fX8_struckFromRing_40, ↓fX8_struckFromRing_42, ↓fX8_struckFromRing_43, ↓fX8_struckFromRing_44, ↓fX8_struckFromRing_45, ↓fX8_struckFromRing_48, ↓fX8_struckFromRing_51, ↓fX8_struckFromRing_51n, ↓fX8_struckFromRing_52, ↓fX8_struckFromRing_53, ↓fX8_struckFromRing_54, ↓fX8_struckFromRing_55, ↓fX8_struckFromRing_56, ↓fX8_struckFromRing_59, h1, and_self, true_and, and_true, false_and, and_false, not_true_eq_false, not_false_eq_true, or_self, true_or, or_true, false_or, or_false, ite_not, Decidable.not_not, decide_eq_true_eq, Bool.not_true, Bool.not_false, Bool.false_eq_true, Bool.not_eq_true, n10, n20, n21, n30, n31, n32, n40, n41, n42, n43, ↓reduceIte]
theorem c8_chain_loop (hs : shS E r S) (hG : rgS G S) (ht : shT E T) (ho : ofS T S) (hw : 0 ≤ w ∧ w ≤ 2) {l1 : Value} (hl1 : c2 l1 = false) : ∀ (k : Nat) (p la le_ : Int) (v : Int → Bool) (H : Nat → Nat → Int), G S 13 - le_ ≤ k → 0 ≤ le_ → le_ + k ≤ 10000 → I32 p → I32 la → (∀ q, q ≠ T → H q = G q) → (∀ j, 1 ≤ j → j ≤ G S 13 → H T j.toNat = bI (v j = true)) →
    ∃ H' : Nat → Nat → Int, (∀ q, q ≠ T → H' q = G q) ∧ ∀ Q, RK MX8_chainFrom 25 [.ref S, l1, .int (zi w), .ref T, .int (zi p), .int (zi la), .int (zi le_)] [] (0, 0) (E, zg H, zk L, r) Q = Q (E, zg H', zk L, r) (.int (zi (if w = 0 then (chL (nA G S) (G S 13) k p la le_ v).2.2 else if w = 1 then (chL (nA G S) (G S 13) k p la le_ v).2.1 else bI (1 ≤ (chL (nA G S) (G S 13) k p la le_ v).1 ∧ (chL (nA G S) (G S 13) k p la le_ v).1 ≤ G S 13)))) := by
  obtain ⟨ht1, ht2⟩ := id ht
  have ho' := ho
  unfold ofS at ho'
  have g13 := hG.2.2.2.2.2.2.2.2.1
  have s0 := hs.1
  have hE : ∀ H : Nat → Nat → Int, (∀ q, q ≠ T → H q = G q) → rgS H S ∧ nA H S = nA G S ∧ H S = G S := fun H hH => ⟨rgS_c (fun q a b => hH q (by omega)) hG, nA_c (fun q a b => hH q (by omega)), hH S (by omega)⟩
  have fin : ∀ (H : Nat → Nat → Int), (∀ q, q ≠ T → H q = G q) → ∀ (p la le_ : Int), I32 p → ∀ Q, RK MX8_chainFrom 81 [.ref S, l1, .int (zi w), .ref T, .int (zi p), .int (zi la), .int (zi le_)] [] (0, 0) (E, zg H, zk L, r) Q = Q (E, zg H, zk L, r) (.int (zi (if w = 0 then le_ else if w = 1 then la else bI (1 ≤ p ∧ p ≤ G S 13)))) := by
    intro H hH p la le_ hp Q
    obtain ⟨a1, a2, a3⟩ := hE H hH
    by_cases w0 : w = 0
    · simp (disch := first | assumption | exact c2_int _ | exact c2_ref _ | exact c2_jk | exact c2_null | omega | (apply rN1; assumption) | (apply rN2; assumption) | (apply rN3; assumption) | (apply rN4; assumption) | exact bI_r _ | exact bI_01 _) only [↓fX8_chainFrom_0, ↓fX8_chainFrom_0n, ↓fX8_chainFrom_1, ↓fX8_chainFrom_2, ↓fX8_chainFrom_5, ↓fX8_chainFrom_7, ↓fX8_chainFrom_9, ↓fX8_chainFrom_10, ↓fX8_chainFrom_13, ↓fX8_chainFrom_14, ↓fX8_chainFrom_15, ↓fX8_chainFrom_15n, ↓fX8_chainFrom_16, ↓fX8_chainFrom_19, ↓fX8_chainFrom_20, ↓fX8_chainFrom_22, ↓fX8_chainFrom_23, ↓fX8_chainFrom_25, ↓fX8_chainFrom_27, ↓fX8_chainFrom_28, ↓fX8_chainFrom_28n, ↓fX8_chainFrom_29, ↓fX8_chainFrom_32, ↓fX8_chainFrom_35, ↓fX8_chainFrom_38, ↓fX8_chainFrom_38n, ↓fX8_chainFrom_39, ↓fX8_chainFrom_41, ↓fX8_chainFrom_44, ↓fX8_chainFrom_47, ↓fX8_chainFrom_49, ↓fX8_chainFrom_49n, ↓fX8_chainFrom_50, ↓fX8_chainFrom_53, ↓fX8_chainFrom_56, ↓fX8_chainFrom_56n, ↓fX8_chainFrom_57, ↓fX8_chainFrom_59, ↓fX8_chainFrom_60, ↓fX8_chainFrom_63, ↓fX8_chainFrom_63n, ↓fX8_chainFrom_64, ↓fX8_chainFrom_66, ↓fX8_chainFrom_69, ↓fX8_chainFrom_71, ↓fX8_chainFrom_74, ↓fX8_chainFrom_76, ↓fX8_chainFrom_78, ↓fX8_chainFrom_81, ↓fX8_chainFrom_82, ↓fX8_chainFrom_85, ↓fX8_chainFrom_87, ↓fX8_chainFrom_88, ↓fX8_chainFrom_89, ↓fX8_chainFrom_90, ↓fX8_chainFrom_93, ↓fX8_chainFrom_95, ↓fX8_chainFrom_96, ↓fX8_chainFrom_98, ↓fX8_chainFrom_99, ↓fX8_chainFrom_99n, ↓fX8_chainFrom_100, ↓fX8_chainFrom_103, ↓fX8_chainFrom_106, ↓fX8_chainFrom_109, ↓fX8_chainFrom_110, ↓fX8_chainFrom_113, ↓fX8_chainFrom_114, w0, and_self, true_and, and_true, false_and, and_false, not_true_eq_false, not_false_eq_true, or_self, true_or, or_true, false_or, or_false, ite_not, Decidable.not_not, decide_eq_true_eq, Bool.not_true, Bool.not_false, Bool.false_eq_true, Bool.not_eq_true, n10, n20, n21, n30, n31, n32, n40, n41, n42, n43, ↓reduceIte]
    · by_cases w1 : w = 1
      · simp (disch := first | assumption | exact c2_int _ | exact c2_ref _ | exact c2_jk | exact c2_null | omega | (apply rN1; assumption) | (apply rN2; assumption) | (apply rN3; assumption) | (apply rN4; assumption) | exact bI_r _ | exact bI_01 _) only [↓fX8_chainFrom_0, ↓fX8_chainFrom_0n, ↓fX8_chainFrom_1, ↓fX8_chainFrom_2, ↓fX8_chainFrom_5, ↓fX8_chainFrom_7, ↓fX8_chainFrom_9, ↓fX8_chainFrom_10, ↓fX8_chainFrom_13, ↓fX8_chainFrom_14, ↓fX8_chainFrom_15, ↓fX8_chainFrom_15n, ↓fX8_chainFrom_16, ↓fX8_chainFrom_19, ↓fX8_chainFrom_20, ↓fX8_chainFrom_22, ↓fX8_chainFrom_23, ↓fX8_chainFrom_25, ↓fX8_chainFrom_27, ↓fX8_chainFrom_28, ↓fX8_chainFrom_28n, ↓fX8_chainFrom_29, ↓fX8_chainFrom_32, ↓fX8_chainFrom_35, ↓fX8_chainFrom_38, ↓fX8_chainFrom_38n, ↓fX8_chainFrom_39, ↓fX8_chainFrom_41, ↓fX8_chainFrom_44, ↓fX8_chainFrom_47, ↓fX8_chainFrom_49, ↓fX8_chainFrom_49n, ↓fX8_chainFrom_50, ↓fX8_chainFrom_53, ↓fX8_chainFrom_56, ↓fX8_chainFrom_56n, ↓fX8_chainFrom_57, ↓fX8_chainFrom_59, ↓fX8_chainFrom_60, ↓fX8_chainFrom_63, ↓fX8_chainFrom_63n, ↓fX8_chainFrom_64, ↓fX8_chainFrom_66, ↓fX8_chainFrom_69, ↓fX8_chainFrom_71, ↓fX8_chainFrom_74, ↓fX8_chainFrom_76, ↓fX8_chainFrom_78, ↓fX8_chainFrom_81, ↓fX8_chainFrom_82, ↓fX8_chainFrom_85, ↓fX8_chainFrom_87, ↓fX8_chainFrom_88, ↓fX8_chainFrom_89, ↓fX8_chainFrom_90, ↓fX8_chainFrom_93, ↓fX8_chainFrom_95, ↓fX8_chainFrom_96, ↓fX8_chainFrom_98, ↓fX8_chainFrom_99, ↓fX8_chainFrom_99n, ↓fX8_chainFrom_100, ↓fX8_chainFrom_103, ↓fX8_chainFrom_106, ↓fX8_chainFrom_109, ↓fX8_chainFrom_110, ↓fX8_chainFrom_113, ↓fX8_chainFrom_114, w1, and_self, true_and, and_true, false_and, and_false, not_true_eq_false, not_false_eq_true, or_self, true_or, or_true, false_or, or_false, ite_not, Decidable.not_not, decide_eq_true_eq, Bool.not_true, Bool.not_false, Bool.false_eq_true, Bool.not_eq_true, n10, n20, n21, n30, n31, n32, n40, n41, n42, n43, ↓reduceIte]
      · by_cases q : 1 ≤ p ∧ p ≤ G S 13
        · rw [if_neg w0, if_neg w1, bI_p q]
          simp (disch := first | assumption | exact c2_int _ | exact c2_ref _ | exact c2_jk | exact c2_null | omega | (apply rN1; assumption) | (apply rN2; assumption) | (apply rN3; assumption) | (apply rN4; assumption) | exact bI_r _ | exact bI_01 _) only [↓fX8_chainFrom_0, ↓fX8_chainFrom_0n, ↓fX8_chainFrom_1, ↓fX8_chainFrom_2, ↓fX8_chainFrom_5, ↓fX8_chainFrom_7, ↓fX8_chainFrom_9, ↓fX8_chainFrom_10, ↓fX8_chainFrom_13, ↓fX8_chainFrom_14, ↓fX8_chainFrom_15, ↓fX8_chainFrom_15n, ↓fX8_chainFrom_16, ↓fX8_chainFrom_19, ↓fX8_chainFrom_20, ↓fX8_chainFrom_22, ↓fX8_chainFrom_23, ↓fX8_chainFrom_25, ↓fX8_chainFrom_27, ↓fX8_chainFrom_28, ↓fX8_chainFrom_28n, ↓fX8_chainFrom_29, ↓fX8_chainFrom_32, ↓fX8_chainFrom_35, ↓fX8_chainFrom_38, ↓fX8_chainFrom_38n, ↓fX8_chainFrom_39, ↓fX8_chainFrom_41, ↓fX8_chainFrom_44, ↓fX8_chainFrom_47, ↓fX8_chainFrom_49, ↓fX8_chainFrom_49n, ↓fX8_chainFrom_50, ↓fX8_chainFrom_53, ↓fX8_chainFrom_56, ↓fX8_chainFrom_56n, ↓fX8_chainFrom_57, ↓fX8_chainFrom_59, ↓fX8_chainFrom_60, ↓fX8_chainFrom_63, ↓fX8_chainFrom_63n, ↓fX8_chainFrom_64, ↓fX8_chainFrom_66, ↓fX8_chainFrom_69, ↓fX8_chainFrom_71, ↓fX8_chainFrom_74, ↓fX8_chainFrom_76, ↓fX8_chainFrom_78, ↓fX8_chainFrom_81, ↓fX8_chainFrom_82, ↓fX8_chainFrom_85, ↓fX8_chainFrom_87, ↓fX8_chainFrom_88, ↓fX8_chainFrom_89, ↓fX8_chainFrom_90, ↓fX8_chainFrom_93, ↓fX8_chainFrom_95, ↓fX8_chainFrom_96, ↓fX8_chainFrom_98, ↓fX8_chainFrom_99, ↓fX8_chainFrom_99n, ↓fX8_chainFrom_100, ↓fX8_chainFrom_103, ↓fX8_chainFrom_106, ↓fX8_chainFrom_109, ↓fX8_chainFrom_110, ↓fX8_chainFrom_113, ↓fX8_chainFrom_114, ↓c9_within, a3, bI_0, w0, w1, q, and_self, true_and, and_true, false_and, and_false, not_true_eq_false, not_false_eq_true, or_self, true_or, or_true, false_or, or_false, ite_not, Decidable.not_not, decide_eq_true_eq, Bool.not_true, Bool.not_false, Bool.false_eq_true, Bool.not_eq_true, n10, n20, n21, n30, n31, n32, n40, n41, n42, n43, ↓reduceIte]
        · rw [if_neg w0, if_neg w1, bI_n q]
          simp (disch := first | assumption | exact c2_int _ | exact c2_ref _ | exact c2_jk | exact c2_null | omega | (apply rN1; assumption) | (apply rN2; assumption) | (apply rN3; assumption) | (apply rN4; assumption) | exact bI_r _ | exact bI_01 _) only [↓fX8_chainFrom_0, ↓fX8_chainFrom_0n, ↓fX8_chainFrom_1, ↓fX8_chainFrom_2, ↓fX8_chainFrom_5, ↓fX8_chainFrom_7, ↓fX8_chainFrom_9, ↓fX8_chainFrom_10, ↓fX8_chainFrom_13, ↓fX8_chainFrom_14, ↓fX8_chainFrom_15, ↓fX8_chainFrom_15n, ↓fX8_chainFrom_16, ↓fX8_chainFrom_19, ↓fX8_chainFrom_20, ↓fX8_chainFrom_22, ↓fX8_chainFrom_23, ↓fX8_chainFrom_25, ↓fX8_chainFrom_27, ↓fX8_chainFrom_28, ↓fX8_chainFrom_28n, ↓fX8_chainFrom_29, ↓fX8_chainFrom_32, ↓fX8_chainFrom_35, ↓fX8_chainFrom_38, ↓fX8_chainFrom_38n, ↓fX8_chainFrom_39, ↓fX8_chainFrom_41, ↓fX8_chainFrom_44, ↓fX8_chainFrom_47, ↓fX8_chainFrom_49, ↓fX8_chainFrom_49n, ↓fX8_chainFrom_50, ↓fX8_chainFrom_53, ↓fX8_chainFrom_56, ↓fX8_chainFrom_56n, ↓fX8_chainFrom_57, ↓fX8_chainFrom_59, ↓fX8_chainFrom_60, ↓fX8_chainFrom_63, ↓fX8_chainFrom_63n, ↓fX8_chainFrom_64, ↓fX8_chainFrom_66, ↓fX8_chainFrom_69, ↓fX8_chainFrom_71, ↓fX8_chainFrom_74, ↓fX8_chainFrom_76, ↓fX8_chainFrom_78, ↓fX8_chainFrom_81, ↓fX8_chainFrom_82, ↓fX8_chainFrom_85, ↓fX8_chainFrom_87, ↓fX8_chainFrom_88, ↓fX8_chainFrom_89, ↓fX8_chainFrom_90, ↓fX8_chainFrom_93, ↓fX8_chainFrom_95, ↓fX8_chainFrom_96, ↓fX8_chainFrom_98, ↓fX8_chainFrom_99, ↓fX8_chainFrom_99n, ↓fX8_chainFrom_100, ↓fX8_chainFrom_103, ↓fX8_chainFrom_106, ↓fX8_chainFrom_109, ↓fX8_chainFrom_110, ↓fX8_chainFrom_113, ↓fX8_chainFrom_114, ↓c9_within, a3, bI_0, w0, w1, q, and_self, true_and, and_true, false_and, and_false, not_true_eq_false, not_false_eq_true, or_self, true_or, or_true, false_or, or_false, ite_not, Decidable.not_not, decide_eq_true_eq, Bool.not_true, Bool.not_false, Bool.false_eq_true, Bool.not_eq_true, n10, n20, n21, n30, n31, n32, n40, n41, n42, n43, ↓reduceIte]
  intro k
  induction k with
  | zero =>
    intro p la le_ v H h1 h2 h3 h4 h5 hH hv
    obtain ⟨a1, a2, a3⟩ := hE H hH
    refine ⟨H, hH, fun Q => ?_⟩
    have h6 : ¬ le_ < G S 13 := by omega
    have fin' := fin H hH p la le_ h4
    by_cases q : 1 ≤ p ∧ p ≤ G S 13
    · have e1 := cAt_T (H := H) (i := p) ht ⟨by omega, by omega⟩
      have e2 := hv p q.1 q.2
      rw [e2] at e1
      by_cases q2 : v p = true
      · simp (disch := first | assumption | exact c2_int _ | exact c2_ref _ | exact c2_jk | exact c2_null | omega | (apply rN1; assumption) | (apply rN2; assumption) | (apply rN3; assumption) | (apply rN4; assumption) | exact bI_r _ | exact bI_01 _) only [↓fX8_chainFrom_0, ↓fX8_chainFrom_0n, ↓fX8_chainFrom_1, ↓fX8_chainFrom_2, ↓fX8_chainFrom_5, ↓fX8_chainFrom_7, ↓fX8_chainFrom_9, ↓fX8_chainFrom_10, ↓fX8_chainFrom_13, ↓fX8_chainFrom_14, ↓fX8_chainFrom_15, ↓fX8_chainFrom_15n, ↓fX8_chainFrom_16, ↓fX8_chainFrom_19, ↓fX8_chainFrom_20, ↓fX8_chainFrom_22, ↓fX8_chainFrom_23, ↓fX8_chainFrom_25, ↓fX8_chainFrom_27, ↓fX8_chainFrom_28, ↓fX8_chainFrom_28n, ↓fX8_chainFrom_29, ↓fX8_chainFrom_32, ↓fX8_chainFrom_35, ↓fX8_chainFrom_38, ↓fX8_chainFrom_38n, ↓fX8_chainFrom_39, ↓fX8_chainFrom_41, ↓fX8_chainFrom_44, ↓fX8_chainFrom_47, ↓fX8_chainFrom_49, ↓fX8_chainFrom_49n, ↓fX8_chainFrom_50, ↓fX8_chainFrom_53, ↓fX8_chainFrom_56, ↓fX8_chainFrom_56n, ↓fX8_chainFrom_57, ↓fX8_chainFrom_59, ↓fX8_chainFrom_60, ↓fX8_chainFrom_63, ↓fX8_chainFrom_63n, ↓fX8_chainFrom_64, ↓fX8_chainFrom_66, ↓fX8_chainFrom_69, ↓fX8_chainFrom_71, ↓fX8_chainFrom_74, ↓fX8_chainFrom_76, ↓fX8_chainFrom_78, ↓fX8_chainFrom_82, ↓fX8_chainFrom_85, ↓fX8_chainFrom_87, ↓fX8_chainFrom_88, ↓fX8_chainFrom_89, ↓fX8_chainFrom_90, ↓fX8_chainFrom_93, ↓fX8_chainFrom_95, ↓fX8_chainFrom_96, ↓fX8_chainFrom_98, ↓fX8_chainFrom_99, ↓fX8_chainFrom_99n, ↓fX8_chainFrom_100, ↓fX8_chainFrom_103, ↓fX8_chainFrom_106, ↓fX8_chainFrom_109, ↓fX8_chainFrom_110, ↓fX8_chainFrom_113, ↓fX8_chainFrom_114, ↓c9_within, ↓c9_at, ↓fin', a3, e1, bI_0, q, q2, chL, and_self, true_and, and_true, false_and, and_false, not_true_eq_false, not_false_eq_true, or_self, true_or, or_true, false_or, or_false, ite_not, Decidable.not_not, decide_eq_true_eq, Bool.not_true, Bool.not_false, Bool.false_eq_true, Bool.not_eq_true, n10, n20, n21, n30, n31, n32, n40, n41, n42, n43, ↓reduceIte]
      · simp (disch := first | assumption | exact c2_int _ | exact c2_ref _ | exact c2_jk | exact c2_null | omega | (apply rN1; assumption) | (apply rN2; assumption) | (apply rN3; assumption) | (apply rN4; assumption) | exact bI_r _ | exact bI_01 _) only [↓fX8_chainFrom_0, ↓fX8_chainFrom_0n, ↓fX8_chainFrom_1, ↓fX8_chainFrom_2, ↓fX8_chainFrom_5, ↓fX8_chainFrom_7, ↓fX8_chainFrom_9, ↓fX8_chainFrom_10, ↓fX8_chainFrom_13, ↓fX8_chainFrom_14, ↓fX8_chainFrom_15, ↓fX8_chainFrom_15n, ↓fX8_chainFrom_16, ↓fX8_chainFrom_19, ↓fX8_chainFrom_20, ↓fX8_chainFrom_22, ↓fX8_chainFrom_23, ↓fX8_chainFrom_25, ↓fX8_chainFrom_27, ↓fX8_chainFrom_28, ↓fX8_chainFrom_28n, ↓fX8_chainFrom_29, ↓fX8_chainFrom_32, ↓fX8_chainFrom_35, ↓fX8_chainFrom_38, ↓fX8_chainFrom_38n, ↓fX8_chainFrom_39, ↓fX8_chainFrom_41, ↓fX8_chainFrom_44, ↓fX8_chainFrom_47, ↓fX8_chainFrom_49, ↓fX8_chainFrom_49n, ↓fX8_chainFrom_50, ↓fX8_chainFrom_53, ↓fX8_chainFrom_56, ↓fX8_chainFrom_56n, ↓fX8_chainFrom_57, ↓fX8_chainFrom_59, ↓fX8_chainFrom_60, ↓fX8_chainFrom_63, ↓fX8_chainFrom_63n, ↓fX8_chainFrom_64, ↓fX8_chainFrom_66, ↓fX8_chainFrom_69, ↓fX8_chainFrom_71, ↓fX8_chainFrom_74, ↓fX8_chainFrom_76, ↓fX8_chainFrom_78, ↓fX8_chainFrom_82, ↓fX8_chainFrom_85, ↓fX8_chainFrom_87, ↓fX8_chainFrom_88, ↓fX8_chainFrom_89, ↓fX8_chainFrom_90, ↓fX8_chainFrom_93, ↓fX8_chainFrom_95, ↓fX8_chainFrom_96, ↓fX8_chainFrom_98, ↓fX8_chainFrom_99, ↓fX8_chainFrom_99n, ↓fX8_chainFrom_100, ↓fX8_chainFrom_103, ↓fX8_chainFrom_106, ↓fX8_chainFrom_109, ↓fX8_chainFrom_110, ↓fX8_chainFrom_113, ↓fX8_chainFrom_114, ↓c9_within, ↓c9_at, ↓fin', a3, e1, bI_0, q, q2, h6, chL, and_self, true_and, and_true, false_and, and_false, not_true_eq_false, not_false_eq_true, or_self, true_or, or_true, false_or, or_false, ite_not, Decidable.not_not, decide_eq_true_eq, Bool.not_true, Bool.not_false, Bool.false_eq_true, Bool.not_eq_true, n10, n20, n21, n30, n31, n32, n40, n41, n42, n43, ↓reduceIte]
    · simp (disch := first | assumption | exact c2_int _ | exact c2_ref _ | exact c2_jk | exact c2_null | omega | (apply rN1; assumption) | (apply rN2; assumption) | (apply rN3; assumption) | (apply rN4; assumption) | exact bI_r _ | exact bI_01 _) only [↓fX8_chainFrom_0, ↓fX8_chainFrom_0n, ↓fX8_chainFrom_1, ↓fX8_chainFrom_2, ↓fX8_chainFrom_5, ↓fX8_chainFrom_7, ↓fX8_chainFrom_9, ↓fX8_chainFrom_10, ↓fX8_chainFrom_13, ↓fX8_chainFrom_14, ↓fX8_chainFrom_15, ↓fX8_chainFrom_15n, ↓fX8_chainFrom_16, ↓fX8_chainFrom_19, ↓fX8_chainFrom_20, ↓fX8_chainFrom_22, ↓fX8_chainFrom_23, ↓fX8_chainFrom_25, ↓fX8_chainFrom_27, ↓fX8_chainFrom_28, ↓fX8_chainFrom_28n, ↓fX8_chainFrom_29, ↓fX8_chainFrom_32, ↓fX8_chainFrom_35, ↓fX8_chainFrom_38, ↓fX8_chainFrom_38n, ↓fX8_chainFrom_39, ↓fX8_chainFrom_41, ↓fX8_chainFrom_44, ↓fX8_chainFrom_47, ↓fX8_chainFrom_49, ↓fX8_chainFrom_49n, ↓fX8_chainFrom_50, ↓fX8_chainFrom_53, ↓fX8_chainFrom_56, ↓fX8_chainFrom_56n, ↓fX8_chainFrom_57, ↓fX8_chainFrom_59, ↓fX8_chainFrom_60, ↓fX8_chainFrom_63, ↓fX8_chainFrom_63n, ↓fX8_chainFrom_64, ↓fX8_chainFrom_66, ↓fX8_chainFrom_69, ↓fX8_chainFrom_71, ↓fX8_chainFrom_74, ↓fX8_chainFrom_76, ↓fX8_chainFrom_78, ↓fX8_chainFrom_82, ↓fX8_chainFrom_85, ↓fX8_chainFrom_87, ↓fX8_chainFrom_88, ↓fX8_chainFrom_89, ↓fX8_chainFrom_90, ↓fX8_chainFrom_93, ↓fX8_chainFrom_95, ↓fX8_chainFrom_96, ↓fX8_chainFrom_98, ↓fX8_chainFrom_99, ↓fX8_chainFrom_99n, ↓fX8_chainFrom_100, ↓fX8_chainFrom_103, ↓fX8_chainFrom_106, ↓fX8_chainFrom_109, ↓fX8_chainFrom_110, ↓fX8_chainFrom_113, ↓fX8_chainFrom_114, ↓c9_within, ↓fin', a3, bI_0, q, chL, and_self, true_and, and_true, false_and, and_false, not_true_eq_false, not_false_eq_true, or_self, true_or, or_true, false_or, or_false, ite_not, Decidable.not_not, decide_eq_true_eq, Bool.not_true, Bool.not_false, Bool.false_eq_true, Bool.not_eq_true, n10, n20, n21, n30, n31, n32, n40, n41, n42, n43, ↓reduceIte]
  | succ k ih =>
    intro p la le_ v H h1 h2 h3 h4 h5 hH hv
    obtain ⟨a1, a2, a3⟩ := hE H hH
    have fin' := fin H hH p la le_ h4
    by_cases q : 1 ≤ p ∧ p ≤ G S 13
    · have e1 := cAt_T (H := H) (i := p) ht ⟨by omega, by omega⟩
      have e2 := hv p q.1 q.2
      rw [e2] at e1
      by_cases q2 : v p = true
      · refine ⟨H, hH, fun Q => ?_⟩
        have ec : chL (nA G S) (G S 13) (k + 1) p la le_ v = (p, la, le_) := by
          rw [chL, if_neg (fun z => by rw [q2] at z; exact absurd z.2.2.1 (by decide))]
        rw [ec, fX8_chainFrom_25]
        simp (disch := first | assumption | exact c2_int _ | exact c2_ref _ | exact c2_jk | exact c2_null | omega | (apply rN1; assumption) | (apply rN2; assumption) | (apply rN3; assumption) | (apply rN4; assumption) | exact bI_r _ | exact bI_01 _) only [↓fX8_chainFrom_0, ↓fX8_chainFrom_0n, ↓fX8_chainFrom_1, ↓fX8_chainFrom_2, ↓fX8_chainFrom_5, ↓fX8_chainFrom_7, ↓fX8_chainFrom_9, ↓fX8_chainFrom_10, ↓fX8_chainFrom_13, ↓fX8_chainFrom_14, ↓fX8_chainFrom_15, ↓fX8_chainFrom_15n, ↓fX8_chainFrom_16, ↓fX8_chainFrom_19, ↓fX8_chainFrom_20, ↓fX8_chainFrom_22, ↓fX8_chainFrom_23, ↓fX8_chainFrom_27, ↓fX8_chainFrom_28, ↓fX8_chainFrom_28n, ↓fX8_chainFrom_29, ↓fX8_chainFrom_32, ↓fX8_chainFrom_35, ↓fX8_chainFrom_38, ↓fX8_chainFrom_38n, ↓fX8_chainFrom_39, ↓fX8_chainFrom_41, ↓fX8_chainFrom_44, ↓fX8_chainFrom_47, ↓fX8_chainFrom_49, ↓fX8_chainFrom_49n, ↓fX8_chainFrom_50, ↓fX8_chainFrom_53, ↓fX8_chainFrom_56, ↓fX8_chainFrom_56n, ↓fX8_chainFrom_57, ↓fX8_chainFrom_59, ↓fX8_chainFrom_60, ↓fX8_chainFrom_63, ↓fX8_chainFrom_63n, ↓fX8_chainFrom_64, ↓fX8_chainFrom_66, ↓fX8_chainFrom_69, ↓fX8_chainFrom_71, ↓fX8_chainFrom_74, ↓fX8_chainFrom_76, ↓fX8_chainFrom_78, ↓fX8_chainFrom_82, ↓fX8_chainFrom_85, ↓fX8_chainFrom_87, ↓fX8_chainFrom_88, ↓fX8_chainFrom_89, ↓fX8_chainFrom_90, ↓fX8_chainFrom_93, ↓fX8_chainFrom_95, ↓fX8_chainFrom_96, ↓fX8_chainFrom_98, ↓fX8_chainFrom_99, ↓fX8_chainFrom_99n, ↓fX8_chainFrom_100, ↓fX8_chainFrom_103, ↓fX8_chainFrom_106, ↓fX8_chainFrom_109, ↓fX8_chainFrom_110, ↓fX8_chainFrom_113, ↓fX8_chainFrom_114, ↓c9_within, ↓c9_at, ↓fin', a3, e1, bI_0, q, q2, and_self, true_and, and_true, false_and, and_false, not_true_eq_false, not_false_eq_true, or_self, true_or, or_true, false_or, or_false, ite_not, Decidable.not_not, decide_eq_true_eq, Bool.not_true, Bool.not_false, Bool.false_eq_true, Bool.not_eq_true, n10, n20, n21, n30, n31, n32, n40, n41, n42, n43, ↓reduceIte]
      · have q2' : v p = false := by simpa using q2
        by_cases h6 : le_ < G S 13
        · have ec : chL (nA G S) (G S 13) (k + 1) p la le_ v = chL (nA G S) (G S 13) k (nA G S p) (nA G S p) (le_ + 1) (fun q => decide (q = p) || v q) := by
            rw [chL, if_pos ⟨q.1, q.2, q2', h6⟩]
          have hb := nA_b hG p
          have ho1 : ∀ q', q' ≠ T → u2 H T p.toNat 1 q' = G q' := fun q' hq => (u2_a _ _ _ _ hq).trans (hH q' hq)
          obtain ⟨H', b1, b2⟩ := ih (nA G S p) (nA G S p) (le_ + 1) (fun q => decide (q = p) || v q) (u2 H T p.toNat 1) (by omega) (by omega) (by omega) (by omega) (by omega) ho1 (fun j j1 j2 => by
            show (if T = T ∧ j.toNat = p.toNat then 1 else H T j.toNat) = _
            by_cases hj : j = p
            · subst hj
              rw [if_pos ⟨rfl, rfl⟩, bI_p (by simp)]
            · rw [if_neg (by omega), hv j j1 j2]
              simp [hj])
          obtain ⟨c1, c2', c3⟩ := hE _ ho1
          rw [ec]
          refine ⟨H', b1, fun Q => ?_⟩
          rw [← b2 Q, fX8_chainFrom_25]
          have e3 : (if 0 ≤ p ∧ p < (le E T : Int) then u2 H T p.toNat 1 else H) = u2 H T p.toNat 1 := if_pos (by omega)
          simp (disch := first | assumption | exact c2_int _ | exact c2_ref _ | exact c2_jk | exact c2_null | omega | (apply rN1; assumption) | (apply rN2; assumption) | (apply rN3; assumption) | (apply rN4; assumption) | exact bI_r _ | exact bI_01 _) only [↓fX8_chainFrom_0, ↓fX8_chainFrom_0n, ↓fX8_chainFrom_1, ↓fX8_chainFrom_2, ↓fX8_chainFrom_5, ↓fX8_chainFrom_7, ↓fX8_chainFrom_9, ↓fX8_chainFrom_10, ↓fX8_chainFrom_13, ↓fX8_chainFrom_14, ↓fX8_chainFrom_15, ↓fX8_chainFrom_15n, ↓fX8_chainFrom_16, ↓fX8_chainFrom_19, ↓fX8_chainFrom_20, ↓fX8_chainFrom_22, ↓fX8_chainFrom_23, ↓fX8_chainFrom_27, ↓fX8_chainFrom_28, ↓fX8_chainFrom_28n, ↓fX8_chainFrom_29, ↓fX8_chainFrom_32, ↓fX8_chainFrom_35, ↓fX8_chainFrom_38, ↓fX8_chainFrom_38n, ↓fX8_chainFrom_39, ↓fX8_chainFrom_41, ↓fX8_chainFrom_44, ↓fX8_chainFrom_47, ↓fX8_chainFrom_49, ↓fX8_chainFrom_49n, ↓fX8_chainFrom_50, ↓fX8_chainFrom_53, ↓fX8_chainFrom_56, ↓fX8_chainFrom_56n, ↓fX8_chainFrom_57, ↓fX8_chainFrom_59, ↓fX8_chainFrom_60, ↓fX8_chainFrom_63, ↓fX8_chainFrom_63n, ↓fX8_chainFrom_64, ↓fX8_chainFrom_66, ↓fX8_chainFrom_69, ↓fX8_chainFrom_71, ↓fX8_chainFrom_74, ↓fX8_chainFrom_76, ↓fX8_chainFrom_78, ↓fX8_chainFrom_82, ↓fX8_chainFrom_85, ↓fX8_chainFrom_87, ↓fX8_chainFrom_88, ↓fX8_chainFrom_89, ↓fX8_chainFrom_90, ↓fX8_chainFrom_93, ↓fX8_chainFrom_95, ↓fX8_chainFrom_96, ↓fX8_chainFrom_98, ↓fX8_chainFrom_99, ↓fX8_chainFrom_99n, ↓fX8_chainFrom_100, ↓fX8_chainFrom_103, ↓fX8_chainFrom_106, ↓fX8_chainFrom_109, ↓fX8_chainFrom_110, ↓fX8_chainFrom_113, ↓fX8_chainFrom_114, ↓c9_within, ↓c9_at, ↓c9_put, ↓c7_numberAt, a3, c2', e1, e3, bI_0, q, q2, h6, and_self, true_and, and_true, false_and, and_false, not_true_eq_false, not_false_eq_true, or_self, true_or, or_true, false_or, or_false, ite_not, Decidable.not_not, decide_eq_true_eq, Bool.not_true, Bool.not_false, Bool.false_eq_true, Bool.not_eq_true, n10, n20, n21, n30, n31, n32, n40, n41, n42, n43, ↓reduceIte]
        · have ec : chL (nA G S) (G S 13) (k + 1) p la le_ v = (p, la, le_) := by
            rw [chL, if_neg (fun z => h6 z.2.2.2)]
          refine ⟨H, hH, fun Q => ?_⟩
          rw [ec, fX8_chainFrom_25]
          simp (disch := first | assumption | exact c2_int _ | exact c2_ref _ | exact c2_jk | exact c2_null | omega | (apply rN1; assumption) | (apply rN2; assumption) | (apply rN3; assumption) | (apply rN4; assumption) | exact bI_r _ | exact bI_01 _) only [↓fX8_chainFrom_0, ↓fX8_chainFrom_0n, ↓fX8_chainFrom_1, ↓fX8_chainFrom_2, ↓fX8_chainFrom_5, ↓fX8_chainFrom_7, ↓fX8_chainFrom_9, ↓fX8_chainFrom_10, ↓fX8_chainFrom_13, ↓fX8_chainFrom_14, ↓fX8_chainFrom_15, ↓fX8_chainFrom_15n, ↓fX8_chainFrom_16, ↓fX8_chainFrom_19, ↓fX8_chainFrom_20, ↓fX8_chainFrom_22, ↓fX8_chainFrom_23, ↓fX8_chainFrom_27, ↓fX8_chainFrom_28, ↓fX8_chainFrom_28n, ↓fX8_chainFrom_29, ↓fX8_chainFrom_32, ↓fX8_chainFrom_35, ↓fX8_chainFrom_38, ↓fX8_chainFrom_38n, ↓fX8_chainFrom_39, ↓fX8_chainFrom_41, ↓fX8_chainFrom_44, ↓fX8_chainFrom_47, ↓fX8_chainFrom_49, ↓fX8_chainFrom_49n, ↓fX8_chainFrom_50, ↓fX8_chainFrom_53, ↓fX8_chainFrom_56, ↓fX8_chainFrom_56n, ↓fX8_chainFrom_57, ↓fX8_chainFrom_59, ↓fX8_chainFrom_60, ↓fX8_chainFrom_63, ↓fX8_chainFrom_63n, ↓fX8_chainFrom_64, ↓fX8_chainFrom_66, ↓fX8_chainFrom_69, ↓fX8_chainFrom_71, ↓fX8_chainFrom_74, ↓fX8_chainFrom_76, ↓fX8_chainFrom_78, ↓fX8_chainFrom_82, ↓fX8_chainFrom_85, ↓fX8_chainFrom_87, ↓fX8_chainFrom_88, ↓fX8_chainFrom_89, ↓fX8_chainFrom_90, ↓fX8_chainFrom_93, ↓fX8_chainFrom_95, ↓fX8_chainFrom_96, ↓fX8_chainFrom_98, ↓fX8_chainFrom_99, ↓fX8_chainFrom_99n, ↓fX8_chainFrom_100, ↓fX8_chainFrom_103, ↓fX8_chainFrom_106, ↓fX8_chainFrom_109, ↓fX8_chainFrom_110, ↓fX8_chainFrom_113, ↓fX8_chainFrom_114, ↓c9_within, ↓c9_at, ↓fin', a3, e1, bI_0, q, q2, h6, and_self, true_and, and_true, false_and, and_false, not_true_eq_false, not_false_eq_true, or_self, true_or, or_true, false_or, or_false, ite_not, Decidable.not_not, decide_eq_true_eq, Bool.not_true, Bool.not_false, Bool.false_eq_true, Bool.not_eq_true, n10, n20, n21, n30, n31, n32, n40, n41, n42, n43, ↓reduceIte]
    · have ec : chL (nA G S) (G S 13) (k + 1) p la le_ v = (p, la, le_) := by
        rw [chL, if_neg (fun z => q ⟨z.1, z.2.1⟩)]
      refine ⟨H, hH, fun Q => ?_⟩
      rw [ec, fX8_chainFrom_25]
      simp (disch := first | assumption | exact c2_int _ | exact c2_ref _ | exact c2_jk | exact c2_null | omega | (apply rN1; assumption) | (apply rN2; assumption) | (apply rN3; assumption) | (apply rN4; assumption) | exact bI_r _ | exact bI_01 _) only [↓fX8_chainFrom_0, ↓fX8_chainFrom_0n, ↓fX8_chainFrom_1, ↓fX8_chainFrom_2, ↓fX8_chainFrom_5, ↓fX8_chainFrom_7, ↓fX8_chainFrom_9, ↓fX8_chainFrom_10, ↓fX8_chainFrom_13, ↓fX8_chainFrom_14, ↓fX8_chainFrom_15, ↓fX8_chainFrom_15n, ↓fX8_chainFrom_16, ↓fX8_chainFrom_19, ↓fX8_chainFrom_20, ↓fX8_chainFrom_22, ↓fX8_chainFrom_23, ↓fX8_chainFrom_27, ↓fX8_chainFrom_28, ↓fX8_chainFrom_28n, ↓fX8_chainFrom_29, ↓fX8_chainFrom_32, ↓fX8_chainFrom_35, ↓fX8_chainFrom_38, ↓fX8_chainFrom_38n, ↓fX8_chainFrom_39, ↓fX8_chainFrom_41, ↓fX8_chainFrom_44, ↓fX8_chainFrom_47, ↓fX8_chainFrom_49, ↓fX8_chainFrom_49n, ↓fX8_chainFrom_50, ↓fX8_chainFrom_53, ↓fX8_chainFrom_56, ↓fX8_chainFrom_56n, ↓fX8_chainFrom_57, ↓fX8_chainFrom_59, ↓fX8_chainFrom_60, ↓fX8_chainFrom_63, ↓fX8_chainFrom_63n, ↓fX8_chainFrom_64, ↓fX8_chainFrom_66, ↓fX8_chainFrom_69, ↓fX8_chainFrom_71, ↓fX8_chainFrom_74, ↓fX8_chainFrom_76, ↓fX8_chainFrom_78, ↓fX8_chainFrom_82, ↓fX8_chainFrom_85, ↓fX8_chainFrom_87, ↓fX8_chainFrom_88, ↓fX8_chainFrom_89, ↓fX8_chainFrom_90, ↓fX8_chainFrom_93, ↓fX8_chainFrom_95, ↓fX8_chainFrom_96, ↓fX8_chainFrom_98, ↓fX8_chainFrom_99, ↓fX8_chainFrom_99n, ↓fX8_chainFrom_100, ↓fX8_chainFrom_103, ↓fX8_chainFrom_106, ↓fX8_chainFrom_109, ↓fX8_chainFrom_110, ↓fX8_chainFrom_113, ↓fX8_chainFrom_114, ↓c9_within, ↓fin', a3, bI_0, q, and_self, true_and, and_true, false_and, and_false, not_true_eq_false, not_false_eq_true, or_self, true_or, or_true, false_or, or_false, ite_not, Decidable.not_not, decide_eq_true_eq, Bool.not_true, Bool.not_false, Bool.false_eq_true, Bool.not_eq_true, n10, n20, n21, n30, n31, n32, n40, n41, n42, n43, ↓reduceIte]
def chC (G : Nat → Nat → Int) (S : Nat) (x w : Int) : Int := if poC G S x = -1 then -1 else if w = 0 then (chL (nA G S) (G S 13) 600 (poC G S x) x 0 (fun _ => false)).2.2 else if w = 1 then (chL (nA G S) (G S 13) 600 (poC G S x) x 0 (fun _ => false)).2.1 else bI (1 ≤ (chL (nA G S) (G S 13) 600 (poC G S x) x 0 (fun _ => false)).1 ∧ (chL (nA G S) (G S 13) 600 (poC G S x) x 0 (fun _ => false)).1 ≤ G S 13)
theorem c8_chainFrom (hs : shS E r S) (hG : rgS G S) (ht : shT E T) (ho : ofS T S) (hw : 0 ≤ w ∧ w ≤ 2) (hx : I32 x) : ∃ G' : Nat → Nat → Int, (∀ q, q ≠ T → G' q = G q) ∧ ∀ Q, RK MX8_chainFrom 0 [.ref S, .int (zi x), .int (zi w), .ref T, jk, jk, jk] [] (0, 0) (E, zg G, zk L, r) Q = Q (E, zg G', zk L, r) (.int (zi (chC G S x w))) := by
  obtain ⟨ht1, ht2⟩ := id ht
  have hp := poC_b G S x
  have hpo : ∀ Q, RK MX7_placeOf 0 [.ref S, .int (zi x)] [] (0, 0) (E, zg G, zk L, r) Q = Q (E, zg G, zk L, r) (.int (zi (poC G S x))) := fun Q => c7_placeOf hs hG hx
  have s0 := hs.1
  have g13 := hG.2.2.2.2.2.2.2.2.1
  unfold chC
  by_cases h1 : poC G S x = -1
  · refine ⟨G, fun _ _ => rfl, fun Q => ?_⟩
    simp (disch := first | assumption | exact c2_int _ | exact c2_ref _ | exact c2_jk | exact c2_null | omega | (apply rN1; assumption) | (apply rN2; assumption) | (apply rN3; assumption) | (apply rN4; assumption) | exact bI_r _ | exact bI_01 _) only [↓fX8_chainFrom_0, ↓fX8_chainFrom_0n, ↓fX8_chainFrom_1, ↓fX8_chainFrom_2, ↓fX8_chainFrom_5, ↓fX8_chainFrom_7, ↓fX8_chainFrom_9, ↓fX8_chainFrom_10, ↓fX8_chainFrom_13, ↓fX8_chainFrom_14, ↓fX8_chainFrom_15, ↓fX8_chainFrom_15n, ↓fX8_chainFrom_16, ↓fX8_chainFrom_19, ↓fX8_chainFrom_20, ↓fX8_chainFrom_22, ↓fX8_chainFrom_23, ↓fX8_chainFrom_25, ↓fX8_chainFrom_27, ↓fX8_chainFrom_28, ↓fX8_chainFrom_28n, ↓fX8_chainFrom_29, ↓fX8_chainFrom_32, ↓fX8_chainFrom_35, ↓fX8_chainFrom_38, ↓fX8_chainFrom_38n, ↓fX8_chainFrom_39, ↓fX8_chainFrom_41, ↓fX8_chainFrom_44, ↓fX8_chainFrom_47, ↓fX8_chainFrom_49, ↓fX8_chainFrom_49n, ↓fX8_chainFrom_50, ↓fX8_chainFrom_53, ↓fX8_chainFrom_56, ↓fX8_chainFrom_56n, ↓fX8_chainFrom_57, ↓fX8_chainFrom_59, ↓fX8_chainFrom_60, ↓fX8_chainFrom_63, ↓fX8_chainFrom_63n, ↓fX8_chainFrom_64, ↓fX8_chainFrom_66, ↓fX8_chainFrom_69, ↓fX8_chainFrom_71, ↓fX8_chainFrom_74, ↓fX8_chainFrom_76, ↓fX8_chainFrom_78, ↓fX8_chainFrom_81, ↓fX8_chainFrom_82, ↓fX8_chainFrom_85, ↓fX8_chainFrom_87, ↓fX8_chainFrom_88, ↓fX8_chainFrom_89, ↓fX8_chainFrom_90, ↓fX8_chainFrom_93, ↓fX8_chainFrom_95, ↓fX8_chainFrom_96, ↓fX8_chainFrom_98, ↓fX8_chainFrom_99, ↓fX8_chainFrom_99n, ↓fX8_chainFrom_100, ↓fX8_chainFrom_103, ↓fX8_chainFrom_106, ↓fX8_chainFrom_109, ↓fX8_chainFrom_110, ↓fX8_chainFrom_113, ↓fX8_chainFrom_114, ↓hpo, h1, and_self, true_and, and_true, false_and, and_false, not_true_eq_false, not_false_eq_true, or_self, true_or, or_true, false_or, or_false, ite_not, Decidable.not_not, decide_eq_true_eq, Bool.not_true, Bool.not_false, Bool.false_eq_true, Bool.not_eq_true, n10, n20, n21, n30, n31, n32, n40, n41, n42, n43, ↓reduceIte]
  · obtain ⟨H', b1, b2⟩ := c8_chain_loop (L := L) hs hG ht ho hw (c2_int (zi x)) 600 (poC G S x) x 0 (fun _ => false) (clG G T 1200) (by omega) (by omega) (by omega) (by omega) hx (fun q hq => by funext j; exact if_neg fun z => hq z.1) (fun j j1 j2 => by
      show (if T = T ∧ j.toNat < 1200 then 0 else _) = _
      rw [if_pos ⟨rfl, by omega⟩]
      rfl)
    refine ⟨H', b1, fun Q => ?_⟩
    simp (disch := first | assumption | exact c2_int _ | exact c2_ref _ | exact c2_jk | exact c2_null | omega | (apply rN1; assumption) | (apply rN2; assumption) | (apply rN3; assumption) | (apply rN4; assumption) | exact bI_r _ | exact bI_01 _) only [↓fX8_chainFrom_0, ↓fX8_chainFrom_0n, ↓fX8_chainFrom_1, ↓fX8_chainFrom_2, ↓fX8_chainFrom_5, ↓fX8_chainFrom_7, ↓fX8_chainFrom_9, ↓fX8_chainFrom_10, ↓fX8_chainFrom_13, ↓fX8_chainFrom_14, ↓fX8_chainFrom_15, ↓fX8_chainFrom_15n, ↓fX8_chainFrom_16, ↓fX8_chainFrom_19, ↓fX8_chainFrom_20, ↓fX8_chainFrom_22, ↓fX8_chainFrom_23, ↓fX8_chainFrom_27, ↓fX8_chainFrom_28, ↓fX8_chainFrom_28n, ↓fX8_chainFrom_29, ↓fX8_chainFrom_32, ↓fX8_chainFrom_35, ↓fX8_chainFrom_38, ↓fX8_chainFrom_38n, ↓fX8_chainFrom_39, ↓fX8_chainFrom_41, ↓fX8_chainFrom_44, ↓fX8_chainFrom_47, ↓fX8_chainFrom_49, ↓fX8_chainFrom_49n, ↓fX8_chainFrom_50, ↓fX8_chainFrom_53, ↓fX8_chainFrom_56, ↓fX8_chainFrom_56n, ↓fX8_chainFrom_57, ↓fX8_chainFrom_59, ↓fX8_chainFrom_60, ↓fX8_chainFrom_63, ↓fX8_chainFrom_63n, ↓fX8_chainFrom_64, ↓fX8_chainFrom_66, ↓fX8_chainFrom_69, ↓fX8_chainFrom_71, ↓fX8_chainFrom_74, ↓fX8_chainFrom_76, ↓fX8_chainFrom_78, ↓fX8_chainFrom_81, ↓fX8_chainFrom_82, ↓fX8_chainFrom_85, ↓fX8_chainFrom_87, ↓fX8_chainFrom_88, ↓fX8_chainFrom_89, ↓fX8_chainFrom_90, ↓fX8_chainFrom_93, ↓fX8_chainFrom_95, ↓fX8_chainFrom_96, ↓fX8_chainFrom_98, ↓fX8_chainFrom_99, ↓fX8_chainFrom_99n, ↓fX8_chainFrom_100, ↓fX8_chainFrom_103, ↓fX8_chainFrom_106, ↓fX8_chainFrom_109, ↓fX8_chainFrom_110, ↓fX8_chainFrom_113, ↓fX8_chainFrom_114, ↓hpo, ↓c9_clearCells, ht2, ↓b2, h1, and_self, true_and, and_true, false_and, and_false, not_true_eq_false, not_false_eq_true, or_self, true_or, or_true, false_or, or_false, ite_not, Decidable.not_not, decide_eq_true_eq, Bool.not_true, Bool.not_false, Bool.false_eq_true, Bool.not_eq_true, n10, n20, n21, n30, n31, n32, n40, n41, n42, n43, ↓reduceIte]
end BS
