/-! The reference: print, out, feed, status, fault. -/
section BM
variable {E : AE} {G G1 G2 G' L : Nat → Nat → Int} {r : Nat → Nat → Option Nat} {h : AH} {Q : AH → Value → Prop} {m M : Nat} {σ τ : Nat → Int} {P : Int → Bool} {s o y x w i p v lo hi t b d e c f g k : Int}
abbrev wrM (G : Nat → Nat → Int) (m : Nat) (ys : List Int) : Nat → Nat → Int := wrL G m 16 (m + 10) 4000 ys
theorem m_says (hm : shM E r m) (h16 : 0 ≤ G m 16 ∧ G m 16 < 4000) : RK MX10_says 0 [.ref m, .int (zi b)] [] (0, 0) (E, zg G, zk L, r) Q = Q (E, zg (wrM G m [b]), zk L, r) .null := by
  have m0 := hm.1
  obtain ⟨ka10, la10, ra10⟩ := hm.2.2.2.2.2.2.2.2.2.2.1
  have e := wrL_1 (G := G) (o := m) (f := 16) (a := m + 10) (cap := 4000) (b := b) h16.1 (by omega)
  rw [if_pos (by omega)] at e
  have e16 : u2 G (m + 10) (G m 16).toNat b m 16 = G m 16 := by rw [u2_a _ _ _ _ (by omega)]
  rw [e16] at e
  rw [show wrM G m [b] = wrL G m 16 (m + 10) 4000 [b] from rfl, ← e]
  simp (disch := first | assumption | exact c2_int _ | exact c2_ref _ | exact c2_jk | exact c2_null | omega | exact bI_r _ | exact bI_01 _) only [↓fX10_says_0, ↓fX10_says_1, ↓fX10_says_4, ↓fX10_says_5, ↓fX10_says_8, ↓fX10_says_9, ↓fX10_says_10, ↓fX10_says_11, ↓fX10_says_12, ↓fX10_says_15, ↓fX10_says_16, ↓fX10_says_17, ↓fX10_says_20, e16]
theorem wrM_16 {ys : List Int} : wrM G m ys m 16 = G m 16 + ys.length := wrL_n
theorem wrM_app {xs ys : List Int} (h0 : 0 ≤ G m 16) : wrM (wrM G m xs) m ys = wrM G m (xs ++ ys) := wrL_app h0 (by omega)
theorem wrM_q {ys : List Int} {q : Nat} (h : q ≠ m) (h2 : q ≠ m + 10) : wrM G m ys q = G q := wrL_q h h2
theorem wrM_j {ys : List Int} {j : Nat} (h : j ≠ 16) : wrM G m ys m j = G m j := wrL_o (fun z => h z.2) (by omega)
/-- the digits, from a power of ten down -/
def dgM (n : Int) : Nat → Int → List Int
  | 0, _ => []
  | k + 1, u => if 0 < u then [48 + n / u % 10] ++ dgM n k (u / 10) else []
theorem m_sn_dn (hm : shM E r m) (hn : 0 ≤ v ∧ v ≤ 100000) : ∀ (k : Nat) (u : Int) (G : Nat → Nat → Int), u < (10 : Int) ^ k → 0 ≤ u → u < 2147483648 → (0 ≤ G m 16 ∧ G m 16 + k < 4000) →
    RK MX10_saysNumber 18 [.ref m, .int (zi v), .int (zi u)] [] (0, 0) (E, zg G, zk L, r) Q = Q (E, zg (wrM G m (dgM v k u)), zk L, r) .null := by
  have m0 := hm.1
  intro k
  induction k with
  | zero =>
    intro u G h1 h2 h3 h4
    have h1' : u < 1 := h1
    have h6 : u ≤ 0 := by omega
    rw [dgM, show wrM G m [] = G from wrL_nil]
    simp (disch := first | assumption | exact c2_int _ | exact c2_ref _ | exact c2_jk | exact c2_null | omega | exact bI_r _ | exact bI_01 _) only [↓fX10_saysNumber_0, ↓fX10_saysNumber_1, ↓fX10_saysNumber_2, ↓fX10_saysNumber_3, ↓fX10_saysNumber_4, ↓fX10_saysNumber_5, ↓fX10_saysNumber_7, ↓fX10_saysNumber_10, ↓fX10_saysNumber_11, ↓fX10_saysNumber_13, ↓fX10_saysNumber_14, ↓fX10_saysNumber_15, ↓fX10_saysNumber_18, ↓fX10_saysNumber_19, ↓fX10_saysNumber_22, ↓fX10_saysNumber_23, ↓fX10_saysNumber_25, ↓fX10_saysNumber_26, ↓fX10_saysNumber_27, ↓fX10_saysNumber_28, ↓fX10_saysNumber_30, ↓fX10_saysNumber_31, ↓fX10_saysNumber_32, ↓fX10_saysNumber_35, ↓fX10_saysNumber_36, ↓fX10_saysNumber_38, ↓fX10_saysNumber_39, ↓fX10_saysNumber_40, ↓fX10_saysNumber_43, h6, and_self, true_and, and_true, false_and, and_false, not_true_eq_false, not_false_eq_true, or_self, true_or, or_true, false_or, or_false, ite_not, Decidable.not_not, decide_eq_true_eq, Bool.not_true, Bool.not_false, Bool.false_eq_true, Bool.not_eq_true, n10, n20, n21, n30, n31, n32, n40, n41, n42, n43, ↓reduceIte]
  | succ k ih =>
    intro u G h1 h2 h3 h4
    by_cases h6 : u ≤ 0
    · rw [dgM, if_neg (by omega), show wrM G m [] = G from wrL_nil]
      simp (disch := first | assumption | exact c2_int _ | exact c2_ref _ | exact c2_jk | exact c2_null | omega | exact bI_r _ | exact bI_01 _) only [↓fX10_saysNumber_0, ↓fX10_saysNumber_1, ↓fX10_saysNumber_2, ↓fX10_saysNumber_3, ↓fX10_saysNumber_4, ↓fX10_saysNumber_5, ↓fX10_saysNumber_7, ↓fX10_saysNumber_10, ↓fX10_saysNumber_11, ↓fX10_saysNumber_13, ↓fX10_saysNumber_14, ↓fX10_saysNumber_15, ↓fX10_saysNumber_18, ↓fX10_saysNumber_19, ↓fX10_saysNumber_22, ↓fX10_saysNumber_23, ↓fX10_saysNumber_25, ↓fX10_saysNumber_26, ↓fX10_saysNumber_27, ↓fX10_saysNumber_28, ↓fX10_saysNumber_30, ↓fX10_saysNumber_31, ↓fX10_saysNumber_32, ↓fX10_saysNumber_35, ↓fX10_saysNumber_36, ↓fX10_saysNumber_38, ↓fX10_saysNumber_39, ↓fX10_saysNumber_40, ↓fX10_saysNumber_43, h6, and_self, true_and, and_true, false_and, and_false, not_true_eq_false, not_false_eq_true, or_self, true_or, or_true, false_or, or_false, ite_not, Decidable.not_not, decide_eq_true_eq, Bool.not_true, Bool.not_false, Bool.false_eq_true, Bool.not_eq_true, n10, n20, n21, n30, n31, n32, n40, n41, n42, n43, ↓reduceIte]
    · have hd : u / 10 < (10 : Int) ^ k := by
        have : (10 : Int) ^ (k + 1) = 10 ^ k * 10 := Int.pow_succ _ _
        omega
      have e1 : ∀ ys, wrM (wrM G m [48 + v / u % 10]) m ys = wrM G m ([48 + v / u % 10] ++ ys) := fun ys => wrM_app h4.1
      have m1 : 0 ≤ v / u := Int.ediv_nonneg (by omega) (by omega)
      have m2 : v / u ≤ v := Int.ediv_le_self _ (by omega)
      have ih' := ih (u / 10) (wrM G m [48 + v / u % 10]) hd (by omega) (by omega) (by
        rw [wrM_16]
        simp only [List.length_cons, List.length_nil]
        omega)
      have es := fun Q => m_says (L := L) (Q := Q) (b := 48 + v / u % 10) hm (G := G) (by omega)
      rw [dgM, if_pos (by omega), ← e1, fX10_saysNumber_18]
      simp (disch := first | assumption | exact c2_int _ | exact c2_ref _ | exact c2_jk | exact c2_null | omega | exact bI_r _ | exact bI_01 _) only [↓fX10_saysNumber_0, ↓fX10_saysNumber_1, ↓fX10_saysNumber_2, ↓fX10_saysNumber_3, ↓fX10_saysNumber_4, ↓fX10_saysNumber_5, ↓fX10_saysNumber_7, ↓fX10_saysNumber_10, ↓fX10_saysNumber_11, ↓fX10_saysNumber_13, ↓fX10_saysNumber_14, ↓fX10_saysNumber_15, ↓fX10_saysNumber_19, ↓fX10_saysNumber_22, ↓fX10_saysNumber_23, ↓fX10_saysNumber_25, ↓fX10_saysNumber_26, ↓fX10_saysNumber_27, ↓fX10_saysNumber_28, ↓fX10_saysNumber_30, ↓fX10_saysNumber_31, ↓fX10_saysNumber_32, ↓fX10_saysNumber_35, ↓fX10_saysNumber_36, ↓fX10_saysNumber_38, ↓fX10_saysNumber_39, ↓fX10_saysNumber_40, ↓fX10_saysNumber_43, ↓es, ↓ih', h6, and_self, true_and, and_true, false_and, and_false, not_true_eq_false, not_false_eq_true, or_self, true_or, or_true, false_or, or_false, ite_not, Decidable.not_not, decide_eq_true_eq, Bool.not_true, Bool.not_false, Bool.false_eq_true, Bool.not_eq_true, n10, n20, n21, n30, n31, n32, n40, n41, n42, n43, ↓reduceIte]
theorem m_sn_up (hm : shM E r m) {u : Int} (hn : 0 ≤ v ∧ v ≤ 100000) (hu : 1 ≤ u ∧ u ≤ 100000) (c : ¬ v / u < 10) : RK MX10_saysNumber 2 [.ref m, .int (zi v), .int (zi u)] [] (0, 0) (E, zg G, zk L, r) Q = RK MX10_saysNumber 2 [.ref m, .int (zi v), .int (zi (u * 10))] [] (0, 0) (E, zg G, zk L, r) Q := by
  have m1 : 0 ≤ v / u := Int.ediv_nonneg (by omega) (by omega)
  have m2 : v / u ≤ v := Int.ediv_le_self _ (by omega)
  rw [fX10_saysNumber_2]
  simp (disch := first | assumption | exact c2_int _ | exact c2_ref _ | exact c2_jk | exact c2_null | omega | exact bI_r _ | exact bI_01 _) only [↓fX10_saysNumber_0, ↓fX10_saysNumber_1, ↓fX10_saysNumber_3, ↓fX10_saysNumber_4, ↓fX10_saysNumber_5, ↓fX10_saysNumber_7, ↓fX10_saysNumber_10, ↓fX10_saysNumber_11, ↓fX10_saysNumber_13, ↓fX10_saysNumber_14, ↓fX10_saysNumber_15, ↓fX10_saysNumber_18, ↓fX10_saysNumber_19, ↓fX10_saysNumber_22, ↓fX10_saysNumber_23, ↓fX10_saysNumber_25, ↓fX10_saysNumber_26, ↓fX10_saysNumber_27, ↓fX10_saysNumber_28, ↓fX10_saysNumber_30, ↓fX10_saysNumber_31, ↓fX10_saysNumber_32, ↓fX10_saysNumber_35, ↓fX10_saysNumber_36, ↓fX10_saysNumber_38, ↓fX10_saysNumber_39, ↓fX10_saysNumber_40, ↓fX10_saysNumber_43, c, and_self, true_and, and_true, false_and, and_false, not_true_eq_false, not_false_eq_true, or_self, true_or, or_true, false_or, or_false, ite_not, Decidable.not_not, decide_eq_true_eq, Bool.not_true, Bool.not_false, Bool.false_eq_true, Bool.not_eq_true, n10, n20, n21, n30, n31, n32, n40, n41, n42, n43, ↓reduceIte]
theorem m_sn_go (hm : shM E r m) {u : Int} (hn : 0 ≤ v ∧ v ≤ 100000) (hu : 1 ≤ u ∧ u ≤ 100000) (c : v / u < 10) : RK MX10_saysNumber 2 [.ref m, .int (zi v), .int (zi u)] [] (0, 0) (E, zg G, zk L, r) Q = RK MX10_saysNumber 18 [.ref m, .int (zi v), .int (zi u)] [] (0, 0) (E, zg G, zk L, r) Q := by
  have m1 : 0 ≤ v / u := Int.ediv_nonneg (by omega) (by omega)
  have m2 : v / u ≤ v := Int.ediv_le_self _ (by omega)
  rw [fX10_saysNumber_2]
  simp (disch := first | assumption | exact c2_int _ | exact c2_ref _ | exact c2_jk | exact c2_null | omega | exact bI_r _ | exact bI_01 _) only [↓fX10_saysNumber_0, ↓fX10_saysNumber_1, ↓fX10_saysNumber_2, ↓fX10_saysNumber_3, ↓fX10_saysNumber_4, ↓fX10_saysNumber_5, ↓fX10_saysNumber_7, ↓fX10_saysNumber_10, ↓fX10_saysNumber_11, ↓fX10_saysNumber_13, ↓fX10_saysNumber_14, ↓fX10_saysNumber_15, ↓fX10_saysNumber_19, ↓fX10_saysNumber_22, ↓fX10_saysNumber_23, ↓fX10_saysNumber_25, ↓fX10_saysNumber_26, ↓fX10_saysNumber_27, ↓fX10_saysNumber_28, ↓fX10_saysNumber_30, ↓fX10_saysNumber_31, ↓fX10_saysNumber_32, ↓fX10_saysNumber_35, ↓fX10_saysNumber_36, ↓fX10_saysNumber_38, ↓fX10_saysNumber_39, ↓fX10_saysNumber_40, ↓fX10_saysNumber_43, c, and_self, true_and, and_true, false_and, and_false, not_true_eq_false, not_false_eq_true, or_self, true_or, or_true, false_or, or_false, ite_not, Decidable.not_not, decide_eq_true_eq, Bool.not_true, Bool.not_false, Bool.false_eq_true, Bool.not_eq_true, n10, n20, n21, n30, n31, n32, n40, n41, n42, n43, ↓reduceIte]
/-- a power of ten not above the number -/
def pwB (v : Int) : Nat → Int → Prop
  | 0, _ => True
  | k + 1, u => (u ≤ v ∨ u = 1 ∨ u = 0) ∧ pwB v k (u / 10)
theorem dgM_C {v : Int} : ∀ (k : Nat) (u : Int), pwB v k u → dgM v k u = dgL v k u := by
  intro k
  induction k with
  | zero => intro u _; rfl
  | succ k ih =>
    intro u h
    obtain ⟨h1, h2⟩ := h
    unfold dgM dgL
    by_cases c : 0 < u
    · rw [if_pos c, if_pos c, if_pos (by omega), ih (u / 10) h2]
    · rw [if_neg c, if_neg c]
theorem pwB_le {v : Int} : ∀ (k : Nat) (u : Int), u ≤ v → 0 ≤ u → pwB v k u := by
  intro k
  induction k with
  | zero => intro u _ _; trivial
  | succ k ih => intro u h h0; exact ⟨Or.inl h, ih (u / 10) (by omega) (by omega)⟩
theorem pwB_0 {v : Int} : ∀ k : Nat, pwB v k 0 := by
  intro k
  induction k with
  | zero => trivial
  | succ k ih => exact ⟨Or.inr (Or.inr rfl), ih⟩
theorem pwB_1 {v : Int} (k : Nat) : pwB v (k + 1) 1 := ⟨Or.inr (Or.inl rfl), pwB_0 k⟩
theorem dgL_skip {v u : Int} (h : 0 < u) (h2 : ¬ (u ≤ v ∨ u = 1)) (k : Nat) : dgL v (k + 1) u = dgL v k (u / 10) := by
  rw [dgL, if_pos h, if_neg h2, List.nil_append]
theorem dgL_fu (v : Int) : ∀ (k : Nat) (u : Int), u < (10 : Int) ^ k → 0 ≤ u → dgL v (k + 1) u = dgL v k u := by
  intro k
  induction k with
  | zero =>
    intro u h1 h2
    have h1' : u < 1 := h1
    unfold dgL
    rw [if_neg (by omega)]
  | succ k ih =>
    intro u h1 h2
    have hd : u / 10 < (10 : Int) ^ k := by
      have : (10 : Int) ^ (k + 1) = 10 ^ k * 10 := Int.pow_succ _ _
      omega
    rw [dgL]
    conv => rhs; rw [dgL]
    rw [ih (u / 10) hd (by omega)]
theorem m_saysNumber (hm : shM E r m) (hn : 0 ≤ v ∧ v ≤ 100000) (h16 : 0 ≤ G m 16 ∧ G m 16 + 6 < 4000) : RK MX10_saysNumber 0 [.ref m, .int (zi v), jk] [] (0, 0) (E, zg G, zk L, r) Q = Q (E, zg (wrM G m (dgC v)), zk L, r) .null := by
  have e0 : RK MX10_saysNumber 0 [.ref m, .int (zi v), jk] [] (0, 0) (E, zg G, zk L, r) Q = RK MX10_saysNumber 2 [.ref m, .int (zi v), .int (zi 1)] [] (0, 0) (E, zg G, zk L, r) Q := by
    simp (disch := first | assumption | exact c2_int _ | exact c2_ref _ | exact c2_jk | exact c2_null | omega | exact bI_r _ | exact bI_01 _) only [↓fX10_saysNumber_0, ↓fX10_saysNumber_1, ↓fX10_saysNumber_3, ↓fX10_saysNumber_4, ↓fX10_saysNumber_5, ↓fX10_saysNumber_7, ↓fX10_saysNumber_10, ↓fX10_saysNumber_11, ↓fX10_saysNumber_13, ↓fX10_saysNumber_14, ↓fX10_saysNumber_15, ↓fX10_saysNumber_18, ↓fX10_saysNumber_19, ↓fX10_saysNumber_22, ↓fX10_saysNumber_23, ↓fX10_saysNumber_25, ↓fX10_saysNumber_26, ↓fX10_saysNumber_27, ↓fX10_saysNumber_28, ↓fX10_saysNumber_30, ↓fX10_saysNumber_31, ↓fX10_saysNumber_32, ↓fX10_saysNumber_35, ↓fX10_saysNumber_36, ↓fX10_saysNumber_38, ↓fX10_saysNumber_39, ↓fX10_saysNumber_40, ↓fX10_saysNumber_43]
  have up := fun u hu c => m_sn_up (L := L) (G := G) (Q := Q) (u := u) hm hn hu c
  have go : ∀ u : Int, 1 ≤ u ∧ u ≤ 100000 → v / u < 10 → pwB v 6 u → RK MX10_saysNumber 2 [.ref m, .int (zi v), .int (zi u)] [] (0, 0) (E, zg G, zk L, r) Q = Q (E, zg (wrM G m (dgL v 6 u)), zk L, r) .null := fun u hu c hb => by
    rw [m_sn_go hm hn hu c, m_sn_dn hm hn 6 u G (by have : (10 : Int) ^ 6 = 1000000 := by decide
                                                    omega) (by omega) (by omega) (by omega), dgM_C 6 u hb]
  have u1 := up 1 (by decide)
  have u2' := up 10 (by decide)
  have u3 := up 100 (by decide)
  have u4 := up 1000 (by decide)
  have u5 := up 10000 (by decide)
  have x1 : (1 : Int) * 10 = 10 := by decide
  have x2 : (10 : Int) * 10 = 100 := by decide
  have x3 : (100 : Int) * 10 = 1000 := by decide
  have x4 : (1000 : Int) * 10 = 10000 := by decide
  have x5 : (10000 : Int) * 10 = 100000 := by decide
  rw [x1] at u1
  rw [x2] at u2'
  rw [x3] at u3
  rw [x4] at u4
  rw [x5] at u5
  have s1 : v < 100000 → dgL v 6 100000 = dgL v 5 10000 := fun h => dgL_skip (v := v) (u := 100000) (by decide) (by omega) 5
  have s2 : v < 10000 → dgL v 5 10000 = dgL v 4 1000 := fun h => dgL_skip (v := v) (u := 10000) (by decide) (by omega) 4
  have s3 : v < 1000 → dgL v 4 1000 = dgL v 3 100 := fun h => dgL_skip (v := v) (u := 1000) (by decide) (by omega) 3
  have s4 : v < 100 → dgL v 3 100 = dgL v 2 10 := fun h => dgL_skip (v := v) (u := 100) (by decide) (by omega) 2
  have s5 : v < 10 → dgL v 2 10 = dgL v 1 1 := fun h => dgL_skip (v := v) (u := 10) (by decide) (by omega) 1
  have f1 : dgL v 6 1 = dgL v 1 1 := by
    rw [dgL_fu v 5 1 (by decide) (by decide), dgL_fu v 4 1 (by decide) (by decide), dgL_fu v 3 1 (by decide) (by decide), dgL_fu v 2 1 (by decide) (by decide), dgL_fu v 1 1 (by decide) (by decide)]
  have f2 : dgL v 6 10 = dgL v 2 10 := by
    rw [dgL_fu v 5 10 (by decide) (by decide), dgL_fu v 4 10 (by decide) (by decide), dgL_fu v 3 10 (by decide) (by decide), dgL_fu v 2 10 (by decide) (by decide)]
  have f3 : dgL v 6 100 = dgL v 3 100 := by
    rw [dgL_fu v 5 100 (by decide) (by decide), dgL_fu v 4 100 (by decide) (by decide), dgL_fu v 3 100 (by decide) (by decide)]
  have f4 : dgL v 6 1000 = dgL v 4 1000 := by
    rw [dgL_fu v 5 1000 (by decide) (by decide), dgL_fu v 4 1000 (by decide) (by decide)]
  have f5 : dgL v 6 10000 = dgL v 5 10000 := dgL_fu v 5 10000 (by decide) (by decide)
  rw [e0]
  unfold dgC
  by_cases c1 : v < 10
  · rw [go 1 (by decide) (by omega) (pwB_1 5), s1 (by omega), s2 (by omega), s3 (by omega), s4 (by omega), s5 (by omega), f1]
  · rw [u1 (by omega)]
    by_cases c2 : v < 100
    · rw [go 10 (by decide) (by omega) (pwB_le 6 _ (by omega) (by decide)), s1 (by omega), s2 (by omega), s3 (by omega), s4 (by omega), f2]
    · rw [u2' (by omega)]
      by_cases c3 : v < 1000
      · rw [go 100 (by decide) (by omega) (pwB_le 6 _ (by omega) (by decide)), s1 (by omega), s2 (by omega), s3 (by omega), f3]
      · rw [u3 (by omega)]
        by_cases c4 : v < 10000
        · rw [go 1000 (by decide) (by omega) (pwB_le 6 _ (by omega) (by decide)), s1 (by omega), s2 (by omega), f4]
        · rw [u4 (by omega)]
          by_cases c5 : v < 100000
          · rw [go 10000 (by decide) (by omega) (pwB_le 6 _ (by omega) (by decide)), s1 (by omega), f5]
          · rw [u5 (by omega), go 100000 (by decide) (by omega) (pwB_le 6 _ (by omega) (by decide))]
theorem dgC_len {v : Int} (h : v < 100000) : (dgC v).length ≤ 5 := by
  have s1 : dgC v = dgL v 5 10000 := dgL_skip (v := v) (u := 100000) (by decide) (by omega) 5
  rw [s1]
  exact dgL_len v 5 _
end BM
