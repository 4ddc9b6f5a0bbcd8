/-! The reference: print. -/
def pmL (A : Int → Int) (R : Int → Int) (n : Int) : Nat → Int → List Int
  | 0, _ => []
  | k + 1, p => if p ≤ n then (if 1 < p then [32] else []) ++ (dgC (A p) ++ (if R p - p + 1 < 3 then pmL A R n k (p + 1) else [45] ++ (dgC (A (R p)) ++ pmL A R n k (p + (R p - p + 1))))) else []
theorem pw_skip (A R : Int → Int) (n : Int) : ∀ (j k : Nat) (p sh : Int), sh + 1 = p + j → sh ≤ n → pwL A R n (k + j) p sh = pwL A R n k (sh + 1) sh := by
  intro j
  induction j with
  | zero =>
    intro k p sh h1 h2
    rw [show p = sh + 1 by omega]
    rfl
  | succ j ih =>
    intro k p sh h1 h2
    rw [show k + (j + 1) = (k + j) + 1 by omega, pwL, if_pos (by omega), if_pos (by omega)]
    exact ih k (p + 1) sh (by omega) h2
theorem pw_pm (A R : Int → Int) (n : Int) (hR : ∀ p, 1 ≤ p → p ≤ n → p ≤ R p ∧ R p ≤ n) : ∀ (j k k' : Nat) (p sh : Int), n + 1 - p ≤ j → n + 1 - p ≤ k → n + 1 - p ≤ k' → 1 ≤ p → sh < p → pwL A R n k p sh = pmL A R n k' p := by
  intro j
  induction j with
  | zero =>
    intro k k' p sh h1 h2 h3 h4 h5
    have a : pwL A R n k p sh = [] := by
      cases k with
      | zero => rfl
      | succ k => rw [pwL, if_neg (by omega)]
    have b : pmL A R n k' p = [] := by
      cases k' with
      | zero => rfl
      | succ k => rw [pmL, if_neg (by omega)]
    rw [a, b]
  | succ j ih =>
    intro k k' p sh h1 h2 h3 h4 h5
    by_cases c : p ≤ n
    · have hr := hR p h4 c
      cases k with
      | zero => omega
      | succ k =>
        cases k' with
        | zero => omega
        | succ k' =>
          rw [pwL, pmL, if_pos c, if_pos c, if_neg (by omega)]
          congr 2
          by_cases c2 : R p - p < 2
          · rw [if_pos c2, if_pos (by omega)]
            exact ih k k' (p + 1) sh (by omega) (by omega) (by omega) (by omega) (by omega)
          · rw [if_neg c2, if_neg (by omega)]
            congr 2
            obtain ⟨d, hd⟩ : ∃ d : Nat, R p - p = d := ⟨(R p - p).toNat, by omega⟩
            have hkd : k = (k - d) + d := by omega
            rw [hkd, pw_skip A R n d (k - d) (p + 1) (R p) (by omega) hr.2, show p + (R p - p + 1) = R p + 1 by omega]
            exact ih (k - d) k' (R p + 1) (R p) (by omega) (by omega) (by omega) (by omega) (by omega)
    · have a : pwL A R n k p sh = [] := by
        cases k with
        | zero => rfl
        | succ k => rw [pwL, if_neg c]
      have b : pmL A R n k' p = [] := by
        cases k' with
        | zero => rfl
        | succ k => rw [pmL, if_neg c]
      rw [a, b]
section BM
variable {E : AE} {G G1 G2 G' L : Nat → Nat → Int} {r : Nat → Nat → Option Nat} {h : AH} {Q : AH → Value → Prop} {m M : Nat} {σ τ : Nat → Int} {P : Int → Bool} {s o y x w i p v lo hi t b d e c f g k : Int}
theorem nAS_5 (hW : WF σ) (hp : 1 ≤ p ∧ p ≤ szS σ) : nAS σ p < 100000 := by
  have w1 := hW.2.1
  have w2 := hW.2.2.1
  have w3 := hW.2.2.2.1
  have e : nAS σ p = σ 1 + σ 2 * (ixN (hbS σ) (σ 3).toNat p : Int) := if_pos hp
  have hx := (ixN_ok (hbS σ) (σ 3).toNat p hp.1 hp.2).1
  have : σ 2 * (ixN (hbS σ) (σ 3).toNat p : Int) ≤ 99 * 599 := by
    refine Int.le_trans (Int.mul_le_mul_of_nonneg_right w2.2 (by omega)) ?_
    exact Int.mul_le_mul_of_nonneg_left (by omega) (by decide)
  omega
theorem m_print_loop (hm : shM E r m) (hs : 0 ≤ s ∧ s ≤ 4) (hl : SL G m s σ) (hW : WF σ) (ha : LAS G m σ) (h16 : G m 16 = 0) : ∀ (k : Nat) (p : Int) (ys : List Int) (l3 : Value), szS σ + 1 - p ≤ k → 1 ≤ p → p ≤ szS σ + 1 → (ys.length : Int) ≤ 6 * (p - 1) →
    ((ys ++ pmL (nAS σ) (reZ σ) (szS σ) k p).length : Int) ≤ 6 * szS σ ∧ RK MX10_print 34 [.ref m, .int (zi s), .int (zi p), l3] [] (0, 0) (E, zg (wrM G m ys), zk L, r) Q = Q (E, zg (wrM G m (ys ++ pmL (nAS σ) (reZ σ) (szS σ) k p)), zk L, r) (.int (zi ((ys ++ pmL (nAS σ) (reZ σ) (szS σ) k p).length : Int))) := by
  have m0 := hm.1
  have hz := szS_b hW
  have hSL : ∀ ys, SL (wrM G m ys) m s σ := fun ys => SL_c hl (wrM_q (by omega) (by omega))
  have e12 : ∀ ys, wrM G m ys m 12 = szS σ := fun ys => by rw [wrM_j (by decide)]; exact ha.1
  have hLA : ∀ ys, LAS (wrM G m ys) m σ := fun ys => LAP_c ha (wrM_q (by omega) (by omega)) (wrM_j (by decide))
  have e16 : ∀ ys : List Int, wrM G m ys m 16 = ys.length := fun ys => by rw [wrM_16, h16, Int.zero_add]
  have ea : ∀ (ys : List Int) (p : Int) Q, (1 ≤ p ∧ p ≤ szS σ) → RK MX10_at 0 [.ref m, .int (zi s), .int (zi p)] [] (0, 0) (E, zg (wrM G m ys), zk L, r) Q = Q (E, zg (wrM G m ys), zk L, r) (.int (zi (nAS σ p))) := fun ys p Q hp => m_at hm hs (hSL ys) hW (hLA ys) hp
  have er : ∀ (ys : List Int) (p : Int) Q, (1 ≤ p ∧ p ≤ 601) → RK MX10_runFrom 0 [.ref m, .int (zi s), .int (zi p), jk] [] (0, 0) (E, zg (wrM G m ys), zk L, r) Q = Q (E, zg (wrM G m ys), zk L, r) (.int (zi (reZ σ p - p + 1))) := fun ys p Q hp => m_runFrom hm hs (hSL ys) hW (hLA ys) hp
  have es : ∀ (ys : List Int) (b : Int) Q, (ys.length : Int) ≤ 3990 → RK MX10_says 0 [.ref m, .int (zi b)] [] (0, 0) (E, zg (wrM G m ys), zk L, r) Q = Q (E, zg (wrM G m (ys ++ [b])), zk L, r) .null := fun ys b Q hy => by
    rw [m_says hm (by rw [e16]; omega), wrM_app (by omega)]
  have en : ∀ (ys : List Int) (v : Int) Q, (0 ≤ v ∧ v ≤ 100000) → (ys.length : Int) ≤ 3990 → RK MX10_saysNumber 0 [.ref m, .int (zi v), jk] [] (0, 0) (E, zg (wrM G m ys), zk L, r) Q = Q (E, zg (wrM G m (ys ++ dgC v)), zk L, r) .null := fun ys v Q hv hy => by
    rw [m_saysNumber hm hv (by rw [e16]; omega), wrM_app (by omega)]
  have hR : ∀ p, 1 ≤ p ∧ p ≤ szS σ → p ≤ reZ σ p ∧ reZ σ p ≤ szS σ := fun p hp => (reZ_sp hW hp).1
  intro k
  induction k with
  | zero =>
    intro p ys l3 h1 h2 h3 h4
    have h6 : ¬ p ≤ szS σ := by omega
    have ee : ys ++ pmL (nAS σ) (reZ σ) (szS σ) 0 p = ys := List.append_nil ys
    rw [ee]
    refine ⟨by omega, ?_⟩
    simp (disch := first | assumption | exact c2_int _ | exact c2_ref _ | exact c2_jk | exact c2_null | omega | exact bI_r _ | exact bI_01 _) only [↓fX10_print_0, ↓fX10_print_1, ↓fX10_print_2, ↓fX10_print_3, ↓fX10_print_6, ↓fX10_print_9, ↓fX10_print_10, ↓fX10_print_13, ↓fX10_print_14, ↓fX10_print_17, ↓fX10_print_20, ↓fX10_print_21, ↓fX10_print_22, ↓fX10_print_23, ↓fX10_print_24, ↓fX10_print_27, ↓fX10_print_28, ↓fX10_print_29, ↓fX10_print_32, ↓fX10_print_33, ↓fX10_print_34, ↓fX10_print_35, ↓fX10_print_36, ↓fX10_print_39, ↓fX10_print_42, ↓fX10_print_43, ↓fX10_print_44, ↓fX10_print_47, ↓fX10_print_48, ↓fX10_print_50, ↓fX10_print_53, ↓fX10_print_54, ↓fX10_print_55, ↓fX10_print_56, ↓fX10_print_57, ↓fX10_print_60, ↓fX10_print_63, ↓fX10_print_64, ↓fX10_print_65, ↓fX10_print_66, ↓fX10_print_69, ↓fX10_print_70, ↓fX10_print_71, ↓fX10_print_72, ↓fX10_print_75, ↓fX10_print_76, ↓fX10_print_78, ↓fX10_print_81, ↓fX10_print_82, ↓fX10_print_83, ↓fX10_print_84, ↓fX10_print_85, ↓fX10_print_86, ↓fX10_print_87, ↓fX10_print_88, ↓fX10_print_89, ↓fX10_print_92, ↓fX10_print_95, ↓fX10_print_96, ↓fX10_print_97, ↓fX10_print_98, ↓fX10_print_99, ↓fX10_print_102, ↓fX10_print_105, ↓fX10_print_108, ↓fX10_print_109, ↓fX10_print_112, e12, e16, h6, and_self, true_and, and_true, false_and, and_false, not_true_eq_false, not_false_eq_true, or_self, true_or, or_true, false_or, or_false, ite_not, Decidable.not_not, decide_eq_true_eq, Bool.not_true, Bool.not_false, Bool.false_eq_true, Bool.not_eq_true, n10, n20, n21, n30, n31, n32, n40, n41, n42, n43, ↓reduceIte]
  | succ k ih =>
    intro p ys l3 h1 h2 h3 h4
    by_cases h6 : p ≤ szS σ
    · have hr := hR p ⟨h2, h6⟩
      have n1 := nAS_0 hW ⟨h2, h6⟩
      have n2 := nAS_0 hW (p := reZ σ p) (by omega)
      have d1 := dgC_len (nAS_5 hW (p := p) ⟨h2, h6⟩)
      have d2 := dgC_len (nAS_5 hW (p := reZ σ p) (by omega))
      -- with the space, or without
      have hsp : ∃ zs : List Int, (zs.length : Int) ≤ 6 * (p - 1) + 1 ∧ ys ++ (if 1 < p then [32] else []) = zs ∧ RK MX10_print 34 [.ref m, .int (zi s), .int (zi p), l3] [] (0, 0) (E, zg (wrM G m ys), zk L, r) Q = RK MX10_print 53 [.ref m, .int (zi s), .int (zi p), l3] [] (0, 0) (E, zg (wrM G m zs), zk L, r) Q := by
        by_cases c : 1 < p
        · have c' : ¬ p ≤ 1 := by omega
          refine ⟨ys ++ [32], by simp only [List.length_append, List.length_cons, List.length_nil]; omega, by rw [if_pos c], ?_⟩
          have hy : (ys.length : Int) ≤ 3990 := by omega
          rw [fX10_print_34]
          simp (disch := first | assumption | exact c2_int _ | exact c2_ref _ | exact c2_jk | exact c2_null | omega | exact bI_r _ | exact bI_01 _) only [↓fX10_print_0, ↓fX10_print_1, ↓fX10_print_2, ↓fX10_print_3, ↓fX10_print_6, ↓fX10_print_9, ↓fX10_print_10, ↓fX10_print_13, ↓fX10_print_14, ↓fX10_print_17, ↓fX10_print_20, ↓fX10_print_21, ↓fX10_print_22, ↓fX10_print_23, ↓fX10_print_24, ↓fX10_print_27, ↓fX10_print_28, ↓fX10_print_29, ↓fX10_print_32, ↓fX10_print_33, ↓fX10_print_35, ↓fX10_print_36, ↓fX10_print_39, ↓fX10_print_42, ↓fX10_print_43, ↓fX10_print_44, ↓fX10_print_47, ↓fX10_print_48, ↓fX10_print_50, ↓fX10_print_54, ↓fX10_print_55, ↓fX10_print_56, ↓fX10_print_57, ↓fX10_print_60, ↓fX10_print_63, ↓fX10_print_64, ↓fX10_print_65, ↓fX10_print_66, ↓fX10_print_69, ↓fX10_print_70, ↓fX10_print_71, ↓fX10_print_72, ↓fX10_print_75, ↓fX10_print_76, ↓fX10_print_78, ↓fX10_print_81, ↓fX10_print_82, ↓fX10_print_83, ↓fX10_print_84, ↓fX10_print_85, ↓fX10_print_86, ↓fX10_print_87, ↓fX10_print_88, ↓fX10_print_89, ↓fX10_print_92, ↓fX10_print_95, ↓fX10_print_96, ↓fX10_print_97, ↓fX10_print_98, ↓fX10_print_99, ↓fX10_print_102, ↓fX10_print_105, ↓fX10_print_108, ↓fX10_print_109, ↓fX10_print_112, ↓es, e12, h6, c', and_self, true_and, and_true, false_and, and_false, not_true_eq_false, not_false_eq_true, or_self, true_or, or_true, false_or, or_false, ite_not, Decidable.not_not, decide_eq_true_eq, Bool.not_true, Bool.not_false, Bool.false_eq_true, Bool.not_eq_true, n10, n20, n21, n30, n31, n32, n40, n41, n42, n43, ↓reduceIte]
        · have c' : p ≤ 1 := by omega
          refine ⟨ys, by omega, by rw [if_neg c, List.append_nil], ?_⟩
          rw [fX10_print_34]
          simp (disch := first | assumption | exact c2_int _ | exact c2_ref _ | exact c2_jk | exact c2_null | omega | exact bI_r _ | exact bI_01 _) only [↓fX10_print_0, ↓fX10_print_1, ↓fX10_print_2, ↓fX10_print_3, ↓fX10_print_6, ↓fX10_print_9, ↓fX10_print_10, ↓fX10_print_13, ↓fX10_print_14, ↓fX10_print_17, ↓fX10_print_20, ↓fX10_print_21, ↓fX10_print_22, ↓fX10_print_23, ↓fX10_print_24, ↓fX10_print_27, ↓fX10_print_28, ↓fX10_print_29, ↓fX10_print_32, ↓fX10_print_33, ↓fX10_print_35, ↓fX10_print_36, ↓fX10_print_39, ↓fX10_print_42, ↓fX10_print_43, ↓fX10_print_44, ↓fX10_print_47, ↓fX10_print_48, ↓fX10_print_50, ↓fX10_print_54, ↓fX10_print_55, ↓fX10_print_56, ↓fX10_print_57, ↓fX10_print_60, ↓fX10_print_63, ↓fX10_print_64, ↓fX10_print_65, ↓fX10_print_66, ↓fX10_print_69, ↓fX10_print_70, ↓fX10_print_71, ↓fX10_print_72, ↓fX10_print_75, ↓fX10_print_76, ↓fX10_print_78, ↓fX10_print_81, ↓fX10_print_82, ↓fX10_print_83, ↓fX10_print_84, ↓fX10_print_85, ↓fX10_print_86, ↓fX10_print_87, ↓fX10_print_88, ↓fX10_print_89, ↓fX10_print_92, ↓fX10_print_95, ↓fX10_print_96, ↓fX10_print_97, ↓fX10_print_98, ↓fX10_print_99, ↓fX10_print_102, ↓fX10_print_105, ↓fX10_print_108, ↓fX10_print_109, ↓fX10_print_112, e12, h6, c', and_self, true_and, and_true, false_and, and_false, not_true_eq_false, not_false_eq_true, or_self, true_or, or_true, false_or, or_false, ite_not, Decidable.not_not, decide_eq_true_eq, Bool.not_true, Bool.not_false, Bool.false_eq_true, Bool.not_eq_true, n10, n20, n21, n30, n31, n32, n40, n41, n42, n43, ↓reduceIte]
      obtain ⟨zs, z1, z2, z3⟩ := hsp
      have hzs : (zs.length : Int) ≤ 3990 := by omega
      have l2 : ((zs ++ dgC (nAS σ p)).length : Int) ≤ 6 * p := by
        rw [List.length_append]
        omega
      have l2' : ((zs ++ dgC (nAS σ p)).length : Int) ≤ 3990 := by omega
      rw [z3]
      by_cases c3 : reZ σ p - p + 1 < 3
      · have eP : ys ++ pmL (nAS σ) (reZ σ) (szS σ) (k + 1) p = (zs ++ dgC (nAS σ p)) ++ pmL (nAS σ) (reZ σ) (szS σ) k (p + 1) := by
          rw [pmL, if_pos h6, if_pos c3, ← z2]
          simp only [List.append_assoc]
        obtain ⟨i1, i2⟩ := ih (p + 1) (zs ++ dgC (nAS σ p)) (.int (zi (reZ σ p - p + 1))) (by omega) (by omega) (by omega) (by omega)
        rw [eP]
        refine ⟨i1, ?_⟩
        rw [← i2]
        simp (disch := first | assumption | exact c2_int _ | exact c2_ref _ | exact c2_jk | exact c2_null | omega | exact bI_r _ | exact bI_01 _) only [↓fX10_print_0, ↓fX10_print_1, ↓fX10_print_2, ↓fX10_print_3, ↓fX10_print_6, ↓fX10_print_9, ↓fX10_print_10, ↓fX10_print_13, ↓fX10_print_14, ↓fX10_print_17, ↓fX10_print_20, ↓fX10_print_21, ↓fX10_print_22, ↓fX10_print_23, ↓fX10_print_24, ↓fX10_print_27, ↓fX10_print_28, ↓fX10_print_29, ↓fX10_print_32, ↓fX10_print_33, ↓fX10_print_35, ↓fX10_print_36, ↓fX10_print_39, ↓fX10_print_42, ↓fX10_print_43, ↓fX10_print_44, ↓fX10_print_47, ↓fX10_print_48, ↓fX10_print_50, ↓fX10_print_53, ↓fX10_print_54, ↓fX10_print_55, ↓fX10_print_56, ↓fX10_print_57, ↓fX10_print_60, ↓fX10_print_63, ↓fX10_print_64, ↓fX10_print_65, ↓fX10_print_66, ↓fX10_print_69, ↓fX10_print_70, ↓fX10_print_71, ↓fX10_print_72, ↓fX10_print_75, ↓fX10_print_76, ↓fX10_print_78, ↓fX10_print_81, ↓fX10_print_82, ↓fX10_print_83, ↓fX10_print_84, ↓fX10_print_85, ↓fX10_print_86, ↓fX10_print_87, ↓fX10_print_88, ↓fX10_print_89, ↓fX10_print_92, ↓fX10_print_95, ↓fX10_print_96, ↓fX10_print_97, ↓fX10_print_98, ↓fX10_print_99, ↓fX10_print_102, ↓fX10_print_105, ↓fX10_print_108, ↓fX10_print_109, ↓fX10_print_112, ↓ea, ↓en, ↓er, c3, and_self, true_and, and_true, false_and, and_false, not_true_eq_false, not_false_eq_true, or_self, true_or, or_true, false_or, or_false, ite_not, Decidable.not_not, decide_eq_true_eq, Bool.not_true, Bool.not_false, Bool.false_eq_true, Bool.not_eq_true, n10, n20, n21, n30, n31, n32, n40, n41, n42, n43, ↓reduceIte]
      · have eR : p + (reZ σ p - p + 1) - 1 = reZ σ p := by omega
        have l3' : ((zs ++ dgC (nAS σ p) ++ [45]).length : Int) ≤ 3990 := by
          rw [List.length_append, List.length_cons, List.length_nil]
          omega
        have l4 : ((zs ++ dgC (nAS σ p) ++ [45] ++ dgC (nAS σ (reZ σ p))).length : Int) ≤ 6 * (p + (reZ σ p - p + 1) - 1) := by
          rw [List.length_append, List.length_append, List.length_cons, List.length_nil]
          omega
        have eP : ys ++ pmL (nAS σ) (reZ σ) (szS σ) (k + 1) p = (zs ++ dgC (nAS σ p) ++ [45] ++ dgC (nAS σ (reZ σ p))) ++ pmL (nAS σ) (reZ σ) (szS σ) k (p + (reZ σ p - p + 1)) := by
          rw [pmL, if_pos h6, if_neg c3, ← z2]
          simp only [List.append_assoc]
        obtain ⟨i1, i2⟩ := ih (p + (reZ σ p - p + 1)) (zs ++ dgC (nAS σ p) ++ [45] ++ dgC (nAS σ (reZ σ p))) (.int (zi (reZ σ p - p + 1))) (by omega) (by omega) (by omega) l4
        rw [eP]
        refine ⟨i1, ?_⟩
        rw [← i2]
        simp (disch := first | assumption | exact c2_int _ | exact c2_ref _ | exact c2_jk | exact c2_null | omega | exact bI_r _ | exact bI_01 _) only [↓fX10_print_0, ↓fX10_print_1, ↓fX10_print_2, ↓fX10_print_3, ↓fX10_print_6, ↓fX10_print_9, ↓fX10_print_10, ↓fX10_print_13, ↓fX10_print_14, ↓fX10_print_17, ↓fX10_print_20, ↓fX10_print_21, ↓fX10_print_22, ↓fX10_print_23, ↓fX10_print_24, ↓fX10_print_27, ↓fX10_print_28, ↓fX10_print_29, ↓fX10_print_32, ↓fX10_print_33, ↓fX10_print_35, ↓fX10_print_36, ↓fX10_print_39, ↓fX10_print_42, ↓fX10_print_43, ↓fX10_print_44, ↓fX10_print_47, ↓fX10_print_48, ↓fX10_print_50, ↓fX10_print_53, ↓fX10_print_54, ↓fX10_print_55, ↓fX10_print_56, ↓fX10_print_57, ↓fX10_print_60, ↓fX10_print_63, ↓fX10_print_64, ↓fX10_print_65, ↓fX10_print_66, ↓fX10_print_69, ↓fX10_print_70, ↓fX10_print_71, ↓fX10_print_72, ↓fX10_print_75, ↓fX10_print_76, ↓fX10_print_78, ↓fX10_print_81, ↓fX10_print_82, ↓fX10_print_83, ↓fX10_print_84, ↓fX10_print_85, ↓fX10_print_86, ↓fX10_print_87, ↓fX10_print_88, ↓fX10_print_89, ↓fX10_print_92, ↓fX10_print_95, ↓fX10_print_96, ↓fX10_print_97, ↓fX10_print_98, ↓fX10_print_99, ↓fX10_print_102, ↓fX10_print_105, ↓fX10_print_108, ↓fX10_print_109, ↓fX10_print_112, ↓ea, ↓en, ↓er, ↓es, c3, eR, and_self, true_and, and_true, false_and, and_false, not_true_eq_false, not_false_eq_true, or_self, true_or, or_true, false_or, or_false, ite_not, Decidable.not_not, decide_eq_true_eq, Bool.not_true, Bool.not_false, Bool.false_eq_true, Bool.not_eq_true, n10, n20, n21, n30, n31, n32, n40, n41, n42, n43, ↓reduceIte]
    · have ee : ys ++ pmL (nAS σ) (reZ σ) (szS σ) (k + 1) p = ys := by
        rw [pmL, if_neg h6]
        exact List.append_nil ys
      rw [ee]
      refine ⟨by omega, ?_⟩
      simp (disch := first | assumption | exact c2_int _ | exact c2_ref _ | exact c2_jk | exact c2_null | omega | exact bI_r _ | exact bI_01 _) only [↓fX10_print_0, ↓fX10_print_1, ↓fX10_print_2, ↓fX10_print_3, ↓fX10_print_6, ↓fX10_print_9, ↓fX10_print_10, ↓fX10_print_13, ↓fX10_print_14, ↓fX10_print_17, ↓fX10_print_20, ↓fX10_print_21, ↓fX10_print_22, ↓fX10_print_23, ↓fX10_print_24, ↓fX10_print_27, ↓fX10_print_28, ↓fX10_print_29, ↓fX10_print_32, ↓fX10_print_33, ↓fX10_print_34, ↓fX10_print_35, ↓fX10_print_36, ↓fX10_print_39, ↓fX10_print_42, ↓fX10_print_43, ↓fX10_print_44, ↓fX10_print_47, ↓fX10_print_48, ↓fX10_print_50, ↓fX10_print_53, ↓fX10_print_54, ↓fX10_print_55, ↓fX10_print_56, ↓fX10_print_57, ↓fX10_print_60, ↓fX10_print_63, ↓fX10_print_64, ↓fX10_print_65, ↓fX10_print_66, ↓fX10_print_69, ↓fX10_print_70, ↓fX10_print_71, ↓fX10_print_72, ↓fX10_print_75, ↓fX10_print_76, ↓fX10_print_78, ↓fX10_print_81, ↓fX10_print_82, ↓fX10_print_83, ↓fX10_print_84, ↓fX10_print_85, ↓fX10_print_86, ↓fX10_print_87, ↓fX10_print_88, ↓fX10_print_89, ↓fX10_print_92, ↓fX10_print_95, ↓fX10_print_96, ↓fX10_print_97, ↓fX10_print_98, ↓fX10_print_99, ↓fX10_print_102, ↓fX10_print_105, ↓fX10_print_108, ↓fX10_print_109, ↓fX10_print_112, e12, e16, h6, and_self, true_and, and_true, false_and, and_false, not_true_eq_false, not_false_eq_true, or_self, true_or, or_true, false_or, or_false, ite_not, Decidable.not_not, decide_eq_true_eq, Bool.not_true, Bool.not_false, Bool.false_eq_true, Bool.not_eq_true, n10, n20, n21, n30, n31, n32, n40, n41, n42, n43, ↓reduceIte]
theorem pwZ_pm (hW : WF σ) : pwZ σ = pmL (nAS σ) (reZ σ) (szS σ) 600 1 := by
  have hz := szS_b hW
  exact pw_pm _ _ _ (fun p h1 h2 => (reZ_sp hW ⟨h1, h2⟩).1) 600 600 600 1 0 (by omega) (by omega) (by omega) (by omega) (by omega)
/-- what a call that writes the text may change -/
def ouM (G G' : Nat → Nat → Int) (m : Nat) : Prop := (∀ x, x ≠ m → x ≠ m + 7 → x ≠ m + 10 → G' x = G x) ∧ ∀ j, j ≠ 0 → j ≠ 1 → j ≠ 12 → j ≠ 16 → G' m j = G m j
/-- the text that was written last: its bytes -/
def OUT (G : Nat → Nat → Int) (m : Nat) (ys : List Int) : Prop := G m 16 = ys.length ∧ (ys.length : Int) ≤ 3600 ∧ ∀ j, j < ys.length → G (m + 10) j = ys.getD j 0
end BM
section BM1
variable {E : AE} {G G1 G2 G' L : Nat → Nat → Int} {r : Nat → Nat → Option Nat} {h : AH} {Q : AH → Value → Prop} {m M n cl : Nat} {σ : Nat → Nat → Int} {P : Int → Bool} {s o y x w i p v lo hi t b d e c f g k : Int} {ln : Nat → Nat} {lv : Nat → Nat → Int}
theorem z_print2 (hM : MD E r G m n σ) (hs : I32 s) (c : ¬ (0 ≤ s ∧ s < n)) : RK MX10_print 0 [.ref m, .int (zi s), jk, jk] [] (0, 0) (E, zg G, zk L, r) Q = Q (E, zg (iG G m 2), zk L, r) (.int (zi (-1))) := by
  have hm := hM.1
  have m0 := hm.1
  have eS := fun Q => m_isS0 (L := L) (Q := Q) hM hs c
  simp (disch := first | assumption | exact c2_int _ | exact c2_ref _ | exact c2_jk | exact c2_null | omega | exact bI_r _ | exact bI_01 _) only [↓fX10_print_0, ↓fX10_print_1, ↓fX10_print_2, ↓fX10_print_3, ↓fX10_print_6, ↓fX10_print_9, ↓fX10_print_10, ↓fX10_print_13, ↓fX10_print_14, ↓fX10_print_17, ↓fX10_print_20, ↓fX10_print_21, ↓fX10_print_22, ↓fX10_print_23, ↓fX10_print_24, ↓fX10_print_27, ↓fX10_print_28, ↓fX10_print_29, ↓fX10_print_32, ↓fX10_print_33, ↓fX10_print_34, ↓fX10_print_35, ↓fX10_print_36, ↓fX10_print_39, ↓fX10_print_42, ↓fX10_print_43, ↓fX10_print_44, ↓fX10_print_47, ↓fX10_print_48, ↓fX10_print_50, ↓fX10_print_53, ↓fX10_print_54, ↓fX10_print_55, ↓fX10_print_56, ↓fX10_print_57, ↓fX10_print_60, ↓fX10_print_63, ↓fX10_print_64, ↓fX10_print_65, ↓fX10_print_66, ↓fX10_print_69, ↓fX10_print_70, ↓fX10_print_71, ↓fX10_print_72, ↓fX10_print_75, ↓fX10_print_76, ↓fX10_print_78, ↓fX10_print_81, ↓fX10_print_82, ↓fX10_print_83, ↓fX10_print_84, ↓fX10_print_85, ↓fX10_print_86, ↓fX10_print_87, ↓fX10_print_88, ↓fX10_print_89, ↓fX10_print_92, ↓fX10_print_95, ↓fX10_print_96, ↓fX10_print_97, ↓fX10_print_98, ↓fX10_print_99, ↓fX10_print_102, ↓fX10_print_105, ↓fX10_print_108, ↓fX10_print_109, ↓fX10_print_112, ↓eS, ↓m_isN, and_self, true_and, and_true, false_and, and_false, not_true_eq_false, not_false_eq_true, or_self, true_or, or_true, false_or, or_false, ite_not, Decidable.not_not, decide_eq_true_eq, Bool.not_true, Bool.not_false, Bool.false_eq_true, Bool.not_eq_true, n10, n20, n21, n30, n31, n32, n40, n41, n42, n43, ↓reduceIte]
theorem z_print (hM : MD E r G m n σ) (c : 0 ≤ s ∧ s < n) : ∃ G', ouM G G' m ∧ G' m 0 = 0 ∧ OUT G' m (pwZ (σ s.toNat)) ∧ ∀ Q, RK MX10_print 0 [.ref m, .int (zi s), jk, jk] [] (0, 0) (E, zg G, zk L, r) Q = Q (E, zg G', zk L, r) (.int (zi ((pwZ (σ s.toNat)).length : Int))) := by
  have hm := hM.1
  have m0 := hm.1
  have h6 := hM.2.1
  obtain ⟨hl, hW⟩ := hM.2.2 s.toNat (by omega)
  rw [Int.toNat_of_nonneg c.1] at hl
  have hz := szS_b hW
  have hs4 : 0 ≤ s ∧ s ≤ 4 := by omega
  have eS := fun Q => m_isS1 (L := L) (Q := Q) hM c
  have hl1 : SL (u2 (iG G m 0) m 16 0) m s (σ s.toNat) := SL_c (SL_i (y := 0) hl) (u2_a _ _ _ _ (by omega))
  have eN := fun Q => m_laysNow (L := L) (Q := Q) hm hs4 hl1 hW
  have hl2 : SL (lyG (u2 (iG G m 0) m 16 0) m (hbS (σ s.toNat)) (σ s.toNat 3).toNat) m s (σ s.toNat) := SL_ly hl1
  have ha2 : LAS (lyG (u2 (iG G m 0) m 16 0) m (hbS (σ s.toNat)) (σ s.toNat 3).toNat) m (σ s.toNat) := lyG_LAP
  have h16 : lyG (u2 (iG G m 0) m 16 0) m (hbS (σ s.toNat)) (σ s.toNat 3).toNat m 16 = 0 := (lyG_j (by decide)).trans (u2_s _ _ _ _)
  have h00 : lyG (u2 (iG G m 0) m 16 0) m (hbS (σ s.toNat)) (σ s.toNat 3).toNat m 0 = 0 := (lyG_j (by decide)).trans ((u2_i _ _ _ _ (by decide)).trans iG_0)
  have fr : ∀ x, x ≠ m → x ≠ m + 7 → lyG (u2 (iG G m 0) m 16 0) m (hbS (σ s.toNat)) (σ s.toNat 3).toNat x = G x := fun x a b => (lyG_q a b).trans ((u2_a _ _ _ _ a).trans (iG_q a))
  have fj : ∀ j, j ≠ 0 → j ≠ 1 → j ≠ 12 → j ≠ 16 → lyG (u2 (iG G m 0) m 16 0) m (hbS (σ s.toNat)) (σ s.toNat 3).toNat m j = G m j := fun j a b d e => (lyG_j d).trans ((u2_i _ _ _ _ e).trans (iG_j a b))
  generalize lyG (u2 (iG G m 0) m 16 0) m (hbS (σ s.toNat)) (σ s.toNat 3).toNat = G2 at eN hl2 ha2 h16 h00 fr fj
  have lp := fun Q => (m_print_loop (L := L) (Q := Q) hm hs4 hl2 hW ha2 h16 600 1 [] jk (by omega) (by omega) (by omega) (by simp))
  have el := (m_print_loop (L := L) (E := E) (r := r) (Q := fun _ _ => True) hm hs4 hl2 hW ha2 h16 600 1 [] jk (by omega) (by omega) (by omega) (by simp)).1
  simp only [List.nil_append, ← pwZ_pm hW, show wrM G2 m [] = G2 from wrL_nil] at lp el
  refine ⟨wrM G2 m (pwZ (σ s.toNat)), ⟨fun x a b d => (wrM_q a d).trans (fr x a b), fun j a b d e => (wrM_j e).trans (fj j a b d e)⟩, (wrM_j (by decide)).trans h00, ⟨by rw [wrM_16, h16, Int.zero_add], by omega, fun j hj => ?_⟩, fun Q => ?_⟩
  · show (if m + 10 = m ∧ j = 16 then _ else if m + 10 = m + 10 ∧ G2 m 16 ≤ j ∧ (j : Int) < G2 m 16 + (pwZ (σ s.toNat)).length ∧ j < 4000 then (pwZ (σ s.toNat)).getD (j - (G2 m 16).toNat) 0 else G2 (m + 10) j) = _
    rw [if_neg (by omega), if_pos ⟨rfl, by omega, by omega, by omega⟩, h16]
    rfl
  · have lp2 := fun Q => (lp Q).2
    simp (disch := first | assumption | exact c2_int _ | exact c2_ref _ | exact c2_jk | exact c2_null | omega | exact bI_r _ | exact bI_01 _) only [↓fX10_print_0, ↓fX10_print_1, ↓fX10_print_2, ↓fX10_print_3, ↓fX10_print_6, ↓fX10_print_9, ↓fX10_print_10, ↓fX10_print_13, ↓fX10_print_14, ↓fX10_print_17, ↓fX10_print_20, ↓fX10_print_21, ↓fX10_print_22, ↓fX10_print_23, ↓fX10_print_24, ↓fX10_print_27, ↓fX10_print_28, ↓fX10_print_29, ↓fX10_print_32, ↓fX10_print_33, ↓fX10_print_35, ↓fX10_print_36, ↓fX10_print_39, ↓fX10_print_42, ↓fX10_print_43, ↓fX10_print_44, ↓fX10_print_47, ↓fX10_print_48, ↓fX10_print_50, ↓fX10_print_53, ↓fX10_print_54, ↓fX10_print_55, ↓fX10_print_56, ↓fX10_print_57, ↓fX10_print_60, ↓fX10_print_63, ↓fX10_print_64, ↓fX10_print_65, ↓fX10_print_66, ↓fX10_print_69, ↓fX10_print_70, ↓fX10_print_71, ↓fX10_print_72, ↓fX10_print_75, ↓fX10_print_76, ↓fX10_print_78, ↓fX10_print_81, ↓fX10_print_82, ↓fX10_print_83, ↓fX10_print_84, ↓fX10_print_85, ↓fX10_print_86, ↓fX10_print_87, ↓fX10_print_88, ↓fX10_print_89, ↓fX10_print_92, ↓fX10_print_95, ↓fX10_print_96, ↓fX10_print_97, ↓fX10_print_98, ↓fX10_print_99, ↓fX10_print_102, ↓fX10_print_105, ↓fX10_print_108, ↓fX10_print_109, ↓fX10_print_112, ↓eS, ↓m_is0, ↓eN, ↓lp2, and_self, true_and, and_true, false_and, and_false, not_true_eq_false, not_false_eq_true, or_self, true_or, or_true, false_or, or_false, ite_not, Decidable.not_not, decide_eq_true_eq, Bool.not_true, Bool.not_false, Bool.false_eq_true, Bool.not_eq_true, n10, n20, n21, n30, n31, n32, n40, n41, n42, n43, ↓reduceIte]
theorem y_out (hm : shM E r m) {ys : List Int} (hO : OUT G m ys) (hx : I32 x) (hy : ∀ j, j < ys.length → 0 ≤ ys.getD j 0) : ∃ G', lkM G G' m ∧ G' m 0 = (if x < 0 then 1 else if x < ys.length then 0 else 5) ∧ ∀ Q, RK MX10_out 0 [.ref m, .int (zi x)] [] (0, 0) (E, zg G, zk L, r) Q = Q (E, zg G', zk L, r) (.int (zi (if x < 0 then -1 else if x < ys.length then ys.getD x.toNat 0 else -1))) := by
  have m0 := hm.1
  obtain ⟨ka10, la10, ra10⟩ := hm.2.2.2.2.2.2.2.2.2.2.1
  obtain ⟨o1, o2, o3⟩ := hO
  by_cases c1 : x < 0
  · rw [if_pos c1, if_pos c1]
    refine ⟨iG G m 1, lkM_i, iG_0, fun Q => ?_⟩
    simp (disch := first | assumption | exact c2_int _ | exact c2_ref _ | exact c2_jk | exact c2_null | omega | exact bI_r _ | exact bI_01 _) only [↓fX10_out_0, ↓fX10_out_1, ↓fX10_out_2, ↓fX10_out_5, ↓fX10_out_6, ↓fX10_out_9, ↓fX10_out_10, ↓fX10_out_11, ↓fX10_out_14, ↓fX10_out_17, ↓fX10_out_18, ↓fX10_out_21, ↓fX10_out_22, ↓fX10_out_25, ↓fX10_out_28, ↓fX10_out_29, ↓fX10_out_32, ↓fX10_out_33, ↓fX10_out_34, ↓fX10_out_37, ↓fX10_out_38, ↓m_isN, c1, and_self, true_and, and_true, false_and, and_false, not_true_eq_false, not_false_eq_true, or_self, true_or, or_true, false_or, or_false, ite_not, Decidable.not_not, decide_eq_true_eq, Bool.not_true, Bool.not_false, Bool.false_eq_true, Bool.not_eq_true, n10, n20, n21, n30, n31, n32, n40, n41, n42, n43, ↓reduceIte]
  · rw [if_neg c1, if_neg c1]
    by_cases c2 : x < ys.length
    · rw [if_pos c2, if_pos c2]
      have e1 : iG G m 0 (m + 10) x.toNat = ys.getD x.toNat 0 := by
        rw [iG_q (by omega)]
        exact o3 x.toNat (by omega)
      refine ⟨iG G m 0, lkM_i, iG_0, fun Q => ?_⟩
      simp (disch := first | assumption | exact c2_int _ | exact c2_ref _ | exact c2_jk | exact c2_null | omega | exact bI_r _ | exact bI_01 _) only [↓fX10_out_0, ↓fX10_out_1, ↓fX10_out_2, ↓fX10_out_5, ↓fX10_out_6, ↓fX10_out_9, ↓fX10_out_10, ↓fX10_out_11, ↓fX10_out_14, ↓fX10_out_17, ↓fX10_out_18, ↓fX10_out_21, ↓fX10_out_22, ↓fX10_out_25, ↓fX10_out_28, ↓fX10_out_29, ↓fX10_out_32, ↓fX10_out_33, ↓fX10_out_34, ↓fX10_out_37, ↓fX10_out_38, ↓m_is0, c1, o1, c2, e1, and_self, true_and, and_true, false_and, and_false, not_true_eq_false, not_false_eq_true, or_self, true_or, or_true, false_or, or_false, ite_not, Decidable.not_not, decide_eq_true_eq, Bool.not_true, Bool.not_false, Bool.false_eq_true, Bool.not_eq_true, n10, n20, n21, n30, n31, n32, n40, n41, n42, n43, ↓reduceIte]
    · rw [if_neg c2, if_neg c2]
      refine ⟨iG G m 5, lkM_i, iG_0, fun Q => ?_⟩
      simp (disch := first | assumption | exact c2_int _ | exact c2_ref _ | exact c2_jk | exact c2_null | omega | exact bI_r _ | exact bI_01 _) only [↓fX10_out_0, ↓fX10_out_1, ↓fX10_out_2, ↓fX10_out_5, ↓fX10_out_6, ↓fX10_out_9, ↓fX10_out_10, ↓fX10_out_11, ↓fX10_out_14, ↓fX10_out_17, ↓fX10_out_18, ↓fX10_out_21, ↓fX10_out_22, ↓fX10_out_25, ↓fX10_out_28, ↓fX10_out_29, ↓fX10_out_32, ↓fX10_out_33, ↓fX10_out_34, ↓fX10_out_37, ↓fX10_out_38, ↓m_isN, c1, o1, c2, and_self, true_and, and_true, false_and, and_false, not_true_eq_false, not_false_eq_true, or_self, true_or, or_true, false_or, or_false, ite_not, Decidable.not_not, decide_eq_true_eq, Bool.not_true, Bool.not_false, Bool.false_eq_true, Bool.not_eq_true, n10, n20, n21, n30, n31, n32, n40, n41, n42, n43, ↓reduceIte]
end BM1
