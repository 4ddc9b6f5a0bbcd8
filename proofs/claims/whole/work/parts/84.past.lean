/-! What the reference remembers. -/
/-- the pasts kept: how many sieves there were, what they held -/
def PM (G : Nat → Nat → Int) (m a : Nat) (N : Nat → Nat) (Sg : Nat → Nat → Nat → Int) : Prop := (G m 7 = a ∧ a ≤ 8) ∧ ∀ c, c < a → G (m + 4) c = N c ∧ N c ≤ 4 ∧ ∀ s, s < N c → WF (Sg c s) ∧ ∀ k, k < 1824 → G (m + 3) (7296 * c + (1824 * s + k)) = Sg c s k
/-- the lasting things that a call that changes sieves may write -/
def frM (G G' : Nat → Nat → Int) (m : Nat) : Prop := (∀ x, x ≠ m → x ≠ m + 1 → x ≠ m + 3 → x ≠ m + 4 → x ≠ m + 7 → x ≠ m + 8 → x ≠ m + 9 → G' x = G x) ∧ ∀ j, j ≠ 0 → j ≠ 1 → j ≠ 6 → j ≠ 7 → j ≠ 12 → G' m j = G m j
def shG1 (G : Nat → Nat → Int) (a d n : Nat) : Nat → Nat → Int := fun x j => if x = a ∧ j < n then G a (j + d) else G x j
def cpG1 (G : Nat → Nat → Int) (a a2 b b2 n : Nat) : Nat → Nat → Int := fun x j => if x = a ∧ b ≤ j ∧ j < b + n then G a2 (b2 + (j - b)) else G x j
section BM
variable {E : AE} {G G1 G2 G' L : Nat → Nat → Int} {r : Nat → Nat → Option Nat} {h : AH} {Q : AH → Value → Prop} {m M n cl ln1 a : Nat} {σ τ : Nat → Nat → Int} {N : Nat → Nat} {Sg : Nat → Nat → Nat → Int} {s o y x w i p v lo hi t b d e c f g k : Int} {lv1 : Nat → Int} {ln : Nat → Nat} {lv : Nat → Nat → Int}
theorem frM.rf (G : Nat → Nat → Int) (m : Nat) : frM G G m := ⟨fun _ _ _ _ _ _ _ _ => rfl, fun _ _ _ _ _ _ => rfl⟩
theorem frM.trans (h1 : frM G G1 m) (h2 : frM G1 G2 m) : frM G G2 m := ⟨fun x a b c d e f g => (h2.1 x a b c d e f g).trans (h1.1 x a b c d e f g), fun j a b c d e => (h2.2 j a b c d e).trans (h1.2 j a b c d e)⟩
theorem frM_lk (h : lkM G G1 m) : frM G G1 m := ⟨fun x a b c d e f g => h.1 x a b e f g, fun j a b c d e => h.2.1 j a b e⟩
theorem frM_KW (h : KW G G1 m s) : frM G G1 m := ⟨fun x a b c d e f g => h.1 x a b e, fun j a b c d e => h.2.1 j e⟩
theorem frM_u {j : Nat} (hj : j = 0 ∨ j = 1 ∨ j = 6 ∨ j = 7 ∨ j = 12) : frM G (u2 G m j v) m := ⟨fun x a b c d e f g => u2_a _ _ _ _ a, fun i a b c d e => u2_i _ _ _ _ (by omega)⟩
theorem frM_a {q : Nat} (hq : q = m + 1 ∨ q = m + 3 ∨ q = m + 4) (h : ∀ x, x ≠ q → G1 x = G x) : frM G G1 m := ⟨fun x a b c d e f g => h x (by omega), fun j a b c d e => by rw [h m (by omega)]⟩
theorem MD_lk (hM : MD E r G m n σ) (h : lkM G G1 m) : MD E r G1 m n σ := ⟨hM.1, by rw [h.2.1 6 (by decide) (by decide) (by decide)]; exact hM.2.1, fun s hs => ⟨fun k hk => by
  have h6 := hM.2.1
  rw [h.2.2 _ (by omega)]
  exact (hM.2.2 s hs).1 k hk, (hM.2.2 s hs).2⟩⟩
theorem PM_c (hP : PM G m a N Sg) (h3 : G1 (m + 3) = G (m + 3)) (h4 : G1 (m + 4) = G (m + 4)) (h7 : G1 m 7 = G m 7) : PM G1 m a N Sg := ⟨by rw [h7]; exact hP.1, fun c hc => by rw [h3, h4]; exact hP.2 c hc⟩
theorem PM_lk (hP : PM G m a N Sg) (h : lkM G G1 m) : PM G1 m a N Sg := PM_c hP (h.1 _ (by omega) (by omega) (by omega) (by omega) (by omega)) (h.1 _ (by omega) (by omega) (by omega) (by omega) (by omega)) (h.2.1 7 (by decide) (by decide) (by decide))
theorem PM_KW (hP : PM G m a N Sg) (h : KW G G1 m s) : PM G1 m a N Sg := PM_c hP (h.1 _ (by omega) (by omega) (by omega)) (h.1 _ (by omega) (by omega) (by omega)) (h.2.1 7 (by decide))
theorem shG1_q {q d' n' x : Nat} (h : x ≠ q) : shG1 G q d' n' x = G x := by
  funext j
  exact if_neg fun z => h z.1
theorem cpG1_q {q q2 b1 b2 n' x : Nat} (h : x ≠ q) : cpG1 G q q2 b1 b2 n' x = G x := by
  funext j
  exact if_neg fun z => h z.1
theorem shG1_i {q d' n' j : Nat} : shG1 G q d' n' q j = if j < n' then G q (j + d') else G q j := by
  unfold shG1
  simp only [true_and]
theorem cpG1_i {q q2 b1 b2 n' j : Nat} : cpG1 G q q2 b1 b2 n' q j = if b1 ≤ j ∧ j < b1 + n' then G q2 (b2 + (j - b1)) else G q j := by
  unfold cpG1
  simp only [true_and]
theorem sh_step {q d' n' : Nat} : u2 (shG1 G q d' n') q n' (G q (n' + d')) = shG1 G q d' (n' + 1) := by
  funext x j
  show (if x = q ∧ j = n' then G q (n' + d') else if x = q ∧ j < n' then G q (j + d') else G x j) = if x = q ∧ j < n' + 1 then G q (j + d') else G x j
  by_cases c : x = q ∧ j = n'
  · rw [if_pos c, if_pos (by omega), c.2]
  · rw [if_neg c]
    by_cases c2 : x = q ∧ j < n'
    · rw [if_pos c2, if_pos (by omega)]
    · rw [if_neg c2, if_neg (by omega)]
theorem cp_step {q q2 b1 b2 n' : Nat} : u2 (cpG1 G q q2 b1 b2 n') q (b1 + n') (G q2 (b2 + n')) = cpG1 G q q2 b1 b2 (n' + 1) := by
  funext x j
  show (if x = q ∧ j = b1 + n' then G q2 (b2 + n') else if x = q ∧ b1 ≤ j ∧ j < b1 + n' then G q2 (b2 + (j - b1)) else G x j) = if x = q ∧ b1 ≤ j ∧ j < b1 + (n' + 1) then G q2 (b2 + (j - b1)) else G x j
  by_cases c : x = q ∧ j = b1 + n'
  · rw [if_pos c, if_pos (by omega), show j - b1 = n' by omega]
  · rw [if_neg c]
    by_cases c2 : x = q ∧ b1 ≤ j ∧ j < b1 + n'
    · rw [if_pos c2, if_pos (by omega)]
    · rw [if_neg c2, if_neg (by omega)]
theorem sh_0 {q d' : Nat} : shG1 G q d' 0 = G := by
  funext x j
  exact if_neg fun z => by omega
theorem cp_0 {q q2 b1 b2 : Nat} : cpG1 G q q2 b1 b2 0 = G := by
  funext x j
  exact if_neg fun z => by omega
theorem rem_l1 (hm : shM E r m) {K D : Nat} (hK : K = 51072) (hD : D = 7296) : ∀ (k n' : Nat), K - n' ≤ k → n' ≤ K → RK MX10_remembers 11 [.ref m, .int (zi (n' : Int))] [] (0, 0) (E, zg (shG1 G (m + 3) D n'), zk L, r) Q = RK MX10_remembers 39 [.ref m, .int (zi (K : Int))] [] (0, 0) (E, zg (shG1 G (m + 3) D K), zk L, r) Q := by
  have m0 := hm.1
  obtain ⟨ka3, la3, ra3⟩ := hm.2.2.2.1
  have stop : RK MX10_remembers 11 [.ref m, .int (zi (K : Int))] [] (0, 0) (E, zg (shG1 G (m + 3) D K), zk L, r) Q = RK MX10_remembers 39 [.ref m, .int (zi (K : Int))] [] (0, 0) (E, zg (shG1 G (m + 3) D K), zk L, r) Q := by
    have h6 : ¬ (K : Int) < 51072 := by omega
    simp (disch := first | assumption | exact c2_int _ | exact c2_ref _ | exact c2_jk | exact c2_null | omega | exact bI_r _ | exact bI_01 _) only [↓fX10_remembers_0, ↓fX10_remembers_1, ↓fX10_remembers_4, ↓fX10_remembers_6, ↓fX10_remembers_9, ↓fX10_remembers_10, ↓fX10_remembers_11, ↓fX10_remembers_12, ↓fX10_remembers_14, ↓fX10_remembers_17, ↓fX10_remembers_18, ↓fX10_remembers_21, ↓fX10_remembers_22, ↓fX10_remembers_23, ↓fX10_remembers_26, ↓fX10_remembers_27, ↓fX10_remembers_30, ↓fX10_remembers_31, ↓fX10_remembers_32, ↓fX10_remembers_33, ↓fX10_remembers_36, ↓fX10_remembers_40, ↓fX10_remembers_41, ↓fX10_remembers_42, ↓fX10_remembers_44, ↓fX10_remembers_47, ↓fX10_remembers_48, ↓fX10_remembers_51, ↓fX10_remembers_52, ↓fX10_remembers_53, ↓fX10_remembers_56, ↓fX10_remembers_57, ↓fX10_remembers_58, ↓fX10_remembers_59, ↓fX10_remembers_60, ↓fX10_remembers_61, ↓fX10_remembers_64, ↓fX10_remembers_67, ↓fX10_remembers_68, ↓fX10_remembers_69, ↓fX10_remembers_72, ↓fX10_remembers_73, ↓fX10_remembers_74, ↓fX10_remembers_77, ↓fX10_remembers_78, ↓fX10_remembers_79, ↓fX10_remembers_80, ↓fX10_remembers_83, ↓fX10_remembers_86, ↓fX10_remembers_87, ↓fX10_remembers_90, ↓fX10_remembers_93, ↓fX10_remembers_94, ↓fX10_remembers_97, ↓fX10_remembers_98, ↓fX10_remembers_99, ↓fX10_remembers_100, ↓fX10_remembers_101, ↓fX10_remembers_104, ↓fX10_remembers_105, ↓fX10_remembers_106, ↓fX10_remembers_107, ↓fX10_remembers_110, ↓fX10_remembers_113, ↓fX10_remembers_114, ↓fX10_remembers_117, ↓fX10_remembers_118, ↓fX10_remembers_121, ↓fX10_remembers_122, ↓fX10_remembers_125, ↓fX10_remembers_126, ↓fX10_remembers_127, ↓fX10_remembers_128, ↓fX10_remembers_131, ↓fX10_remembers_132, ↓fX10_remembers_133, ↓fX10_remembers_136, h6, and_self, true_and, and_true, false_and, and_false, not_true_eq_false, not_false_eq_true, or_self, true_or, or_true, false_or, or_false, ite_not, Decidable.not_not, decide_eq_true_eq, Bool.not_true, Bool.not_false, Bool.false_eq_true, Bool.not_eq_true, n10, n20, n21, n30, n31, n32, n40, n41, n42, n43, ↓reduceIte]
  intro k
  induction k with
  | zero =>
    intro n' h1 h2
    have en : n' = K := by omega
    rw [en]
    exact stop
  | succ k ih =>
    intro n' h1 h2
    by_cases h6 : (n' : Int) < 51072
    · have er : shG1 G (m + 3) D n' (m + 3) ((n' : Int) + 7296).toNat = G (m + 3) (n' + D) := by
        rw [show ((n' : Int) + 7296).toNat = n' + D by omega, shG1_i, if_neg (by omega)]
      have ew : u2 (shG1 G (m + 3) D n') (m + 3) (n' : Int).toNat (G (m + 3) (n' + D)) = shG1 G (m + 3) D (n' + 1) := by
        rw [Int.toNat_natCast]
        exact sh_step
      have ih' := ih (n' + 1) (by omega) (by omega)
      rw [← ew, Int.natCast_add] at ih'
      have ih'' : RK MX10_remembers 11 [.ref m, .int (zi ((n' : Int) + 1))] [] (0, 0) _ Q = _ := ih'
      clear h1 h2 hK hD
      have hn : (n' : Int) < 51072 := h6
      rw [fX10_remembers_11]
      simp (disch := first | assumption | exact c2_int _ | exact c2_ref _ | exact c2_jk | exact c2_null | omega | exact bI_r _ | exact bI_01 _) only [↓fX10_remembers_0, ↓fX10_remembers_1, ↓fX10_remembers_4, ↓fX10_remembers_6, ↓fX10_remembers_9, ↓fX10_remembers_10, ↓fX10_remembers_12, ↓fX10_remembers_14, ↓fX10_remembers_17, ↓fX10_remembers_18, ↓fX10_remembers_21, ↓fX10_remembers_22, ↓fX10_remembers_23, ↓fX10_remembers_26, ↓fX10_remembers_27, ↓fX10_remembers_30, ↓fX10_remembers_31, ↓fX10_remembers_32, ↓fX10_remembers_33, ↓fX10_remembers_36, ↓fX10_remembers_40, ↓fX10_remembers_41, ↓fX10_remembers_42, ↓fX10_remembers_44, ↓fX10_remembers_47, ↓fX10_remembers_48, ↓fX10_remembers_51, ↓fX10_remembers_52, ↓fX10_remembers_53, ↓fX10_remembers_56, ↓fX10_remembers_57, ↓fX10_remembers_58, ↓fX10_remembers_59, ↓fX10_remembers_60, ↓fX10_remembers_61, ↓fX10_remembers_64, ↓fX10_remembers_67, ↓fX10_remembers_68, ↓fX10_remembers_69, ↓fX10_remembers_72, ↓fX10_remembers_73, ↓fX10_remembers_74, ↓fX10_remembers_77, ↓fX10_remembers_78, ↓fX10_remembers_79, ↓fX10_remembers_80, ↓fX10_remembers_83, ↓fX10_remembers_86, ↓fX10_remembers_87, ↓fX10_remembers_90, ↓fX10_remembers_93, ↓fX10_remembers_94, ↓fX10_remembers_97, ↓fX10_remembers_98, ↓fX10_remembers_99, ↓fX10_remembers_100, ↓fX10_remembers_101, ↓fX10_remembers_104, ↓fX10_remembers_105, ↓fX10_remembers_106, ↓fX10_remembers_107, ↓fX10_remembers_110, ↓fX10_remembers_113, ↓fX10_remembers_114, ↓fX10_remembers_117, ↓fX10_remembers_118, ↓fX10_remembers_121, ↓fX10_remembers_122, ↓fX10_remembers_125, ↓fX10_remembers_126, ↓fX10_remembers_127, ↓fX10_remembers_128, ↓fX10_remembers_131, ↓fX10_remembers_132, ↓fX10_remembers_133, ↓fX10_remembers_136, er, h6, and_self, true_and, and_true, false_and, and_false, not_true_eq_false, not_false_eq_true, or_self, true_or, or_true, false_or, or_false, ite_not, Decidable.not_not, decide_eq_true_eq, Bool.not_true, Bool.not_false, Bool.false_eq_true, Bool.not_eq_true, n10, n20, n21, n30, n31, n32, n40, n41, n42, n43, ↓reduceIte]
      exact ih''
    · have en : n' = K := by omega
      rw [en]
      exact stop
theorem rem_l2 (hm : shM E r m) {K : Nat} (hK : K = 7) : ∀ (k n' : Nat), K - n' ≤ k → n' ≤ K → RK MX10_remembers 41 [.ref m, .int (zi (n' : Int))] [] (0, 0) (E, zg (shG1 G (m + 4) 1 n'), zk L, r) Q = RK MX10_remembers 67 [.ref m, .int (zi (K : Int))] [] (0, 0) (E, zg (shG1 G (m + 4) 1 K), zk L, r) Q := by
  have m0 := hm.1
  obtain ⟨ka4, la4, ra4⟩ := hm.2.2.2.2.1
  have stop : RK MX10_remembers 41 [.ref m, .int (zi (K : Int))] [] (0, 0) (E, zg (shG1 G (m + 4) 1 K), zk L, r) Q = RK MX10_remembers 67 [.ref m, .int (zi (K : Int))] [] (0, 0) (E, zg (shG1 G (m + 4) 1 K), zk L, r) Q := by
    have h6 : ¬ (K : Int) < 7 := by omega
    simp (disch := first | assumption | exact c2_int _ | exact c2_ref _ | exact c2_jk | exact c2_null | omega | exact bI_r _ | exact bI_01 _) only [↓fX10_remembers_0, ↓fX10_remembers_1, ↓fX10_remembers_4, ↓fX10_remembers_6, ↓fX10_remembers_9, ↓fX10_remembers_10, ↓fX10_remembers_11, ↓fX10_remembers_12, ↓fX10_remembers_14, ↓fX10_remembers_17, ↓fX10_remembers_18, ↓fX10_remembers_21, ↓fX10_remembers_22, ↓fX10_remembers_23, ↓fX10_remembers_26, ↓fX10_remembers_27, ↓fX10_remembers_30, ↓fX10_remembers_31, ↓fX10_remembers_32, ↓fX10_remembers_33, ↓fX10_remembers_36, ↓fX10_remembers_39, ↓fX10_remembers_40, ↓fX10_remembers_41, ↓fX10_remembers_42, ↓fX10_remembers_44, ↓fX10_remembers_47, ↓fX10_remembers_48, ↓fX10_remembers_51, ↓fX10_remembers_52, ↓fX10_remembers_53, ↓fX10_remembers_56, ↓fX10_remembers_57, ↓fX10_remembers_58, ↓fX10_remembers_59, ↓fX10_remembers_60, ↓fX10_remembers_61, ↓fX10_remembers_64, ↓fX10_remembers_68, ↓fX10_remembers_69, ↓fX10_remembers_72, ↓fX10_remembers_73, ↓fX10_remembers_74, ↓fX10_remembers_77, ↓fX10_remembers_78, ↓fX10_remembers_79, ↓fX10_remembers_80, ↓fX10_remembers_83, ↓fX10_remembers_86, ↓fX10_remembers_87, ↓fX10_remembers_90, ↓fX10_remembers_93, ↓fX10_remembers_94, ↓fX10_remembers_97, ↓fX10_remembers_98, ↓fX10_remembers_99, ↓fX10_remembers_100, ↓fX10_remembers_101, ↓fX10_remembers_104, ↓fX10_remembers_105, ↓fX10_remembers_106, ↓fX10_remembers_107, ↓fX10_remembers_110, ↓fX10_remembers_113, ↓fX10_remembers_114, ↓fX10_remembers_117, ↓fX10_remembers_118, ↓fX10_remembers_121, ↓fX10_remembers_122, ↓fX10_remembers_125, ↓fX10_remembers_126, ↓fX10_remembers_127, ↓fX10_remembers_128, ↓fX10_remembers_131, ↓fX10_remembers_132, ↓fX10_remembers_133, ↓fX10_remembers_136, h6, and_self, true_and, and_true, false_and, and_false, not_true_eq_false, not_false_eq_true, or_self, true_or, or_true, false_or, or_false, ite_not, Decidable.not_not, decide_eq_true_eq, Bool.not_true, Bool.not_false, Bool.false_eq_true, Bool.not_eq_true, n10, n20, n21, n30, n31, n32, n40, n41, n42, n43, ↓reduceIte]
  intro k
  induction k with
  | zero =>
    intro n' h1 h2
    have en : n' = K := by omega
    rw [en]
    exact stop
  | succ k ih =>
    intro n' h1 h2
    by_cases h6 : (n' : Int) < 7
    · have er : shG1 G (m + 4) 1 n' (m + 4) ((n' : Int) + 1).toNat = G (m + 4) (n' + 1) := by
        rw [show ((n' : Int) + 1).toNat = n' + 1 by omega, shG1_i, if_neg (by omega)]
      have ew : u2 (shG1 G (m + 4) 1 n') (m + 4) (n' : Int).toNat (G (m + 4) (n' + 1)) = shG1 G (m + 4) 1 (n' + 1) := by
        rw [Int.toNat_natCast]
        exact sh_step
      have ih' := ih (n' + 1) (by omega) (by omega)
      rw [← ew, Int.natCast_add] at ih'
      have ih'' : RK MX10_remembers 41 [.ref m, .int (zi ((n' : Int) + 1))] [] (0, 0) _ Q = _ := ih'
      rw [fX10_remembers_41]
      simp (disch := first | assumption | exact c2_int _ | exact c2_ref _ | exact c2_jk | exact c2_null | omega | exact bI_r _ | exact bI_01 _) only [↓fX10_remembers_0, ↓fX10_remembers_1, ↓fX10_remembers_4, ↓fX10_remembers_6, ↓fX10_remembers_9, ↓fX10_remembers_10, ↓fX10_remembers_11, ↓fX10_remembers_12, ↓fX10_remembers_14, ↓fX10_remembers_17, ↓fX10_remembers_18, ↓fX10_remembers_21, ↓fX10_remembers_22, ↓fX10_remembers_23, ↓fX10_remembers_26, ↓fX10_remembers_27, ↓fX10_remembers_30, ↓fX10_remembers_31, ↓fX10_remembers_32, ↓fX10_remembers_33, ↓fX10_remembers_36, ↓fX10_remembers_39, ↓fX10_remembers_40, ↓fX10_remembers_42, ↓fX10_remembers_44, ↓fX10_remembers_47, ↓fX10_remembers_48, ↓fX10_remembers_51, ↓fX10_remembers_52, ↓fX10_remembers_53, ↓fX10_remembers_56, ↓fX10_remembers_57, ↓fX10_remembers_58, ↓fX10_remembers_59, ↓fX10_remembers_60, ↓fX10_remembers_61, ↓fX10_remembers_64, ↓fX10_remembers_68, ↓fX10_remembers_69, ↓fX10_remembers_72, ↓fX10_remembers_73, ↓fX10_remembers_74, ↓fX10_remembers_77, ↓fX10_remembers_78, ↓fX10_remembers_79, ↓fX10_remembers_80, ↓fX10_remembers_83, ↓fX10_remembers_86, ↓fX10_remembers_87, ↓fX10_remembers_90, ↓fX10_remembers_93, ↓fX10_remembers_94, ↓fX10_remembers_97, ↓fX10_remembers_98, ↓fX10_remembers_99, ↓fX10_remembers_100, ↓fX10_remembers_101, ↓fX10_remembers_104, ↓fX10_remembers_105, ↓fX10_remembers_106, ↓fX10_remembers_107, ↓fX10_remembers_110, ↓fX10_remembers_113, ↓fX10_remembers_114, ↓fX10_remembers_117, ↓fX10_remembers_118, ↓fX10_remembers_121, ↓fX10_remembers_122, ↓fX10_remembers_125, ↓fX10_remembers_126, ↓fX10_remembers_127, ↓fX10_remembers_128, ↓fX10_remembers_131, ↓fX10_remembers_132, ↓fX10_remembers_133, ↓fX10_remembers_136, er, h6, and_self, true_and, and_true, false_and, and_false, not_true_eq_false, not_false_eq_true, or_self, true_or, or_true, false_or, or_false, ite_not, Decidable.not_not, decide_eq_true_eq, Bool.not_true, Bool.not_false, Bool.false_eq_true, Bool.not_eq_true, n10, n20, n21, n30, n31, n32, n40, n41, n42, n43, ↓reduceIte]
      exact ih''
    · have en : n' = K := by omega
      rw [en]
      exact stop
theorem rem_l3 (hm : shM E r m) {b1 K B : Nat} (hK : K = 7296) (hB : B = K * b1) (h7 : G m 7 = b1) (hb : b1 ≤ 7) : ∀ (k n' : Nat), K - n' ≤ k → n' ≤ K → RK MX10_remembers 79 [.ref m, .int (zi (n' : Int))] [] (0, 0) (E, zg (cpG1 G (m + 3) (m + 1) B 0 n'), zk L, r) Q = RK MX10_remembers 113 [.ref m, .int (zi (K : Int))] [] (0, 0) (E, zg (cpG1 G (m + 3) (m + 1) B 0 K), zk L, r) Q := by
  have m0 := hm.1
  obtain ⟨ka1, la1, ra1⟩ := hm.2.1
  obtain ⟨ka3, la3, ra3⟩ := hm.2.2.2.1
  have hB' : (B : Int) = 7296 * (b1 : Int) := by rw [hB, hK]; omega
  have stop : RK MX10_remembers 79 [.ref m, .int (zi (K : Int))] [] (0, 0) (E, zg (cpG1 G (m + 3) (m + 1) B 0 K), zk L, r) Q = RK MX10_remembers 113 [.ref m, .int (zi (K : Int))] [] (0, 0) (E, zg (cpG1 G (m + 3) (m + 1) B 0 K), zk L, r) Q := by
    have h6 : ¬ (K : Int) < 7296 := by omega
    simp (disch := first | assumption | exact c2_int _ | exact c2_ref _ | exact c2_jk | exact c2_null | omega | exact bI_r _ | exact bI_01 _) only [↓fX10_remembers_0, ↓fX10_remembers_1, ↓fX10_remembers_4, ↓fX10_remembers_6, ↓fX10_remembers_9, ↓fX10_remembers_10, ↓fX10_remembers_11, ↓fX10_remembers_12, ↓fX10_remembers_14, ↓fX10_remembers_17, ↓fX10_remembers_18, ↓fX10_remembers_21, ↓fX10_remembers_22, ↓fX10_remembers_23, ↓fX10_remembers_26, ↓fX10_remembers_27, ↓fX10_remembers_30, ↓fX10_remembers_31, ↓fX10_remembers_32, ↓fX10_remembers_33, ↓fX10_remembers_36, ↓fX10_remembers_39, ↓fX10_remembers_40, ↓fX10_remembers_41, ↓fX10_remembers_42, ↓fX10_remembers_44, ↓fX10_remembers_47, ↓fX10_remembers_48, ↓fX10_remembers_51, ↓fX10_remembers_52, ↓fX10_remembers_53, ↓fX10_remembers_56, ↓fX10_remembers_57, ↓fX10_remembers_58, ↓fX10_remembers_59, ↓fX10_remembers_60, ↓fX10_remembers_61, ↓fX10_remembers_64, ↓fX10_remembers_67, ↓fX10_remembers_68, ↓fX10_remembers_69, ↓fX10_remembers_72, ↓fX10_remembers_73, ↓fX10_remembers_74, ↓fX10_remembers_77, ↓fX10_remembers_78, ↓fX10_remembers_79, ↓fX10_remembers_80, ↓fX10_remembers_83, ↓fX10_remembers_86, ↓fX10_remembers_87, ↓fX10_remembers_90, ↓fX10_remembers_93, ↓fX10_remembers_94, ↓fX10_remembers_97, ↓fX10_remembers_98, ↓fX10_remembers_99, ↓fX10_remembers_100, ↓fX10_remembers_101, ↓fX10_remembers_104, ↓fX10_remembers_105, ↓fX10_remembers_106, ↓fX10_remembers_107, ↓fX10_remembers_110, ↓fX10_remembers_114, ↓fX10_remembers_117, ↓fX10_remembers_118, ↓fX10_remembers_121, ↓fX10_remembers_122, ↓fX10_remembers_125, ↓fX10_remembers_126, ↓fX10_remembers_127, ↓fX10_remembers_128, ↓fX10_remembers_131, ↓fX10_remembers_132, ↓fX10_remembers_133, ↓fX10_remembers_136, h6, and_self, true_and, and_true, false_and, and_false, not_true_eq_false, not_false_eq_true, or_self, true_or, or_true, false_or, or_false, ite_not, Decidable.not_not, decide_eq_true_eq, Bool.not_true, Bool.not_false, Bool.false_eq_true, Bool.not_eq_true, n10, n20, n21, n30, n31, n32, n40, n41, n42, n43, ↓reduceIte]
  intro k
  induction k with
  | zero =>
    intro n' h1 h2
    have en : n' = K := by omega
    rw [en]
    exact stop
  | succ k ih =>
    intro n' h1 h2
    by_cases h6 : (n' : Int) < 7296
    · have e7 : cpG1 G (m + 3) (m + 1) B 0 n' m 7 = b1 := by rw [cpG1_q (by omega), h7]
      have er : cpG1 G (m + 3) (m + 1) B 0 n' (m + 1) (n' : Int).toNat = G (m + 1) (0 + n') := by rw [cpG1_q (by omega), Int.toNat_natCast, Nat.zero_add]
      have ew : u2 (cpG1 G (m + 3) (m + 1) B 0 n') (m + 3) (7296 * (b1 : Int) + (n' : Int)).toNat (G (m + 1) (0 + n')) = cpG1 G (m + 3) (m + 1) B 0 (n' + 1) := by
        rw [show (7296 * (b1 : Int) + (n' : Int)).toNat = B + n' by omega]
        exact cp_step
      have ih' := ih (n' + 1) (by omega) (by omega)
      rw [← ew, Int.natCast_add] at ih'
      have ih'' : RK MX10_remembers 79 [.ref m, .int (zi ((n' : Int) + 1))] [] (0, 0) _ Q = _ := ih'
      clear hB hK
      rw [fX10_remembers_79]
      simp (disch := first | assumption | exact c2_int _ | exact c2_ref _ | exact c2_jk | exact c2_null | omega | exact bI_r _ | exact bI_01 _) only [↓fX10_remembers_0, ↓fX10_remembers_1, ↓fX10_remembers_4, ↓fX10_remembers_6, ↓fX10_remembers_9, ↓fX10_remembers_10, ↓fX10_remembers_11, ↓fX10_remembers_12, ↓fX10_remembers_14, ↓fX10_remembers_17, ↓fX10_remembers_18, ↓fX10_remembers_21, ↓fX10_remembers_22, ↓fX10_remembers_23, ↓fX10_remembers_26, ↓fX10_remembers_27, ↓fX10_remembers_30, ↓fX10_remembers_31, ↓fX10_remembers_32, ↓fX10_remembers_33, ↓fX10_remembers_36, ↓fX10_remembers_39, ↓fX10_remembers_40, ↓fX10_remembers_41, ↓fX10_remembers_42, ↓fX10_remembers_44, ↓fX10_remembers_47, ↓fX10_remembers_48, ↓fX10_remembers_51, ↓fX10_remembers_52, ↓fX10_remembers_53, ↓fX10_remembers_56, ↓fX10_remembers_57, ↓fX10_remembers_58, ↓fX10_remembers_59, ↓fX10_remembers_60, ↓fX10_remembers_61, ↓fX10_remembers_64, ↓fX10_remembers_67, ↓fX10_remembers_68, ↓fX10_remembers_69, ↓fX10_remembers_72, ↓fX10_remembers_73, ↓fX10_remembers_74, ↓fX10_remembers_77, ↓fX10_remembers_78, ↓fX10_remembers_80, ↓fX10_remembers_83, ↓fX10_remembers_86, ↓fX10_remembers_87, ↓fX10_remembers_90, ↓fX10_remembers_93, ↓fX10_remembers_94, ↓fX10_remembers_97, ↓fX10_remembers_98, ↓fX10_remembers_99, ↓fX10_remembers_100, ↓fX10_remembers_101, ↓fX10_remembers_104, ↓fX10_remembers_105, ↓fX10_remembers_106, ↓fX10_remembers_107, ↓fX10_remembers_110, ↓fX10_remembers_114, ↓fX10_remembers_117, ↓fX10_remembers_118, ↓fX10_remembers_121, ↓fX10_remembers_122, ↓fX10_remembers_125, ↓fX10_remembers_126, ↓fX10_remembers_127, ↓fX10_remembers_128, ↓fX10_remembers_131, ↓fX10_remembers_132, ↓fX10_remembers_133, ↓fX10_remembers_136, e7, er, h6, and_self, true_and, and_true, false_and, and_false, not_true_eq_false, not_false_eq_true, or_self, true_or, or_true, false_or, or_false, ite_not, Decidable.not_not, decide_eq_true_eq, Bool.not_true, Bool.not_false, Bool.false_eq_true, Bool.not_eq_true, n10, n20, n21, n30, n31, n32, n40, n41, n42, n43, ↓reduceIte]
      exact ih''
    · have en : n' = K := by omega
      rw [en]
      exact stop
theorem rem_tail (hm : shM E r m) {b1 : Nat} (hM : MD E r G m n σ) (hP : PM G m b1 N Sg) (hb : b1 ≤ 7) : ∃ G2, (∀ x, x ≠ m → x ≠ m + 3 → x ≠ m + 4 → G2 x = G x) ∧ (∀ j, j ≠ 7 → G2 m j = G m j) ∧ PM G2 m (b1 + 1) (fun t => if t = b1 then n else N t) (fun t => if t = b1 then σ else Sg t) ∧ ∀ Q, RK MX10_remembers 77 [.ref m, jk] [] (0, 0) (E, zg G, zk L, r) Q = Q (E, zg G2, zk L, r) .null ∧ ∀ l1, c2 l1 = false → RK MX10_remembers 77 [.ref m, l1] [] (0, 0) (E, zg G, zk L, r) Q = Q (E, zg G2, zk L, r) .null := by
  have m0 := hm.1
  have h6 := hM.2.1
  have h7 : G m 7 = b1 := hP.1.1
  obtain ⟨ka3, la3, ra3⟩ := hm.2.2.2.1
  obtain ⟨ka4, la4, ra4⟩ := hm.2.2.2.2.1
  obtain ⟨K, hK⟩ : ∃ K : Nat, K = 7296 := ⟨_, rfl⟩
  have lp := fun Q => rem_l3 (L := L) (Q := Q) hm hK rfl h7 hb K 0 (by omega) (by omega)
  rw [cp_0] at lp
  have hKb : ((K * b1 : Nat) : Int) = 7296 * (b1 : Int) := by rw [hK]; omega
  generalize hB : K * b1 = B at lp hKb
  let G1 : Nat → Nat → Int := cpG1 G (m + 3) (m + 1) B 0 K
  have g1 : ∀ x, x ≠ m + 3 → G1 x = G x := fun x hx => cpG1_q hx
  have g17 : G1 m 7 = b1 := by rw [g1 m (by omega), h7]
  have g16 : G1 m 6 = n := by rw [g1 m (by omega), h6.1]
  refine ⟨u2 (u2 G1 (m + 4) b1 n) m 7 ((b1 : Int) + 1), fun x x1 x2 x3 => ?_, fun j hj => ?_, ⟨⟨?_, by omega⟩, fun c hc => ?_⟩, fun Q => ?_⟩
  · rw [u2_a _ _ _ _ x1, u2_a _ _ _ _ x3, g1 x x2]
  · rw [u2_i _ _ _ _ hj, u2_a _ _ _ _ (by omega), g1 m (by omega)]
  · rw [u2_s]
    omega
  · have e4 : ∀ c, u2 (u2 G1 (m + 4) b1 n) m 7 ((b1 : Int) + 1) (m + 4) c = if c = b1 then (n : Int) else G (m + 4) c := fun c => by
      rw [u2_a _ _ _ _ (by omega)]
      show (if m + 4 = m + 4 ∧ c = b1 then (n : Int) else G1 (m + 4) c) = _
      rw [g1 (m + 4) (by omega)]
      simp only [true_and]
    have e3 : u2 (u2 G1 (m + 4) b1 n) m 7 ((b1 : Int) + 1) (m + 3) = G1 (m + 3) := by rw [u2_a _ _ _ _ (by omega), u2_a _ _ _ _ (by omega)]
    rw [e4, e3]
    by_cases z : c = b1
    · simp only [z, if_true]
      refine ⟨trivial, h6.2, fun s hs => ⟨(hM.2.2 s hs).2, fun k hk => ?_⟩⟩
      have ei : ∀ j, G1 (m + 3) j = if B ≤ j ∧ j < B + K then G (m + 1) (0 + (j - B)) else G (m + 3) j := fun j => cpG1_i
      rw [ei, if_pos (by omega), ← (hM.2.2 s hs).1 k hk, show 0 + (7296 * b1 + (1824 * s + k) - B) = (1824 * (s : Int) + (k : Int)).toNat by omega]
    · obtain ⟨p1, p2, p3⟩ := hP.2 c (by omega)
      simp only [z, if_false]
      refine ⟨p1, p2, fun s hs => ⟨(p3 s hs).1, fun k hk => ?_⟩⟩
      have ei : ∀ j, G1 (m + 3) j = if B ≤ j ∧ j < B + K then G (m + 1) (0 + (j - B)) else G (m + 3) j := fun j => cpG1_i
      rw [ei, if_neg (by omega)]
      exact (p3 s hs).2 k hk
  · have eb : (b1 : Int).toNat = b1 := Int.toNat_natCast b1
    have lp' : ∀ Q, RK MX10_remembers 79 [.ref m, .int (zi 0)] [] (0, 0) (E, zg G, zk L, r) Q = RK MX10_remembers 113 [.ref m, .int (zi (K : Int))] [] (0, 0) (E, zg G1, zk L, r) Q := lp
    have e74 : u2 G1 (m + 4) b1 n m 7 = b1 := by rw [u2_a _ _ _ _ (by omega), g17]
    refine ⟨?_, fun l1 hl1 => ?_⟩
    · simp (disch := first | assumption | exact c2_int _ | exact c2_ref _ | exact c2_jk | exact c2_null | omega | exact bI_r _ | exact bI_01 _) only [↓fX10_remembers_0, ↓fX10_remembers_1, ↓fX10_remembers_4, ↓fX10_remembers_6, ↓fX10_remembers_9, ↓fX10_remembers_10, ↓fX10_remembers_11, ↓fX10_remembers_12, ↓fX10_remembers_14, ↓fX10_remembers_17, ↓fX10_remembers_18, ↓fX10_remembers_21, ↓fX10_remembers_22, ↓fX10_remembers_23, ↓fX10_remembers_26, ↓fX10_remembers_27, ↓fX10_remembers_30, ↓fX10_remembers_31, ↓fX10_remembers_32, ↓fX10_remembers_33, ↓fX10_remembers_36, ↓fX10_remembers_39, ↓fX10_remembers_40, ↓fX10_remembers_41, ↓fX10_remembers_42, ↓fX10_remembers_44, ↓fX10_remembers_47, ↓fX10_remembers_48, ↓fX10_remembers_51, ↓fX10_remembers_52, ↓fX10_remembers_53, ↓fX10_remembers_56, ↓fX10_remembers_57, ↓fX10_remembers_58, ↓fX10_remembers_59, ↓fX10_remembers_60, ↓fX10_remembers_61, ↓fX10_remembers_64, ↓fX10_remembers_67, ↓fX10_remembers_68, ↓fX10_remembers_69, ↓fX10_remembers_72, ↓fX10_remembers_73, ↓fX10_remembers_74, ↓fX10_remembers_77, ↓fX10_remembers_78, ↓fX10_remembers_80, ↓fX10_remembers_83, ↓fX10_remembers_86, ↓fX10_remembers_87, ↓fX10_remembers_90, ↓fX10_remembers_93, ↓fX10_remembers_94, ↓fX10_remembers_97, ↓fX10_remembers_98, ↓fX10_remembers_99, ↓fX10_remembers_100, ↓fX10_remembers_101, ↓fX10_remembers_104, ↓fX10_remembers_105, ↓fX10_remembers_106, ↓fX10_remembers_107, ↓fX10_remembers_110, ↓fX10_remembers_114, ↓fX10_remembers_117, ↓fX10_remembers_118, ↓fX10_remembers_121, ↓fX10_remembers_122, ↓fX10_remembers_125, ↓fX10_remembers_126, ↓fX10_remembers_127, ↓fX10_remembers_128, ↓fX10_remembers_131, ↓fX10_remembers_132, ↓fX10_remembers_133, ↓fX10_remembers_136, ↓lp', and_self, true_and, and_true, false_and, and_false, not_true_eq_false, not_false_eq_true, or_self, true_or, or_true, false_or, or_false, ite_not, Decidable.not_not, decide_eq_true_eq, Bool.not_true, Bool.not_false, Bool.false_eq_true, Bool.not_eq_true, n10, n20, n21, n30, n31, n32, n40, n41, n42, n43, ↓reduceIte]
      rw [fX10_remembers_113]
      simp (disch := first | assumption | exact c2_int _ | exact c2_ref _ | exact c2_jk | exact c2_null | omega | exact bI_r _ | exact bI_01 _) only [↓fX10_remembers_0, ↓fX10_remembers_1, ↓fX10_remembers_4, ↓fX10_remembers_6, ↓fX10_remembers_9, ↓fX10_remembers_10, ↓fX10_remembers_11, ↓fX10_remembers_12, ↓fX10_remembers_14, ↓fX10_remembers_17, ↓fX10_remembers_18, ↓fX10_remembers_21, ↓fX10_remembers_22, ↓fX10_remembers_23, ↓fX10_remembers_26, ↓fX10_remembers_27, ↓fX10_remembers_30, ↓fX10_remembers_31, ↓fX10_remembers_32, ↓fX10_remembers_33, ↓fX10_remembers_36, ↓fX10_remembers_39, ↓fX10_remembers_40, ↓fX10_remembers_41, ↓fX10_remembers_42, ↓fX10_remembers_44, ↓fX10_remembers_47, ↓fX10_remembers_48, ↓fX10_remembers_51, ↓fX10_remembers_52, ↓fX10_remembers_53, ↓fX10_remembers_56, ↓fX10_remembers_57, ↓fX10_remembers_58, ↓fX10_remembers_59, ↓fX10_remembers_60, ↓fX10_remembers_61, ↓fX10_remembers_64, ↓fX10_remembers_67, ↓fX10_remembers_68, ↓fX10_remembers_69, ↓fX10_remembers_72, ↓fX10_remembers_73, ↓fX10_remembers_74, ↓fX10_remembers_77, ↓fX10_remembers_78, ↓fX10_remembers_80, ↓fX10_remembers_83, ↓fX10_remembers_86, ↓fX10_remembers_87, ↓fX10_remembers_90, ↓fX10_remembers_93, ↓fX10_remembers_94, ↓fX10_remembers_97, ↓fX10_remembers_98, ↓fX10_remembers_99, ↓fX10_remembers_100, ↓fX10_remembers_101, ↓fX10_remembers_104, ↓fX10_remembers_105, ↓fX10_remembers_106, ↓fX10_remembers_107, ↓fX10_remembers_110, ↓fX10_remembers_114, ↓fX10_remembers_117, ↓fX10_remembers_118, ↓fX10_remembers_121, ↓fX10_remembers_122, ↓fX10_remembers_125, ↓fX10_remembers_126, ↓fX10_remembers_127, ↓fX10_remembers_128, ↓fX10_remembers_131, ↓fX10_remembers_132, ↓fX10_remembers_133, ↓fX10_remembers_136, g17, g16, eb, e74, and_self, true_and, and_true, false_and, and_false, not_true_eq_false, not_false_eq_true, or_self, true_or, or_true, false_or, or_false, ite_not, Decidable.not_not, decide_eq_true_eq, Bool.not_true, Bool.not_false, Bool.false_eq_true, Bool.not_eq_true, n10, n20, n21, n30, n31, n32, n40, n41, n42, n43, ↓reduceIte]
    · simp (disch := first | assumption | exact c2_int _ | exact c2_ref _ | exact c2_jk | exact c2_null | omega | exact bI_r _ | exact bI_01 _) only [↓fX10_remembers_0, ↓fX10_remembers_1, ↓fX10_remembers_4, ↓fX10_remembers_6, ↓fX10_remembers_9, ↓fX10_remembers_10, ↓fX10_remembers_11, ↓fX10_remembers_12, ↓fX10_remembers_14, ↓fX10_remembers_17, ↓fX10_remembers_18, ↓fX10_remembers_21, ↓fX10_remembers_22, ↓fX10_remembers_23, ↓fX10_remembers_26, ↓fX10_remembers_27, ↓fX10_remembers_30, ↓fX10_remembers_31, ↓fX10_remembers_32, ↓fX10_remembers_33, ↓fX10_remembers_36, ↓fX10_remembers_39, ↓fX10_remembers_40, ↓fX10_remembers_41, ↓fX10_remembers_42, ↓fX10_remembers_44, ↓fX10_remembers_47, ↓fX10_remembers_48, ↓fX10_remembers_51, ↓fX10_remembers_52, ↓fX10_remembers_53, ↓fX10_remembers_56, ↓fX10_remembers_57, ↓fX10_remembers_58, ↓fX10_remembers_59, ↓fX10_remembers_60, ↓fX10_remembers_61, ↓fX10_remembers_64, ↓fX10_remembers_67, ↓fX10_remembers_68, ↓fX10_remembers_69, ↓fX10_remembers_72, ↓fX10_remembers_73, ↓fX10_remembers_74, ↓fX10_remembers_77, ↓fX10_remembers_78, ↓fX10_remembers_80, ↓fX10_remembers_83, ↓fX10_remembers_86, ↓fX10_remembers_87, ↓fX10_remembers_90, ↓fX10_remembers_93, ↓fX10_remembers_94, ↓fX10_remembers_97, ↓fX10_remembers_98, ↓fX10_remembers_99, ↓fX10_remembers_100, ↓fX10_remembers_101, ↓fX10_remembers_104, ↓fX10_remembers_105, ↓fX10_remembers_106, ↓fX10_remembers_107, ↓fX10_remembers_110, ↓fX10_remembers_114, ↓fX10_remembers_117, ↓fX10_remembers_118, ↓fX10_remembers_121, ↓fX10_remembers_122, ↓fX10_remembers_125, ↓fX10_remembers_126, ↓fX10_remembers_127, ↓fX10_remembers_128, ↓fX10_remembers_131, ↓fX10_remembers_132, ↓fX10_remembers_133, ↓fX10_remembers_136, ↓lp', and_self, true_and, and_true, false_and, and_false, not_true_eq_false, not_false_eq_true, or_self, true_or, or_true, false_or, or_false, ite_not, Decidable.not_not, decide_eq_true_eq, Bool.not_true, Bool.not_false, Bool.false_eq_true, Bool.not_eq_true, n10, n20, n21, n30, n31, n32, n40, n41, n42, n43, ↓reduceIte]
      rw [fX10_remembers_113]
      simp (disch := first | assumption | exact c2_int _ | exact c2_ref _ | exact c2_jk | exact c2_null | omega | exact bI_r _ | exact bI_01 _) only [↓fX10_remembers_0, ↓fX10_remembers_1, ↓fX10_remembers_4, ↓fX10_remembers_6, ↓fX10_remembers_9, ↓fX10_remembers_10, ↓fX10_remembers_11, ↓fX10_remembers_12, ↓fX10_remembers_14, ↓fX10_remembers_17, ↓fX10_remembers_18, ↓fX10_remembers_21, ↓fX10_remembers_22, ↓fX10_remembers_23, ↓fX10_remembers_26, ↓fX10_remembers_27, ↓fX10_remembers_30, ↓fX10_remembers_31, ↓fX10_remembers_32, ↓fX10_remembers_33, ↓fX10_remembers_36, ↓fX10_remembers_39, ↓fX10_remembers_40, ↓fX10_remembers_41, ↓fX10_remembers_42, ↓fX10_remembers_44, ↓fX10_remembers_47, ↓fX10_remembers_48, ↓fX10_remembers_51, ↓fX10_remembers_52, ↓fX10_remembers_53, ↓fX10_remembers_56, ↓fX10_remembers_57, ↓fX10_remembers_58, ↓fX10_remembers_59, ↓fX10_remembers_60, ↓fX10_remembers_61, ↓fX10_remembers_64, ↓fX10_remembers_67, ↓fX10_remembers_68, ↓fX10_remembers_69, ↓fX10_remembers_72, ↓fX10_remembers_73, ↓fX10_remembers_74, ↓fX10_remembers_77, ↓fX10_remembers_78, ↓fX10_remembers_80, ↓fX10_remembers_83, ↓fX10_remembers_86, ↓fX10_remembers_87, ↓fX10_remembers_90, ↓fX10_remembers_93, ↓fX10_remembers_94, ↓fX10_remembers_97, ↓fX10_remembers_98, ↓fX10_remembers_99, ↓fX10_remembers_100, ↓fX10_remembers_101, ↓fX10_remembers_104, ↓fX10_remembers_105, ↓fX10_remembers_106, ↓fX10_remembers_107, ↓fX10_remembers_110, ↓fX10_remembers_114, ↓fX10_remembers_117, ↓fX10_remembers_118, ↓fX10_remembers_121, ↓fX10_remembers_122, ↓fX10_remembers_125, ↓fX10_remembers_126, ↓fX10_remembers_127, ↓fX10_remembers_128, ↓fX10_remembers_131, ↓fX10_remembers_132, ↓fX10_remembers_133, ↓fX10_remembers_136, g17, g16, eb, e74, and_self, true_and, and_true, false_and, and_false, not_true_eq_false, not_false_eq_true, or_self, true_or, or_true, false_or, or_false, ite_not, Decidable.not_not, decide_eq_true_eq, Bool.not_true, Bool.not_false, Bool.false_eq_true, Bool.not_eq_true, n10, n20, n21, n30, n31, n32, n40, n41, n42, n43, ↓reduceIte]
theorem m_remembers (hM : MD E r G m n σ) (hP : PM G m a N Sg) : ∃ G2, (∀ x, x ≠ m → x ≠ m + 3 → x ≠ m + 4 → G2 x = G x) ∧ (∀ j, j ≠ 7 → G2 m j = G m j) ∧ PM G2 m (kpA a) (kpN a N n) (kpN a Sg σ) ∧ ∀ Q, RK MX10_remembers 0 [.ref m, jk] [] (0, 0) (E, zg G, zk L, r) Q = Q (E, zg G2, zk L, r) .null := by
  have hm := hM.1
  have m0 := hm.1
  have h7 := hP.1
  unfold kpA kpN
  by_cases ha : a = 8
  · subst ha
    obtain ⟨K, hK⟩ : ∃ K : Nat, K = 51072 := ⟨_, rfl⟩
    obtain ⟨D, hD⟩ : ∃ D : Nat, D = 7296 := ⟨_, rfl⟩
    obtain ⟨K7, hK7⟩ : ∃ K : Nat, K = 7 := ⟨_, rfl⟩
    have l1 := fun Q => rem_l1 (G := G) (L := L) (Q := Q) hm hK hD K 0 (by omega) (by omega)
    rw [sh_0] at l1
    let G1 : Nat → Nat → Int := shG1 G (m + 3) D K
    have l2 := fun Q => rem_l2 (G := G1) (L := L) (Q := Q) hm hK7 K7 0 (by omega) (by omega)
    rw [sh_0] at l2
    let G2 : Nat → Nat → Int := shG1 G1 (m + 4) 1 K7
    have q1 : ∀ x, x ≠ m + 3 → G1 x = G x := fun x hx => shG1_q hx
    have q2 : ∀ x, x ≠ m + 4 → G2 x = G1 x := fun x hx => shG1_q hx
    let G3 : Nat → Nat → Int := u2 G2 m 7 7
    have e27 : G2 m 7 = 8 := by rw [q2 m (by omega), q1 m (by omega), h7.1]; rfl
    have hM3 : MD E r G3 m n σ := by
      refine ⟨hm, ?_, fun s hs => ⟨SL_c (hM.2.2 s hs).1 ?_, (hM.2.2 s hs).2⟩⟩
      · show u2 G2 m 7 7 m 6 = n ∧ n ≤ 4
        rw [u2_i _ _ _ _ (by decide), q2 m (by omega), q1 m (by omega)]
        exact hM.2.1
      · show u2 G2 m 7 7 (m + 1) = G (m + 1)
        rw [u2_a _ _ _ _ (by omega), q2 _ (by omega), q1 _ (by omega)]
    have hP3 : PM G3 m 7 (fun t => N (t + 1)) (fun t => Sg (t + 1)) := by
      refine ⟨⟨u2_s _ _ _ _, by decide⟩, fun c hc => ?_⟩
      obtain ⟨p1, p2, p3⟩ := hP.2 (c + 1) (by omega)
      have e4 : G3 (m + 4) c = G (m + 4) (c + 1) := by
        show u2 G2 m 7 7 (m + 4) c = _
        rw [u2_a _ _ _ _ (by omega)]
        have ei : ∀ j, G2 (m + 4) j = if j < K7 then G1 (m + 4) (j + 1) else G1 (m + 4) j := fun j => shG1_i
        rw [ei, if_pos (by omega), q1 _ (by omega)]
      have e3 : ∀ j, j < K → G3 (m + 3) j = G (m + 3) (j + D) := fun j hj => by
        show u2 G2 m 7 7 (m + 3) j = _
        rw [u2_a _ _ _ _ (by omega), q2 _ (by omega)]
        have ei : ∀ j, G1 (m + 3) j = if j < K then G (m + 3) (j + D) else G (m + 3) j := fun j => shG1_i
        rw [ei, if_pos hj]
      refine ⟨e4.trans p1, p2, fun s hs => ?_⟩
      have hs' : s < N (c + 1) := hs
      refine ⟨(p3 s hs').1, fun k hk => ?_⟩
      show G3 (m + 3) (7296 * c + (1824 * s + k)) = Sg (c + 1) s k
      rw [e3 (7296 * c + (1824 * s + k)) (by omega), ← (p3 s hs').2 k hk, show 7296 * c + (1824 * s + k) + D = 7296 * (c + 1) + (1824 * s + k) by omega]
    obtain ⟨G4, f1, f2, f3, f4⟩ := rem_tail (L := L) hm hM3 hP3 (by decide)
    refine ⟨G4, fun x x1 x2 x3 => ?_, fun j hj => ?_, ?_, fun Q => ?_⟩
    · rw [f1 x x1 x2 x3]
      show u2 G2 m 7 7 x = _
      rw [u2_a _ _ _ _ x1, q2 x x3, q1 x x2]
    · rw [f2 j hj]
      show u2 G2 m 7 7 m j = _
      rw [u2_i _ _ _ _ hj, q2 m (by omega), q1 m (by omega)]
    · simp only [if_true]
      exact f3
    · have h8 : G m 7 = 8 := h7.1
      have f5 := (f4 Q).2 (.int (zi (K7 : Int))) (c2_int _)
      have l1' : RK MX10_remembers 11 [.ref m, .int (zi 0)] [] (0, 0) (E, zg G, zk L, r) Q = _ := l1 Q
      have l2' : RK MX10_remembers 41 [.ref m, .int (zi 0)] [] (0, 0) (E, zg G1, zk L, r) Q = _ := l2 Q
      simp (disch := first | assumption | exact c2_int _ | exact c2_ref _ | exact c2_jk | exact c2_null | omega | exact bI_r _ | exact bI_01 _) only [↓fX10_remembers_0, ↓fX10_remembers_1, ↓fX10_remembers_4, ↓fX10_remembers_6, ↓fX10_remembers_9, ↓fX10_remembers_10, ↓fX10_remembers_12, ↓fX10_remembers_14, ↓fX10_remembers_17, ↓fX10_remembers_18, ↓fX10_remembers_21, ↓fX10_remembers_22, ↓fX10_remembers_23, ↓fX10_remembers_26, ↓fX10_remembers_27, ↓fX10_remembers_30, ↓fX10_remembers_31, ↓fX10_remembers_32, ↓fX10_remembers_33, ↓fX10_remembers_36, ↓fX10_remembers_40, ↓fX10_remembers_42, ↓fX10_remembers_44, ↓fX10_remembers_47, ↓fX10_remembers_48, ↓fX10_remembers_51, ↓fX10_remembers_52, ↓fX10_remembers_53, ↓fX10_remembers_56, ↓fX10_remembers_57, ↓fX10_remembers_58, ↓fX10_remembers_59, ↓fX10_remembers_60, ↓fX10_remembers_61, ↓fX10_remembers_64, ↓fX10_remembers_68, ↓fX10_remembers_69, ↓fX10_remembers_72, ↓fX10_remembers_73, ↓fX10_remembers_74, ↓fX10_remembers_78, ↓fX10_remembers_79, ↓fX10_remembers_80, ↓fX10_remembers_83, ↓fX10_remembers_86, ↓fX10_remembers_87, ↓fX10_remembers_90, ↓fX10_remembers_93, ↓fX10_remembers_94, ↓fX10_remembers_97, ↓fX10_remembers_98, ↓fX10_remembers_99, ↓fX10_remembers_100, ↓fX10_remembers_101, ↓fX10_remembers_104, ↓fX10_remembers_105, ↓fX10_remembers_106, ↓fX10_remembers_107, ↓fX10_remembers_110, ↓fX10_remembers_113, ↓fX10_remembers_114, ↓fX10_remembers_117, ↓fX10_remembers_118, ↓fX10_remembers_121, ↓fX10_remembers_122, ↓fX10_remembers_125, ↓fX10_remembers_126, ↓fX10_remembers_127, ↓fX10_remembers_128, ↓fX10_remembers_131, ↓fX10_remembers_132, ↓fX10_remembers_133, ↓fX10_remembers_136, h8, and_self, true_and, and_true, false_and, and_false, not_true_eq_false, not_false_eq_true, or_self, true_or, or_true, false_or, or_false, ite_not, Decidable.not_not, decide_eq_true_eq, Bool.not_true, Bool.not_false, Bool.false_eq_true, Bool.not_eq_true, n10, n20, n21, n30, n31, n32, n40, n41, n42, n43, ↓reduceIte]
      rw [l1', fX10_remembers_39, fX10_remembers_40 (c2_ref _), l2', fX10_remembers_67]
      have e28 : shG1 G1 (m + 4) 1 K7 m 7 = 8 := e27
      simp (disch := first | assumption | exact c2_int _ | exact c2_ref _ | exact c2_jk | exact c2_null | omega | exact bI_r _ | exact bI_01 _) only [↓fX10_remembers_0, ↓fX10_remembers_1, ↓fX10_remembers_4, ↓fX10_remembers_6, ↓fX10_remembers_9, ↓fX10_remembers_10, ↓fX10_remembers_12, ↓fX10_remembers_14, ↓fX10_remembers_17, ↓fX10_remembers_18, ↓fX10_remembers_21, ↓fX10_remembers_22, ↓fX10_remembers_23, ↓fX10_remembers_26, ↓fX10_remembers_27, ↓fX10_remembers_30, ↓fX10_remembers_31, ↓fX10_remembers_32, ↓fX10_remembers_33, ↓fX10_remembers_36, ↓fX10_remembers_40, ↓fX10_remembers_42, ↓fX10_remembers_44, ↓fX10_remembers_47, ↓fX10_remembers_48, ↓fX10_remembers_51, ↓fX10_remembers_52, ↓fX10_remembers_53, ↓fX10_remembers_56, ↓fX10_remembers_57, ↓fX10_remembers_58, ↓fX10_remembers_59, ↓fX10_remembers_60, ↓fX10_remembers_61, ↓fX10_remembers_64, ↓fX10_remembers_68, ↓fX10_remembers_69, ↓fX10_remembers_72, ↓fX10_remembers_73, ↓fX10_remembers_74, ↓fX10_remembers_78, ↓fX10_remembers_79, ↓fX10_remembers_80, ↓fX10_remembers_83, ↓fX10_remembers_86, ↓fX10_remembers_87, ↓fX10_remembers_90, ↓fX10_remembers_93, ↓fX10_remembers_94, ↓fX10_remembers_97, ↓fX10_remembers_98, ↓fX10_remembers_99, ↓fX10_remembers_100, ↓fX10_remembers_101, ↓fX10_remembers_104, ↓fX10_remembers_105, ↓fX10_remembers_106, ↓fX10_remembers_107, ↓fX10_remembers_110, ↓fX10_remembers_113, ↓fX10_remembers_114, ↓fX10_remembers_117, ↓fX10_remembers_118, ↓fX10_remembers_121, ↓fX10_remembers_122, ↓fX10_remembers_125, ↓fX10_remembers_126, ↓fX10_remembers_127, ↓fX10_remembers_128, ↓fX10_remembers_131, ↓fX10_remembers_132, ↓fX10_remembers_133, ↓fX10_remembers_136, e28, and_self, true_and, and_true, false_and, and_false, not_true_eq_false, not_false_eq_true, or_self, true_or, or_true, false_or, or_false, ite_not, Decidable.not_not, decide_eq_true_eq, Bool.not_true, Bool.not_false, Bool.false_eq_true, Bool.not_eq_true, n10, n20, n21, n30, n31, n32, n40, n41, n42, n43, ↓reduceIte]
      exact f5
  · obtain ⟨G4, f1, f2, f3, f4⟩ := rem_tail (L := L) hm hM hP (by omega)
    refine ⟨G4, f1, f2, ?_, fun Q => ?_⟩
    · simp only [ha, if_false]
      exact f3
    · have h8 : ¬ G m 7 = 8 := by omega
      simp (disch := first | assumption | exact c2_int _ | exact c2_ref _ | exact c2_jk | exact c2_null | omega | exact bI_r _ | exact bI_01 _) only [↓fX10_remembers_0, ↓fX10_remembers_1, ↓fX10_remembers_4, ↓fX10_remembers_6, ↓fX10_remembers_9, ↓fX10_remembers_10, ↓fX10_remembers_11, ↓fX10_remembers_12, ↓fX10_remembers_14, ↓fX10_remembers_17, ↓fX10_remembers_18, ↓fX10_remembers_21, ↓fX10_remembers_22, ↓fX10_remembers_23, ↓fX10_remembers_26, ↓fX10_remembers_27, ↓fX10_remembers_30, ↓fX10_remembers_31, ↓fX10_remembers_32, ↓fX10_remembers_33, ↓fX10_remembers_36, ↓fX10_remembers_39, ↓fX10_remembers_40, ↓fX10_remembers_41, ↓fX10_remembers_42, ↓fX10_remembers_44, ↓fX10_remembers_47, ↓fX10_remembers_48, ↓fX10_remembers_51, ↓fX10_remembers_52, ↓fX10_remembers_53, ↓fX10_remembers_56, ↓fX10_remembers_57, ↓fX10_remembers_58, ↓fX10_remembers_59, ↓fX10_remembers_60, ↓fX10_remembers_61, ↓fX10_remembers_64, ↓fX10_remembers_67, ↓fX10_remembers_68, ↓fX10_remembers_69, ↓fX10_remembers_72, ↓fX10_remembers_73, ↓fX10_remembers_74, ↓fX10_remembers_78, ↓fX10_remembers_79, ↓fX10_remembers_80, ↓fX10_remembers_83, ↓fX10_remembers_86, ↓fX10_remembers_87, ↓fX10_remembers_90, ↓fX10_remembers_93, ↓fX10_remembers_94, ↓fX10_remembers_97, ↓fX10_remembers_98, ↓fX10_remembers_99, ↓fX10_remembers_100, ↓fX10_remembers_101, ↓fX10_remembers_104, ↓fX10_remembers_105, ↓fX10_remembers_106, ↓fX10_remembers_107, ↓fX10_remembers_110, ↓fX10_remembers_113, ↓fX10_remembers_114, ↓fX10_remembers_117, ↓fX10_remembers_118, ↓fX10_remembers_121, ↓fX10_remembers_122, ↓fX10_remembers_125, ↓fX10_remembers_126, ↓fX10_remembers_127, ↓fX10_remembers_128, ↓fX10_remembers_131, ↓fX10_remembers_132, ↓fX10_remembers_133, ↓fX10_remembers_136, h8, and_self, true_and, and_true, false_and, and_false, not_true_eq_false, not_false_eq_true, or_self, true_or, or_true, false_or, or_false, ite_not, Decidable.not_not, decide_eq_true_eq, Bool.not_true, Bool.not_false, Bool.false_eq_true, Bool.not_eq_true, n10, n20, n21, n30, n31, n32, n40, n41, n42, n43, ↓reduceIte]
      exact (f4 Q).1
end BM
