/-! load out of the reference. -/
def zrG (G : Nat → Nat → Int) (q n : Nat) : Nat → Nat → Int := fun x j => if x = q ∧ j < n then 0 else G x j
/-- what has been read: sieves, lists -/
def RHM (G : Nat → Nat → Int) (m cs cl : Nat) (σ : Nat → Nat → Int) (ln : Nat → Nat) (lv : Nat → Nat → Int) : Prop := (G m 28 = cs ∧ cs ≤ 4) ∧ (G m 29 = cl ∧ cl ≤ 3) ∧ (∀ t, t < cs → ∀ k, k < 1824 → G (m + 2) (1824 * t + k) = σ t k) ∧ (∀ q, 1824 * cs ≤ q → q < 7296 → G (m + 2) q = 0) ∧ ∀ t, t < cl → ln t ≤ 10 ∧ G (m + 6) (11 * t) = ln t ∧ ∀ j, j < ln t → G (m + 6) (11 * t + 1 + j) = lv t j
section BM
variable {E : AE} {G G1 G2 G' L L' L1 L2 : Nat → Nat → Int} {r : Nat → Nat → Option Nat} {h : AH} {Q : AH → Value → Prop} {m M c cs cl cl0 a n0 : Nat} {B : Int → Int} {T : TkT} {st : StT} {f g C : Nat → Int} {s e y x w i p v lo hi t b d n ki k : Int} {σ σ0 : Nat → Nat → Int} {ln ln0 : Nat → Nat} {lv lv0 : Nat → Nat → Int} {N : Nat → Nat} {Sg : Nat → Nat → Nat → Int}
theorem zr_q {q n' x : Nat} (h : x ≠ q) : zrG G q n' x = G x := by
  funext j
  unfold zrG
  rw [if_neg fun z => h z.1]
theorem zr_i {q n' j : Nat} : zrG G q n' q j = if j < n' then 0 else G q j := by
  unfold zrG
  by_cases h : j < n'
  · rw [if_pos ⟨rfl, h⟩, if_pos h]
  · rw [if_neg (fun z => h z.2), if_neg h]
theorem zr_step {q n' : Nat} : u2 (zrG G q n') q n' 0 = zrG G q (n' + 1) := by
  funext x j
  simp only [u2, zrG]
  by_cases h : x = q ∧ j = n'
  · rw [if_pos h, if_pos ⟨h.1, by omega⟩]
  · rw [if_neg h]
    by_cases h2 : x = q ∧ j < n'
    · rw [if_pos h2, if_pos ⟨h2.1, by omega⟩]
    · rw [if_neg h2, if_neg fun z => h2 ⟨z.1, by have := z.2; have : ¬ j = n' := fun y => h ⟨z.1, y⟩; omega⟩]
theorem zr_0 {q : Nat} : zrG G q 0 = G := by
  funext x j
  unfold zrG
  rw [if_neg fun z => absurd z.2 (by omega)]
theorem load_l1 (hm : shM E r m) {K : Nat} (hK : K = 7296) {l1 : Value} (hl1 : c2 l1 = false) : ∀ (k n' : Nat), K - n' ≤ k → n' ≤ K → RK MX10_load 60 [.ref m, l1, .int (zi (n' : Int))] [] (0, 0) (E, zg (zrG G (m + 2) n'), zk L, r) Q = RK MX10_load 80 [.ref m, l1, .int (zi (K : Int))] [] (0, 0) (E, zg (zrG G (m + 2) K), zk L, r) Q := by
  have m0 := hm.1
  obtain ⟨ka2, la2, ra2⟩ := hm.2.2.1
  have stop : RK MX10_load 60 [.ref m, l1, .int (zi (K : Int))] [] (0, 0) (E, zg (zrG G (m + 2) K), zk L, r) Q = RK MX10_load 80 [.ref m, l1, .int (zi (K : Int))] [] (0, 0) (E, zg (zrG G (m + 2) K), zk L, r) Q := by
    have h6 : ¬ (K : Int) < 7296 := by omega
    simp (disch := first | assumption | exact c2_int _ | exact c2_ref _ | exact c2_jk | exact c2_null | omega | exact bI_r _ | exact bI_01 _) only [↓fX10_load_0, ↓fX10_load_1, ↓fX10_load_2, ↓fX10_load_3, ↓fX10_load_4, ↓fX10_load_5, ↓fX10_load_8, ↓fX10_load_9, ↓fX10_load_12, ↓fX10_load_15, ↓fX10_load_16, ↓fX10_load_19, ↓fX10_load_20, ↓fX10_load_23, ↓fX10_load_26, ↓fX10_load_27, ↓fX10_load_28, ↓fX10_load_29, ↓fX10_load_30, ↓fX10_load_33, ↓fX10_load_34, ↓fX10_load_35, ↓fX10_load_38, ↓fX10_load_39, ↓fX10_load_40, ↓fX10_load_43, ↓fX10_load_44, ↓fX10_load_45, ↓fX10_load_48, ↓fX10_load_49, ↓fX10_load_50, ↓fX10_load_53, ↓fX10_load_54, ↓fX10_load_55, ↓fX10_load_58, ↓fX10_load_59, ↓fX10_load_60, ↓fX10_load_61, ↓fX10_load_64, ↓fX10_load_67, ↓fX10_load_68, ↓fX10_load_71, ↓fX10_load_72, ↓fX10_load_73, ↓fX10_load_74, ↓fX10_load_77, ↓fX10_load_81, ↓fX10_load_84, ↓fX10_load_85, ↓fX10_load_88, ↓fX10_load_91, ↓fX10_load_92, ↓fX10_load_95, ↓fX10_load_98, ↓fX10_load_99, ↓fX10_load_100, ↓fX10_load_103, ↓fX10_load_106, ↓fX10_load_107, ↓fX10_load_110, ↓fX10_load_113, ↓fX10_load_114, ↓fX10_load_116, ↓fX10_load_119, ↓fX10_load_122, ↓fX10_load_123, ↓fX10_load_126, ↓fX10_load_129, ↓fX10_load_130, ↓fX10_load_131, ↓fX10_load_132, ↓fX10_load_135, ↓fX10_load_136, ↓fX10_load_137, ↓fX10_load_140, ↓fX10_load_141, ↓fX10_load_144, ↓fX10_load_145, ↓fX10_load_148, ↓fX10_load_149, ↓fX10_load_152, ↓fX10_load_155, ↓fX10_load_156, ↓fX10_load_157, ↓fX10_load_160, ↓fX10_load_161, ↓fX10_load_162, ↓fX10_load_165, ↓fX10_load_168, ↓fX10_load_169, ↓fX10_load_170, ↓fX10_load_173, ↓fX10_load_176, ↓fX10_load_177, ↓fX10_load_180, ↓fX10_load_183, ↓fX10_load_184, ↓fX10_load_187, ↓fX10_load_188, ↓fX10_load_191, ↓fX10_load_194, ↓fX10_load_195, ↓fX10_load_197, ↓fX10_load_200, ↓fX10_load_201, ↓fX10_load_202, ↓fX10_load_203, ↓fX10_load_204, ↓fX10_load_207, ↓fX10_load_210, ↓fX10_load_211, ↓fX10_load_214, ↓fX10_load_215, ↓fX10_load_216, ↓fX10_load_219, ↓fX10_load_220, ↓fX10_load_221, ↓fX10_load_222, ↓fX10_load_225, ↓fX10_load_228, ↓fX10_load_229, ↓fX10_load_230, ↓fX10_load_231, ↓fX10_load_232, ↓fX10_load_235, ↓fX10_load_236, ↓fX10_load_239, ↓fX10_load_240, ↓fX10_load_243, ↓fX10_load_244, ↓fX10_load_245, ↓fX10_load_248, ↓fX10_load_249, ↓fX10_load_250, ↓fX10_load_251, ↓fX10_load_254, ↓fX10_load_257, ↓fX10_load_258, ↓fX10_load_259, ↓fX10_load_262, ↓fX10_load_265, ↓fX10_load_266, ↓fX10_load_267, ↓fX10_load_270, ↓fX10_load_273, ↓fX10_load_274, ↓fX10_load_275, ↓fX10_load_278, ↓fX10_load_279, ↓fX10_load_282, h6, and_self, true_and, and_true, false_and, and_false, not_true_eq_false, not_false_eq_true, or_self, true_or, or_true, false_or, or_false, ite_not, Decidable.not_not, decide_eq_true_eq, Bool.not_true, Bool.not_false, Bool.false_eq_true, Bool.not_eq_true, n10, n20, n21, n30, n31, n32, n40, n41, n42, n43, ↓reduceIte]
  intro k
  induction k with
  | zero =>
    intro n' h1 h2
    have en : n' = K := by omega
    rw [en]
    exact stop
  | succ k ih =>
    intro n' h1 h2
    by_cases h6 : (n' : Int) < 7296
    · have ew : u2 (zrG G (m + 2) n') (m + 2) (n' : Int).toNat 0 = zrG G (m + 2) (n' + 1) := by
        rw [Int.toNat_natCast]
        exact zr_step
      have ih' := ih (n' + 1) (by omega) (by omega)
      rw [← ew, Int.natCast_add] at ih'
      have ih'' : RK MX10_load 60 [.ref m, l1, .int (zi ((n' : Int) + 1))] [] (0, 0) _ Q = _ := ih'
      rw [fX10_load_60]
      simp (disch := first | assumption | exact c2_int _ | exact c2_ref _ | exact c2_jk | exact c2_null | omega | exact bI_r _ | exact bI_01 _) only [↓fX10_load_0, ↓fX10_load_1, ↓fX10_load_2, ↓fX10_load_3, ↓fX10_load_4, ↓fX10_load_5, ↓fX10_load_8, ↓fX10_load_9, ↓fX10_load_12, ↓fX10_load_15, ↓fX10_load_16, ↓fX10_load_19, ↓fX10_load_20, ↓fX10_load_23, ↓fX10_load_26, ↓fX10_load_27, ↓fX10_load_28, ↓fX10_load_29, ↓fX10_load_30, ↓fX10_load_33, ↓fX10_load_34, ↓fX10_load_35, ↓fX10_load_38, ↓fX10_load_39, ↓fX10_load_40, ↓fX10_load_43, ↓fX10_load_44, ↓fX10_load_45, ↓fX10_load_48, ↓fX10_load_49, ↓fX10_load_50, ↓fX10_load_53, ↓fX10_load_54, ↓fX10_load_55, ↓fX10_load_58, ↓fX10_load_59, ↓fX10_load_61, ↓fX10_load_64, ↓fX10_load_67, ↓fX10_load_68, ↓fX10_load_71, ↓fX10_load_72, ↓fX10_load_73, ↓fX10_load_74, ↓fX10_load_77, ↓fX10_load_81, ↓fX10_load_84, ↓fX10_load_85, ↓fX10_load_88, ↓fX10_load_91, ↓fX10_load_92, ↓fX10_load_95, ↓fX10_load_98, ↓fX10_load_99, ↓fX10_load_100, ↓fX10_load_103, ↓fX10_load_106, ↓fX10_load_107, ↓fX10_load_110, ↓fX10_load_113, ↓fX10_load_114, ↓fX10_load_116, ↓fX10_load_119, ↓fX10_load_122, ↓fX10_load_123, ↓fX10_load_126, ↓fX10_load_129, ↓fX10_load_130, ↓fX10_load_131, ↓fX10_load_132, ↓fX10_load_135, ↓fX10_load_136, ↓fX10_load_137, ↓fX10_load_140, ↓fX10_load_141, ↓fX10_load_144, ↓fX10_load_145, ↓fX10_load_148, ↓fX10_load_149, ↓fX10_load_152, ↓fX10_load_155, ↓fX10_load_156, ↓fX10_load_157, ↓fX10_load_160, ↓fX10_load_161, ↓fX10_load_162, ↓fX10_load_165, ↓fX10_load_168, ↓fX10_load_169, ↓fX10_load_170, ↓fX10_load_173, ↓fX10_load_176, ↓fX10_load_177, ↓fX10_load_180, ↓fX10_load_183, ↓fX10_load_184, ↓fX10_load_187, ↓fX10_load_188, ↓fX10_load_191, ↓fX10_load_194, ↓fX10_load_195, ↓fX10_load_197, ↓fX10_load_200, ↓fX10_load_201, ↓fX10_load_202, ↓fX10_load_203, ↓fX10_load_204, ↓fX10_load_207, ↓fX10_load_210, ↓fX10_load_211, ↓fX10_load_214, ↓fX10_load_215, ↓fX10_load_216, ↓fX10_load_219, ↓fX10_load_220, ↓fX10_load_221, ↓fX10_load_222, ↓fX10_load_225, ↓fX10_load_228, ↓fX10_load_229, ↓fX10_load_230, ↓fX10_load_231, ↓fX10_load_232, ↓fX10_load_235, ↓fX10_load_236, ↓fX10_load_239, ↓fX10_load_240, ↓fX10_load_243, ↓fX10_load_244, ↓fX10_load_245, ↓fX10_load_248, ↓fX10_load_249, ↓fX10_load_250, ↓fX10_load_251, ↓fX10_load_254, ↓fX10_load_257, ↓fX10_load_258, ↓fX10_load_259, ↓fX10_load_262, ↓fX10_load_265, ↓fX10_load_266, ↓fX10_load_267, ↓fX10_load_270, ↓fX10_load_273, ↓fX10_load_274, ↓fX10_load_275, ↓fX10_load_278, ↓fX10_load_279, ↓fX10_load_282, h6, and_self, true_and, and_true, false_and, and_false, not_true_eq_false, not_false_eq_true, or_self, true_or, or_true, false_or, or_false, ite_not, Decidable.not_not, decide_eq_true_eq, Bool.not_true, Bool.not_false, Bool.false_eq_true, Bool.not_eq_true, n10, n20, n21, n30, n31, n32, n40, n41, n42, n43, ↓reduceIte]
      exact ih''
    · have en : n' = K := by omega
      rw [en]
      exact stop
theorem load_l2 (hm : shM E r m) {K : Nat} (hK : K = 7296) {l1 : Value} (hl1 : c2 l1 = false) : ∀ (k n' : Nat), K - n' ≤ k → n' ≤ K → RK MX10_load 203 [.ref m, l1, .int (zi (n' : Int))] [] (0, 0) (E, zg (cpG1 G (m + 1) (m + 2) 0 0 n'), zk L, r) Q = RK MX10_load 228 [.ref m, l1, .int (zi (K : Int))] [] (0, 0) (E, zg (cpG1 G (m + 1) (m + 2) 0 0 K), zk L, r) Q := by
  have m0 := hm.1
  obtain ⟨ka1, la1, ra1⟩ := hm.2.1
  obtain ⟨ka2, la2, ra2⟩ := hm.2.2.1
  have stop : RK MX10_load 203 [.ref m, l1, .int (zi (K : Int))] [] (0, 0) (E, zg (cpG1 G (m + 1) (m + 2) 0 0 K), zk L, r) Q = RK MX10_load 228 [.ref m, l1, .int (zi (K : Int))] [] (0, 0) (E, zg (cpG1 G (m + 1) (m + 2) 0 0 K), zk L, r) Q := by
    have h6 : ¬ (K : Int) < 7296 := by omega
    simp (disch := first | assumption | exact c2_int _ | exact c2_ref _ | exact c2_jk | exact c2_null | omega | exact bI_r _ | exact bI_01 _) only [↓fX10_load_0, ↓fX10_load_1, ↓fX10_load_2, ↓fX10_load_3, ↓fX10_load_4, ↓fX10_load_5, ↓fX10_load_8, ↓fX10_load_9, ↓fX10_load_12, ↓fX10_load_15, ↓fX10_load_16, ↓fX10_load_19, ↓fX10_load_20, ↓fX10_load_23, ↓fX10_load_26, ↓fX10_load_27, ↓fX10_load_28, ↓fX10_load_29, ↓fX10_load_30, ↓fX10_load_33, ↓fX10_load_34, ↓fX10_load_35, ↓fX10_load_38, ↓fX10_load_39, ↓fX10_load_40, ↓fX10_load_43, ↓fX10_load_44, ↓fX10_load_45, ↓fX10_load_48, ↓fX10_load_49, ↓fX10_load_50, ↓fX10_load_53, ↓fX10_load_54, ↓fX10_load_55, ↓fX10_load_58, ↓fX10_load_59, ↓fX10_load_60, ↓fX10_load_61, ↓fX10_load_64, ↓fX10_load_67, ↓fX10_load_68, ↓fX10_load_71, ↓fX10_load_72, ↓fX10_load_73, ↓fX10_load_74, ↓fX10_load_77, ↓fX10_load_80, ↓fX10_load_81, ↓fX10_load_84, ↓fX10_load_85, ↓fX10_load_88, ↓fX10_load_91, ↓fX10_load_92, ↓fX10_load_95, ↓fX10_load_98, ↓fX10_load_99, ↓fX10_load_100, ↓fX10_load_103, ↓fX10_load_106, ↓fX10_load_107, ↓fX10_load_110, ↓fX10_load_113, ↓fX10_load_114, ↓fX10_load_116, ↓fX10_load_119, ↓fX10_load_122, ↓fX10_load_123, ↓fX10_load_126, ↓fX10_load_129, ↓fX10_load_130, ↓fX10_load_131, ↓fX10_load_132, ↓fX10_load_135, ↓fX10_load_136, ↓fX10_load_137, ↓fX10_load_140, ↓fX10_load_141, ↓fX10_load_144, ↓fX10_load_145, ↓fX10_load_148, ↓fX10_load_149, ↓fX10_load_152, ↓fX10_load_155, ↓fX10_load_156, ↓fX10_load_157, ↓fX10_load_160, ↓fX10_load_161, ↓fX10_load_162, ↓fX10_load_165, ↓fX10_load_168, ↓fX10_load_169, ↓fX10_load_170, ↓fX10_load_173, ↓fX10_load_176, ↓fX10_load_177, ↓fX10_load_180, ↓fX10_load_183, ↓fX10_load_184, ↓fX10_load_187, ↓fX10_load_188, ↓fX10_load_191, ↓fX10_load_194, ↓fX10_load_195, ↓fX10_load_197, ↓fX10_load_200, ↓fX10_load_201, ↓fX10_load_202, ↓fX10_load_203, ↓fX10_load_204, ↓fX10_load_207, ↓fX10_load_210, ↓fX10_load_211, ↓fX10_load_214, ↓fX10_load_215, ↓fX10_load_216, ↓fX10_load_219, ↓fX10_load_220, ↓fX10_load_221, ↓fX10_load_222, ↓fX10_load_225, ↓fX10_load_229, ↓fX10_load_230, ↓fX10_load_231, ↓fX10_load_232, ↓fX10_load_235, ↓fX10_load_236, ↓fX10_load_239, ↓fX10_load_240, ↓fX10_load_243, ↓fX10_load_244, ↓fX10_load_245, ↓fX10_load_248, ↓fX10_load_249, ↓fX10_load_250, ↓fX10_load_251, ↓fX10_load_254, ↓fX10_load_257, ↓fX10_load_258, ↓fX10_load_259, ↓fX10_load_262, ↓fX10_load_265, ↓fX10_load_266, ↓fX10_load_267, ↓fX10_load_270, ↓fX10_load_273, ↓fX10_load_274, ↓fX10_load_275, ↓fX10_load_278, ↓fX10_load_279, ↓fX10_load_282, h6, and_self, true_and, and_true, false_and, and_false, not_true_eq_false, not_false_eq_true, or_self, true_or, or_true, false_or, or_false, ite_not, Decidable.not_not, decide_eq_true_eq, Bool.not_true, Bool.not_false, Bool.false_eq_true, Bool.not_eq_true, n10, n20, n21, n30, n31, n32, n40, n41, n42, n43, ↓reduceIte]
  intro k
  induction k with
  | zero =>
    intro n' h1 h2
    have en : n' = K := by omega
    rw [en]
    exact stop
  | succ k ih =>
    intro n' h1 h2
    by_cases h6 : (n' : Int) < 7296
    · have er : cpG1 G (m + 1) (m + 2) 0 0 n' (m + 2) (n' : Int).toNat = G (m + 2) (0 + n') := by rw [cpG1_q (by omega), Int.toNat_natCast, Nat.zero_add]
      have ew : u2 (cpG1 G (m + 1) (m + 2) 0 0 n') (m + 1) (n' : Int).toNat (G (m + 2) (0 + n')) = cpG1 G (m + 1) (m + 2) 0 0 (n' + 1) := by
        rw [show (n' : Int).toNat = 0 + n' by omega]
        exact cp_step
      have ih' := ih (n' + 1) (by omega) (by omega)
      rw [← ew, Int.natCast_add] at ih'
      have ih'' : RK MX10_load 203 [.ref m, l1, .int (zi ((n' : Int) + 1))] [] (0, 0) _ Q = _ := ih'
      rw [fX10_load_203]
      simp (disch := first | assumption | exact c2_int _ | exact c2_ref _ | exact c2_jk | exact c2_null | omega | exact bI_r _ | exact bI_01 _) only [↓fX10_load_0, ↓fX10_load_1, ↓fX10_load_2, ↓fX10_load_3, ↓fX10_load_4, ↓fX10_load_5, ↓fX10_load_8, ↓fX10_load_9, ↓fX10_load_12, ↓fX10_load_15, ↓fX10_load_16, ↓fX10_load_19, ↓fX10_load_20, ↓fX10_load_23, ↓fX10_load_26, ↓fX10_load_27, ↓fX10_load_28, ↓fX10_load_29, ↓fX10_load_30, ↓fX10_load_33, ↓fX10_load_34, ↓fX10_load_35, ↓fX10_load_38, ↓fX10_load_39, ↓fX10_load_40, ↓fX10_load_43, ↓fX10_load_44, ↓fX10_load_45, ↓fX10_load_48, ↓fX10_load_49, ↓fX10_load_50, ↓fX10_load_53, ↓fX10_load_54, ↓fX10_load_55, ↓fX10_load_58, ↓fX10_load_59, ↓fX10_load_60, ↓fX10_load_61, ↓fX10_load_64, ↓fX10_load_67, ↓fX10_load_68, ↓fX10_load_71, ↓fX10_load_72, ↓fX10_load_73, ↓fX10_load_74, ↓fX10_load_77, ↓fX10_load_80, ↓fX10_load_81, ↓fX10_load_84, ↓fX10_load_85, ↓fX10_load_88, ↓fX10_load_91, ↓fX10_load_92, ↓fX10_load_95, ↓fX10_load_98, ↓fX10_load_99, ↓fX10_load_100, ↓fX10_load_103, ↓fX10_load_106, ↓fX10_load_107, ↓fX10_load_110, ↓fX10_load_113, ↓fX10_load_114, ↓fX10_load_116, ↓fX10_load_119, ↓fX10_load_122, ↓fX10_load_123, ↓fX10_load_126, ↓fX10_load_129, ↓fX10_load_130, ↓fX10_load_131, ↓fX10_load_132, ↓fX10_load_135, ↓fX10_load_136, ↓fX10_load_137, ↓fX10_load_140, ↓fX10_load_141, ↓fX10_load_144, ↓fX10_load_145, ↓fX10_load_148, ↓fX10_load_149, ↓fX10_load_152, ↓fX10_load_155, ↓fX10_load_156, ↓fX10_load_157, ↓fX10_load_160, ↓fX10_load_161, ↓fX10_load_162, ↓fX10_load_165, ↓fX10_load_168, ↓fX10_load_169, ↓fX10_load_170, ↓fX10_load_173, ↓fX10_load_176, ↓fX10_load_177, ↓fX10_load_180, ↓fX10_load_183, ↓fX10_load_184, ↓fX10_load_187, ↓fX10_load_188, ↓fX10_load_191, ↓fX10_load_194, ↓fX10_load_195, ↓fX10_load_197, ↓fX10_load_200, ↓fX10_load_201, ↓fX10_load_202, ↓fX10_load_204, ↓fX10_load_207, ↓fX10_load_210, ↓fX10_load_211, ↓fX10_load_214, ↓fX10_load_215, ↓fX10_load_216, ↓fX10_load_219, ↓fX10_load_220, ↓fX10_load_221, ↓fX10_load_222, ↓fX10_load_225, ↓fX10_load_229, ↓fX10_load_230, ↓fX10_load_231, ↓fX10_load_232, ↓fX10_load_235, ↓fX10_load_236, ↓fX10_load_239, ↓fX10_load_240, ↓fX10_load_243, ↓fX10_load_244, ↓fX10_load_245, ↓fX10_load_248, ↓fX10_load_249, ↓fX10_load_250, ↓fX10_load_251, ↓fX10_load_254, ↓fX10_load_257, ↓fX10_load_258, ↓fX10_load_259, ↓fX10_load_262, ↓fX10_load_265, ↓fX10_load_266, ↓fX10_load_267, ↓fX10_load_270, ↓fX10_load_273, ↓fX10_load_274, ↓fX10_load_275, ↓fX10_load_278, ↓fX10_load_279, ↓fX10_load_282, er, h6, and_self, true_and, and_true, false_and, and_false, not_true_eq_false, not_false_eq_true, or_self, true_or, or_true, false_or, or_false, ite_not, Decidable.not_not, decide_eq_true_eq, Bool.not_true, Bool.not_false, Bool.false_eq_true, Bool.not_eq_true, n10, n20, n21, n30, n31, n32, n40, n41, n42, n43, ↓reduceIte]
      exact ih''
    · have en : n' = K := by omega
      rw [en]
      exact stop
theorem load_l3 (hm : shM E r m) {K : Nat} (hK : K = 33) {l1 : Value} (hl1 : c2 l1 = false) : ∀ (k n' : Nat), K - n' ≤ k → n' ≤ K → RK MX10_load 230 [.ref m, l1, .int (zi (n' : Int))] [] (0, 0) (E, zg (cpG1 G (m + 5) (m + 6) 0 0 n'), zk L, r) Q = RK MX10_load 257 [.ref m, l1, .int (zi (K : Int))] [] (0, 0) (E, zg (cpG1 G (m + 5) (m + 6) 0 0 K), zk L, r) Q := by
  have m0 := hm.1
  obtain ⟨ka5, la5, ra5⟩ := hm.2.2.2.2.2.1
  obtain ⟨ka6, la6, ra6⟩ := hm.2.2.2.2.2.2.1
  have hl : ((le E (m + 5) : Nat) : Int) = 33 := by rw [la5]; rfl
  have stop : RK MX10_load 230 [.ref m, l1, .int (zi (K : Int))] [] (0, 0) (E, zg (cpG1 G (m + 5) (m + 6) 0 0 K), zk L, r) Q = RK MX10_load 257 [.ref m, l1, .int (zi (K : Int))] [] (0, 0) (E, zg (cpG1 G (m + 5) (m + 6) 0 0 K), zk L, r) Q := by
    have h6 : ¬ (K : Int) < 33 := by omega
    simp (disch := first | assumption | exact c2_int _ | exact c2_ref _ | exact c2_jk | exact c2_null | omega | exact bI_r _ | exact bI_01 _) only [↓fX10_load_0, ↓fX10_load_1, ↓fX10_load_2, ↓fX10_load_3, ↓fX10_load_4, ↓fX10_load_5, ↓fX10_load_8, ↓fX10_load_9, ↓fX10_load_12, ↓fX10_load_15, ↓fX10_load_16, ↓fX10_load_19, ↓fX10_load_20, ↓fX10_load_23, ↓fX10_load_26, ↓fX10_load_27, ↓fX10_load_28, ↓fX10_load_29, ↓fX10_load_30, ↓fX10_load_33, ↓fX10_load_34, ↓fX10_load_35, ↓fX10_load_38, ↓fX10_load_39, ↓fX10_load_40, ↓fX10_load_43, ↓fX10_load_44, ↓fX10_load_45, ↓fX10_load_48, ↓fX10_load_49, ↓fX10_load_50, ↓fX10_load_53, ↓fX10_load_54, ↓fX10_load_55, ↓fX10_load_58, ↓fX10_load_59, ↓fX10_load_60, ↓fX10_load_61, ↓fX10_load_64, ↓fX10_load_67, ↓fX10_load_68, ↓fX10_load_71, ↓fX10_load_72, ↓fX10_load_73, ↓fX10_load_74, ↓fX10_load_77, ↓fX10_load_80, ↓fX10_load_81, ↓fX10_load_84, ↓fX10_load_85, ↓fX10_load_88, ↓fX10_load_91, ↓fX10_load_92, ↓fX10_load_95, ↓fX10_load_98, ↓fX10_load_99, ↓fX10_load_100, ↓fX10_load_103, ↓fX10_load_106, ↓fX10_load_107, ↓fX10_load_110, ↓fX10_load_113, ↓fX10_load_114, ↓fX10_load_116, ↓fX10_load_119, ↓fX10_load_122, ↓fX10_load_123, ↓fX10_load_126, ↓fX10_load_129, ↓fX10_load_130, ↓fX10_load_131, ↓fX10_load_132, ↓fX10_load_135, ↓fX10_load_136, ↓fX10_load_137, ↓fX10_load_140, ↓fX10_load_141, ↓fX10_load_144, ↓fX10_load_145, ↓fX10_load_148, ↓fX10_load_149, ↓fX10_load_152, ↓fX10_load_155, ↓fX10_load_156, ↓fX10_load_157, ↓fX10_load_160, ↓fX10_load_161, ↓fX10_load_162, ↓fX10_load_165, ↓fX10_load_168, ↓fX10_load_169, ↓fX10_load_170, ↓fX10_load_173, ↓fX10_load_176, ↓fX10_load_177, ↓fX10_load_180, ↓fX10_load_183, ↓fX10_load_184, ↓fX10_load_187, ↓fX10_load_188, ↓fX10_load_191, ↓fX10_load_194, ↓fX10_load_195, ↓fX10_load_197, ↓fX10_load_200, ↓fX10_load_201, ↓fX10_load_202, ↓fX10_load_203, ↓fX10_load_204, ↓fX10_load_207, ↓fX10_load_210, ↓fX10_load_211, ↓fX10_load_214, ↓fX10_load_215, ↓fX10_load_216, ↓fX10_load_219, ↓fX10_load_220, ↓fX10_load_221, ↓fX10_load_222, ↓fX10_load_225, ↓fX10_load_228, ↓fX10_load_229, ↓fX10_load_230, ↓fX10_load_231, ↓fX10_load_232, ↓fX10_load_235, ↓fX10_load_236, ↓fX10_load_239, ↓fX10_load_240, ↓fX10_load_243, ↓fX10_load_244, ↓fX10_load_245, ↓fX10_load_248, ↓fX10_load_249, ↓fX10_load_250, ↓fX10_load_251, ↓fX10_load_254, ↓fX10_load_258, ↓fX10_load_259, ↓fX10_load_262, ↓fX10_load_265, ↓fX10_load_266, ↓fX10_load_267, ↓fX10_load_270, ↓fX10_load_273, ↓fX10_load_274, ↓fX10_load_275, ↓fX10_load_278, ↓fX10_load_279, ↓fX10_load_282, hl, h6, and_self, true_and, and_true, false_and, and_false, not_true_eq_false, not_false_eq_true, or_self, true_or, or_true, false_or, or_false, ite_not, Decidable.not_not, decide_eq_true_eq, Bool.not_true, Bool.not_false, Bool.false_eq_true, Bool.not_eq_true, n10, n20, n21, n30, n31, n32, n40, n41, n42, n43, ↓reduceIte]
  intro k
  induction k with
  | zero =>
    intro n' h1 h2
    have en : n' = K := by omega
    rw [en]
    exact stop
  | succ k ih =>
    intro n' h1 h2
    by_cases h6 : (n' : Int) < 33
    · have er : cpG1 G (m + 5) (m + 6) 0 0 n' (m + 6) (n' : Int).toNat = G (m + 6) (0 + n') := by rw [cpG1_q (by omega), Int.toNat_natCast, Nat.zero_add]
      have ew : u2 (cpG1 G (m + 5) (m + 6) 0 0 n') (m + 5) (n' : Int).toNat (G (m + 6) (0 + n')) = cpG1 G (m + 5) (m + 6) 0 0 (n' + 1) := by
        rw [show (n' : Int).toNat = 0 + n' by omega]
        exact cp_step
      have ih' := ih (n' + 1) (by omega) (by omega)
      rw [← ew, Int.natCast_add] at ih'
      have ih'' : RK MX10_load 230 [.ref m, l1, .int (zi ((n' : Int) + 1))] [] (0, 0) _ Q = _ := ih'
      rw [fX10_load_230]
      simp (disch := first | assumption | exact c2_int _ | exact c2_ref _ | exact c2_jk | exact c2_null | omega | exact bI_r _ | exact bI_01 _) only [↓fX10_load_0, ↓fX10_load_1, ↓fX10_load_2, ↓fX10_load_3, ↓fX10_load_4, ↓fX10_load_5, ↓fX10_load_8, ↓fX10_load_9, ↓fX10_load_12, ↓fX10_load_15, ↓fX10_load_16, ↓fX10_load_19, ↓fX10_load_20, ↓fX10_load_23, ↓fX10_load_26, ↓fX10_load_27, ↓fX10_load_28, ↓fX10_load_29, ↓fX10_load_30, ↓fX10_load_33, ↓fX10_load_34, ↓fX10_load_35, ↓fX10_load_38, ↓fX10_load_39, ↓fX10_load_40, ↓fX10_load_43, ↓fX10_load_44, ↓fX10_load_45, ↓fX10_load_48, ↓fX10_load_49, ↓fX10_load_50, ↓fX10_load_53, ↓fX10_load_54, ↓fX10_load_55, ↓fX10_load_58, ↓fX10_load_59, ↓fX10_load_60, ↓fX10_load_61, ↓fX10_load_64, ↓fX10_load_67, ↓fX10_load_68, ↓fX10_load_71, ↓fX10_load_72, ↓fX10_load_73, ↓fX10_load_74, ↓fX10_load_77, ↓fX10_load_80, ↓fX10_load_81, ↓fX10_load_84, ↓fX10_load_85, ↓fX10_load_88, ↓fX10_load_91, ↓fX10_load_92, ↓fX10_load_95, ↓fX10_load_98, ↓fX10_load_99, ↓fX10_load_100, ↓fX10_load_103, ↓fX10_load_106, ↓fX10_load_107, ↓fX10_load_110, ↓fX10_load_113, ↓fX10_load_114, ↓fX10_load_116, ↓fX10_load_119, ↓fX10_load_122, ↓fX10_load_123, ↓fX10_load_126, ↓fX10_load_129, ↓fX10_load_130, ↓fX10_load_131, ↓fX10_load_132, ↓fX10_load_135, ↓fX10_load_136, ↓fX10_load_137, ↓fX10_load_140, ↓fX10_load_141, ↓fX10_load_144, ↓fX10_load_145, ↓fX10_load_148, ↓fX10_load_149, ↓fX10_load_152, ↓fX10_load_155, ↓fX10_load_156, ↓fX10_load_157, ↓fX10_load_160, ↓fX10_load_161, ↓fX10_load_162, ↓fX10_load_165, ↓fX10_load_168, ↓fX10_load_169, ↓fX10_load_170, ↓fX10_load_173, ↓fX10_load_176, ↓fX10_load_177, ↓fX10_load_180, ↓fX10_load_183, ↓fX10_load_184, ↓fX10_load_187, ↓fX10_load_188, ↓fX10_load_191, ↓fX10_load_194, ↓fX10_load_195, ↓fX10_load_197, ↓fX10_load_200, ↓fX10_load_201, ↓fX10_load_202, ↓fX10_load_203, ↓fX10_load_204, ↓fX10_load_207, ↓fX10_load_210, ↓fX10_load_211, ↓fX10_load_214, ↓fX10_load_215, ↓fX10_load_216, ↓fX10_load_219, ↓fX10_load_220, ↓fX10_load_221, ↓fX10_load_222, ↓fX10_load_225, ↓fX10_load_228, ↓fX10_load_229, ↓fX10_load_231, ↓fX10_load_232, ↓fX10_load_235, ↓fX10_load_236, ↓fX10_load_239, ↓fX10_load_240, ↓fX10_load_243, ↓fX10_load_244, ↓fX10_load_245, ↓fX10_load_248, ↓fX10_load_249, ↓fX10_load_250, ↓fX10_load_251, ↓fX10_load_254, ↓fX10_load_258, ↓fX10_load_259, ↓fX10_load_262, ↓fX10_load_265, ↓fX10_load_266, ↓fX10_load_267, ↓fX10_load_270, ↓fX10_load_273, ↓fX10_load_274, ↓fX10_load_275, ↓fX10_load_278, ↓fX10_load_279, ↓fX10_load_282, hl, er, h6, and_self, true_and, and_true, false_and, and_false, not_true_eq_false, not_false_eq_true, or_self, true_or, or_true, false_or, or_false, ite_not, Decidable.not_not, decide_eq_true_eq, Bool.not_true, Bool.not_false, Bool.false_eq_true, Bool.not_eq_true, n10, n20, n21, n30, n31, n32, n40, n41, n42, n43, ↓reduceIte]
      exact ih''
    · have en : n' = K := by omega
      rw [en]
      exact stop
/-- the sign behind a line, taken -/
theorem ld_sign (hm : shM E r m) (hS : rdS G L m B n st) {l1 l2 : Value} (hl1 : c2 l1 = false) (hl2 : c2 l2 = false) : ∃ G' L', prW G L G' L' m ∧ rdS G' L' m B n (fiS B n st) ∧ ∀ Q, RK MX10_load 135 [.ref m, l1, l2] [] (0, 0) (E, zg G, zk L, r) Q = RK MX10_load 84 [.ref m, l1, l2] [] (0, 0) (E, zg G', zk L', r) Q := by
  have m0 := hm.1
  have key : ∃ b : Int, (b = 0 ∨ b = 1) ∧ (b = 1 ↔ G m 25 = 3) ∧ ∀ T, st = .ok T → b = bI (T.1 = 4) := by
    have h25 : ∀ T, st = .ok T → (G m 25 = 3 ↔ T.1 = 4) := fun T hT => by
      subst hT
      obtain ⟨t1, t2, t3, t4, t4b, t6, t7, t8⟩ := id hS
      rw [t7.2.1]
      exact (srM_b t8.1).2.2.2.2.1
    by_cases q : G m 25 = 3
    · exact ⟨1, Or.inr rfl, ⟨fun _ => q, fun _ => rfl⟩, fun T hT => (bI_p ((h25 T hT).mp q)).symm⟩
    · exact ⟨0, Or.inl rfl, ⟨fun z => absurd z (by decide), fun z => absurd z q⟩, fun T hT => (bI_n (fun z => q ((h25 T hT).mpr z))).symm⟩
  obtain ⟨b, d1, d2, d3⟩ := key
  have hb : b = 1 → ∀ T, st = .ok T → T.1 = 2 ∨ T.1 = 3 ∨ T.1 = 4 := fun z T hT => by
    have h3 := d3 T hT
    by_cases q : T.1 = 4
    · exact Or.inr (Or.inr q)
    · rw [bI_n q] at h3
      omega
  obtain ⟨G', L', f1, s1, e1⟩ := m_takes hm hS d1 hb
  have es : nxS B n (mustS st b 2) = fiS B n st := by
    cases st with
    | error e => rfl
    | ok T => rw [d3 T rfl]; rfl
  rw [es] at s1
  have b25 := hS.2.2.2.2.1
  refine ⟨G', L', f1, s1, fun Q => ?_⟩
  have hh : RK MX10_load 135 [.ref m, l1, l2] [] (0, 0) (E, zg G, zk L, r) Q = RK MX10_load 149 [.ref m, l1, l2] [.int (zi b), .ref m] (0, 0) (E, zg G, zk L, r) Q := by
    rw [fX10_load_135]
    by_cases q : G m 25 = 3
    · have e := d2.mpr q
      subst e
      simp (disch := first | assumption | exact c2_int _ | exact c2_ref _ | exact c2_jk | exact c2_null | omega | exact bI_r _ | exact bI_01 _) only [↓fX10_load_0, ↓fX10_load_1, ↓fX10_load_2, ↓fX10_load_3, ↓fX10_load_4, ↓fX10_load_5, ↓fX10_load_8, ↓fX10_load_9, ↓fX10_load_12, ↓fX10_load_15, ↓fX10_load_16, ↓fX10_load_19, ↓fX10_load_20, ↓fX10_load_23, ↓fX10_load_26, ↓fX10_load_27, ↓fX10_load_28, ↓fX10_load_29, ↓fX10_load_30, ↓fX10_load_33, ↓fX10_load_34, ↓fX10_load_35, ↓fX10_load_38, ↓fX10_load_39, ↓fX10_load_40, ↓fX10_load_43, ↓fX10_load_44, ↓fX10_load_45, ↓fX10_load_48, ↓fX10_load_49, ↓fX10_load_50, ↓fX10_load_53, ↓fX10_load_54, ↓fX10_load_55, ↓fX10_load_58, ↓fX10_load_59, ↓fX10_load_60, ↓fX10_load_61, ↓fX10_load_64, ↓fX10_load_67, ↓fX10_load_68, ↓fX10_load_71, ↓fX10_load_72, ↓fX10_load_73, ↓fX10_load_74, ↓fX10_load_77, ↓fX10_load_80, ↓fX10_load_81, ↓fX10_load_84, ↓fX10_load_85, ↓fX10_load_88, ↓fX10_load_91, ↓fX10_load_92, ↓fX10_load_95, ↓fX10_load_98, ↓fX10_load_99, ↓fX10_load_100, ↓fX10_load_103, ↓fX10_load_106, ↓fX10_load_107, ↓fX10_load_110, ↓fX10_load_113, ↓fX10_load_114, ↓fX10_load_116, ↓fX10_load_119, ↓fX10_load_122, ↓fX10_load_123, ↓fX10_load_126, ↓fX10_load_129, ↓fX10_load_130, ↓fX10_load_131, ↓fX10_load_132, ↓fX10_load_136, ↓fX10_load_137, ↓fX10_load_140, ↓fX10_load_141, ↓fX10_load_144, ↓fX10_load_145, ↓fX10_load_148, ↓fX10_load_152, ↓fX10_load_155, ↓fX10_load_156, ↓fX10_load_157, ↓fX10_load_160, ↓fX10_load_161, ↓fX10_load_162, ↓fX10_load_165, ↓fX10_load_168, ↓fX10_load_169, ↓fX10_load_170, ↓fX10_load_173, ↓fX10_load_176, ↓fX10_load_177, ↓fX10_load_180, ↓fX10_load_183, ↓fX10_load_184, ↓fX10_load_187, ↓fX10_load_188, ↓fX10_load_191, ↓fX10_load_194, ↓fX10_load_195, ↓fX10_load_197, ↓fX10_load_200, ↓fX10_load_201, ↓fX10_load_202, ↓fX10_load_203, ↓fX10_load_204, ↓fX10_load_207, ↓fX10_load_210, ↓fX10_load_211, ↓fX10_load_214, ↓fX10_load_215, ↓fX10_load_216, ↓fX10_load_219, ↓fX10_load_220, ↓fX10_load_221, ↓fX10_load_222, ↓fX10_load_225, ↓fX10_load_228, ↓fX10_load_229, ↓fX10_load_230, ↓fX10_load_231, ↓fX10_load_232, ↓fX10_load_235, ↓fX10_load_236, ↓fX10_load_239, ↓fX10_load_240, ↓fX10_load_243, ↓fX10_load_244, ↓fX10_load_245, ↓fX10_load_248, ↓fX10_load_249, ↓fX10_load_250, ↓fX10_load_251, ↓fX10_load_254, ↓fX10_load_257, ↓fX10_load_258, ↓fX10_load_259, ↓fX10_load_262, ↓fX10_load_265, ↓fX10_load_266, ↓fX10_load_267, ↓fX10_load_270, ↓fX10_load_273, ↓fX10_load_274, ↓fX10_load_275, ↓fX10_load_278, ↓fX10_load_279, ↓fX10_load_282, q, and_self, true_and, and_true, false_and, and_false, not_true_eq_false, not_false_eq_true, or_self, true_or, or_true, false_or, or_false, ite_not, Decidable.not_not, decide_eq_true_eq, Bool.not_true, Bool.not_false, Bool.false_eq_true, Bool.not_eq_true, n10, n20, n21, n30, n31, n32, n40, n41, n42, n43, ↓reduceIte]
    · have e : b = 0 := by
        rcases d1 with z | z
        · exact z
        · exact absurd (d2.mp z) q
      subst e
      simp (disch := first | assumption | exact c2_int _ | exact c2_ref _ | exact c2_jk | exact c2_null | omega | exact bI_r _ | exact bI_01 _) only [↓fX10_load_0, ↓fX10_load_1, ↓fX10_load_2, ↓fX10_load_3, ↓fX10_load_4, ↓fX10_load_5, ↓fX10_load_8, ↓fX10_load_9, ↓fX10_load_12, ↓fX10_load_15, ↓fX10_load_16, ↓fX10_load_19, ↓fX10_load_20, ↓fX10_load_23, ↓fX10_load_26, ↓fX10_load_27, ↓fX10_load_28, ↓fX10_load_29, ↓fX10_load_30, ↓fX10_load_33, ↓fX10_load_34, ↓fX10_load_35, ↓fX10_load_38, ↓fX10_load_39, ↓fX10_load_40, ↓fX10_load_43, ↓fX10_load_44, ↓fX10_load_45, ↓fX10_load_48, ↓fX10_load_49, ↓fX10_load_50, ↓fX10_load_53, ↓fX10_load_54, ↓fX10_load_55, ↓fX10_load_58, ↓fX10_load_59, ↓fX10_load_60, ↓fX10_load_61, ↓fX10_load_64, ↓fX10_load_67, ↓fX10_load_68, ↓fX10_load_71, ↓fX10_load_72, ↓fX10_load_73, ↓fX10_load_74, ↓fX10_load_77, ↓fX10_load_80, ↓fX10_load_81, ↓fX10_load_84, ↓fX10_load_85, ↓fX10_load_88, ↓fX10_load_91, ↓fX10_load_92, ↓fX10_load_95, ↓fX10_load_98, ↓fX10_load_99, ↓fX10_load_100, ↓fX10_load_103, ↓fX10_load_106, ↓fX10_load_107, ↓fX10_load_110, ↓fX10_load_113, ↓fX10_load_114, ↓fX10_load_116, ↓fX10_load_119, ↓fX10_load_122, ↓fX10_load_123, ↓fX10_load_126, ↓fX10_load_129, ↓fX10_load_130, ↓fX10_load_131, ↓fX10_load_132, ↓fX10_load_136, ↓fX10_load_137, ↓fX10_load_140, ↓fX10_load_141, ↓fX10_load_144, ↓fX10_load_145, ↓fX10_load_148, ↓fX10_load_152, ↓fX10_load_155, ↓fX10_load_156, ↓fX10_load_157, ↓fX10_load_160, ↓fX10_load_161, ↓fX10_load_162, ↓fX10_load_165, ↓fX10_load_168, ↓fX10_load_169, ↓fX10_load_170, ↓fX10_load_173, ↓fX10_load_176, ↓fX10_load_177, ↓fX10_load_180, ↓fX10_load_183, ↓fX10_load_184, ↓fX10_load_187, ↓fX10_load_188, ↓fX10_load_191, ↓fX10_load_194, ↓fX10_load_195, ↓fX10_load_197, ↓fX10_load_200, ↓fX10_load_201, ↓fX10_load_202, ↓fX10_load_203, ↓fX10_load_204, ↓fX10_load_207, ↓fX10_load_210, ↓fX10_load_211, ↓fX10_load_214, ↓fX10_load_215, ↓fX10_load_216, ↓fX10_load_219, ↓fX10_load_220, ↓fX10_load_221, ↓fX10_load_222, ↓fX10_load_225, ↓fX10_load_228, ↓fX10_load_229, ↓fX10_load_230, ↓fX10_load_231, ↓fX10_load_232, ↓fX10_load_235, ↓fX10_load_236, ↓fX10_load_239, ↓fX10_load_240, ↓fX10_load_243, ↓fX10_load_244, ↓fX10_load_245, ↓fX10_load_248, ↓fX10_load_249, ↓fX10_load_250, ↓fX10_load_251, ↓fX10_load_254, ↓fX10_load_257, ↓fX10_load_258, ↓fX10_load_259, ↓fX10_load_262, ↓fX10_load_265, ↓fX10_load_266, ↓fX10_load_267, ↓fX10_load_270, ↓fX10_load_273, ↓fX10_load_274, ↓fX10_load_275, ↓fX10_load_278, ↓fX10_load_279, ↓fX10_load_282, q, and_self, true_and, and_true, false_and, and_false, not_true_eq_false, not_false_eq_true, or_self, true_or, or_true, false_or, or_false, ite_not, Decidable.not_not, decide_eq_true_eq, Bool.not_true, Bool.not_false, Bool.false_eq_true, Bool.not_eq_true, n10, n20, n21, n30, n31, n32, n40, n41, n42, n43, ↓reduceIte]
  rw [hh]
  simp (disch := first | assumption | exact c2_int _ | exact c2_ref _ | exact c2_jk | exact c2_null | omega | exact bI_r _ | exact bI_01 _) only [↓fX10_load_0, ↓fX10_load_1, ↓fX10_load_2, ↓fX10_load_3, ↓fX10_load_4, ↓fX10_load_5, ↓fX10_load_8, ↓fX10_load_9, ↓fX10_load_12, ↓fX10_load_15, ↓fX10_load_16, ↓fX10_load_19, ↓fX10_load_20, ↓fX10_load_23, ↓fX10_load_26, ↓fX10_load_27, ↓fX10_load_28, ↓fX10_load_29, ↓fX10_load_30, ↓fX10_load_33, ↓fX10_load_34, ↓fX10_load_35, ↓fX10_load_38, ↓fX10_load_39, ↓fX10_load_40, ↓fX10_load_43, ↓fX10_load_44, ↓fX10_load_45, ↓fX10_load_48, ↓fX10_load_49, ↓fX10_load_50, ↓fX10_load_53, ↓fX10_load_54, ↓fX10_load_55, ↓fX10_load_58, ↓fX10_load_59, ↓fX10_load_60, ↓fX10_load_61, ↓fX10_load_64, ↓fX10_load_67, ↓fX10_load_68, ↓fX10_load_71, ↓fX10_load_72, ↓fX10_load_73, ↓fX10_load_74, ↓fX10_load_77, ↓fX10_load_80, ↓fX10_load_81, ↓fX10_load_85, ↓fX10_load_88, ↓fX10_load_91, ↓fX10_load_92, ↓fX10_load_95, ↓fX10_load_98, ↓fX10_load_99, ↓fX10_load_100, ↓fX10_load_103, ↓fX10_load_106, ↓fX10_load_107, ↓fX10_load_110, ↓fX10_load_113, ↓fX10_load_114, ↓fX10_load_116, ↓fX10_load_119, ↓fX10_load_122, ↓fX10_load_123, ↓fX10_load_126, ↓fX10_load_129, ↓fX10_load_130, ↓fX10_load_131, ↓fX10_load_132, ↓fX10_load_136, ↓fX10_load_137, ↓fX10_load_140, ↓fX10_load_141, ↓fX10_load_144, ↓fX10_load_145, ↓fX10_load_148, ↓fX10_load_149, ↓fX10_load_152, ↓fX10_load_155, ↓fX10_load_156, ↓fX10_load_157, ↓fX10_load_160, ↓fX10_load_161, ↓fX10_load_162, ↓fX10_load_165, ↓fX10_load_168, ↓fX10_load_169, ↓fX10_load_170, ↓fX10_load_173, ↓fX10_load_176, ↓fX10_load_177, ↓fX10_load_180, ↓fX10_load_183, ↓fX10_load_184, ↓fX10_load_187, ↓fX10_load_188, ↓fX10_load_191, ↓fX10_load_194, ↓fX10_load_195, ↓fX10_load_197, ↓fX10_load_200, ↓fX10_load_201, ↓fX10_load_202, ↓fX10_load_203, ↓fX10_load_204, ↓fX10_load_207, ↓fX10_load_210, ↓fX10_load_211, ↓fX10_load_214, ↓fX10_load_215, ↓fX10_load_216, ↓fX10_load_219, ↓fX10_load_220, ↓fX10_load_221, ↓fX10_load_222, ↓fX10_load_225, ↓fX10_load_228, ↓fX10_load_229, ↓fX10_load_230, ↓fX10_load_231, ↓fX10_load_232, ↓fX10_load_235, ↓fX10_load_236, ↓fX10_load_239, ↓fX10_load_240, ↓fX10_load_243, ↓fX10_load_244, ↓fX10_load_245, ↓fX10_load_248, ↓fX10_load_249, ↓fX10_load_250, ↓fX10_load_251, ↓fX10_load_254, ↓fX10_load_257, ↓fX10_load_258, ↓fX10_load_259, ↓fX10_load_262, ↓fX10_load_265, ↓fX10_load_266, ↓fX10_load_267, ↓fX10_load_270, ↓fX10_load_273, ↓fX10_load_274, ↓fX10_load_275, ↓fX10_load_278, ↓fX10_load_279, ↓fX10_load_282, ↓e1, and_self, true_and, and_true, false_and, and_false, not_true_eq_false, not_false_eq_true, or_self, true_or, or_true, false_or, or_false, ite_not, Decidable.not_not, decide_eq_true_eq, Bool.not_true, Bool.not_false, Bool.false_eq_true, Bool.not_eq_true, n10, n20, n21, n30, n31, n32, n40, n41, n42, n43, ↓reduceIte]
theorem RHM_Q (h : RHM G m cs cl σ ln lv) (h28 : G1 m 28 = G m 28) (h29 : G1 m 29 = G m 29) (h2 : G1 (m + 2) = G (m + 2)) (h6 : G1 (m + 6) = G (m + 6)) : RHM G1 m cs cl σ ln lv := by
  unfold RHM at h ⊢
  rw [h28, h29, h2, h6]
  exact h
theorem prQ_W (h : prW G L G1 L1 m) : prQ G L G1 L1 m := ⟨fun x a _ _ => h.1 x a, fun j a _ _ _ => h.2.1 j a, fun x a _ => h.2.2.1 x a, h.2.2.2⟩
theorem RHM_W (h : RHM G m cs cl σ ln lv) (f : prW G L G1 L1 m) : RHM G1 m cs cl σ ln lv := RHM_Q h (f.2.1 28 (by decide)) (f.2.1 29 (by decide)) (f.1 _ (by omega)) (f.1 _ (by omega))
theorem isT_2 {w : List Int} (h : isT B T w = true) : T.1 = 2 := (of_decide_eq_true h).1
/-- line after line -/
theorem ld_text (hm : shM E r m) {l1 l2 : Value} (hl1 : c2 l1 = false) (hl2 : c2 l2 = false) : ∀ (k : Nat) (f g : Nat → Int) (cs cl : Nat) (σ : Nat → Nat → Int) (ln : Nat → Nat) (lv : Nat → Nat → Int) (T : TkT) (G L : Nat → Nat → Int), kWd L m → rdS G L m B n (.ok T) → nmR G L m B f g (cs + cl) → RHM G m cs cl σ ln lv → SE T → n + 1 - T.2.1 ≤ k →
    (∃ cs' cl' σ' ln' lv' G' L' T', rdText B n k f g cs cl σ ln lv T = .ok (cs', cl', σ', ln', lv') ∧ prQ G L G' L' m ∧ rdS G' L' m B n (.ok T') ∧ RHM G' m cs' cl' σ' ln' lv' ∧ ∀ Q, RK MX10_load 84 [.ref m, l1, l2] [] (0, 0) (E, zg G, zk L, r) Q = RK MX10_load 155 [.ref m, l1, l2] [] (0, 0) (E, zg G', zk L', r) Q) ∨
    (∃ (e : ER) (G' L' : Nat → Nat → Int), rdText B n k f g cs cl σ ln lv T = .error e ∧ prQ G L G' L' m ∧ rdS G' L' m B n (.error e) ∧ ∀ Q, RK MX10_load 84 [.ref m, l1, l2] [] (0, 0) (E, zg G, zk L, r) Q = RK MX10_load 155 [.ref m, l1, l2] [] (0, 0) (E, zg G', zk L', r) Q) := by
  have m0 := hm.1
  have fin : ∀ (e : ER) (G L : Nat → Nat → Int), rdS G L m B n (.error e) → ∀ Q, RK MX10_load 84 [.ref m, l1, l2] [] (0, 0) (E, zg G, zk L, r) Q = RK MX10_load 155 [.ref m, l1, l2] [] (0, 0) (E, zg G, zk L, r) Q := fun e G L hS Q => by
    have g1 : ∀ Q, RK MX10_good 0 [.ref m] [] (0, 0) (E, zg G, zk L, r) Q = Q (E, zg G, zk L, r) (.int (zi 0)) := fun Q => m_good hm hS
    rw [fX10_load_84]
    simp (disch := first | assumption | exact c2_int _ | exact c2_ref _ | exact c2_jk | exact c2_null | omega | exact bI_r _ | exact bI_01 _) only [↓fX10_load_0, ↓fX10_load_1, ↓fX10_load_2, ↓fX10_load_3, ↓fX10_load_4, ↓fX10_load_5, ↓fX10_load_8, ↓fX10_load_9, ↓fX10_load_12, ↓fX10_load_15, ↓fX10_load_16, ↓fX10_load_19, ↓fX10_load_20, ↓fX10_load_23, ↓fX10_load_26, ↓fX10_load_27, ↓fX10_load_28, ↓fX10_load_29, ↓fX10_load_30, ↓fX10_load_33, ↓fX10_load_34, ↓fX10_load_35, ↓fX10_load_38, ↓fX10_load_39, ↓fX10_load_40, ↓fX10_load_43, ↓fX10_load_44, ↓fX10_load_45, ↓fX10_load_48, ↓fX10_load_49, ↓fX10_load_50, ↓fX10_load_53, ↓fX10_load_54, ↓fX10_load_55, ↓fX10_load_58, ↓fX10_load_59, ↓fX10_load_60, ↓fX10_load_61, ↓fX10_load_64, ↓fX10_load_67, ↓fX10_load_68, ↓fX10_load_71, ↓fX10_load_72, ↓fX10_load_73, ↓fX10_load_74, ↓fX10_load_77, ↓fX10_load_80, ↓fX10_load_81, ↓fX10_load_85, ↓fX10_load_88, ↓fX10_load_91, ↓fX10_load_92, ↓fX10_load_95, ↓fX10_load_98, ↓fX10_load_99, ↓fX10_load_100, ↓fX10_load_103, ↓fX10_load_106, ↓fX10_load_107, ↓fX10_load_110, ↓fX10_load_113, ↓fX10_load_114, ↓fX10_load_116, ↓fX10_load_119, ↓fX10_load_122, ↓fX10_load_123, ↓fX10_load_126, ↓fX10_load_129, ↓fX10_load_130, ↓fX10_load_131, ↓fX10_load_132, ↓fX10_load_135, ↓fX10_load_136, ↓fX10_load_137, ↓fX10_load_140, ↓fX10_load_141, ↓fX10_load_144, ↓fX10_load_145, ↓fX10_load_148, ↓fX10_load_149, ↓fX10_load_152, ↓fX10_load_156, ↓fX10_load_157, ↓fX10_load_160, ↓fX10_load_161, ↓fX10_load_162, ↓fX10_load_165, ↓fX10_load_168, ↓fX10_load_169, ↓fX10_load_170, ↓fX10_load_173, ↓fX10_load_176, ↓fX10_load_177, ↓fX10_load_180, ↓fX10_load_183, ↓fX10_load_184, ↓fX10_load_187, ↓fX10_load_188, ↓fX10_load_191, ↓fX10_load_194, ↓fX10_load_195, ↓fX10_load_197, ↓fX10_load_200, ↓fX10_load_201, ↓fX10_load_202, ↓fX10_load_203, ↓fX10_load_204, ↓fX10_load_207, ↓fX10_load_210, ↓fX10_load_211, ↓fX10_load_214, ↓fX10_load_215, ↓fX10_load_216, ↓fX10_load_219, ↓fX10_load_220, ↓fX10_load_221, ↓fX10_load_222, ↓fX10_load_225, ↓fX10_load_228, ↓fX10_load_229, ↓fX10_load_230, ↓fX10_load_231, ↓fX10_load_232, ↓fX10_load_235, ↓fX10_load_236, ↓fX10_load_239, ↓fX10_load_240, ↓fX10_load_243, ↓fX10_load_244, ↓fX10_load_245, ↓fX10_load_248, ↓fX10_load_249, ↓fX10_load_250, ↓fX10_load_251, ↓fX10_load_254, ↓fX10_load_257, ↓fX10_load_258, ↓fX10_load_259, ↓fX10_load_262, ↓fX10_load_265, ↓fX10_load_266, ↓fX10_load_267, ↓fX10_load_270, ↓fX10_load_273, ↓fX10_load_274, ↓fX10_load_275, ↓fX10_load_278, ↓fX10_load_279, ↓fX10_load_282, ↓g1, and_self, true_and, and_true, false_and, and_false, not_true_eq_false, not_false_eq_true, or_self, true_or, or_true, false_or, or_false, ite_not, Decidable.not_not, decide_eq_true_eq, Bool.not_true, Bool.not_false, Bool.false_eq_true, Bool.not_eq_true, n10, n20, n21, n30, n31, n32, n40, n41, n42, n43, ↓reduceIte]
  intro k
  induction k with
  | zero =>
    intro f g cs cl σ ln lv T G L hK hS hN hh hse h1
    obtain ⟨t1, t2, t3, t4, t4b, t6, t7, t8⟩ := id hS
    have := t8.2.1
    omega
  | succ k ih =>
    intro f g cs cl σ ln lv T G L hK hS hN hh hse h1
    obtain ⟨t1, t2, t3, t4, t4b, t6, t7, t8⟩ := id hS
    have sb := srM_b t8.1
    have e25 := t7.2.1
    have g1 : ∀ Q, RK MX10_good 0 [.ref m] [] (0, 0) (E, zg G, zk L, r) Q = Q (E, zg G, zk L, r) (.int (zi 1)) := fun Q => m_good hm hS
    obtain ⟨⟨hc1, hc2⟩, ⟨hc3, hc4⟩, hs, hz, hls⟩ := id hh
    have i0 : ∀ Q, RK MX10_isWord 0 [.ref m, .int (zi 0)] [] (0, 0) (E, zg G, zk L, r) Q = Q (E, zg G, zk L, r) (.int (zi (bI (isT B T (wdL 75) = true)))) := fun Q => m_isWord (i := 0) hm hK hS (by decide)
    have i11 : ∀ Q, RK MX10_isWord 0 [.ref m, .int (zi 11)] [] (0, 0) (E, zg G, zk L, r) Q = Q (E, zg G, zk L, r) (.int (zi (bI (isT B T (wdL 85) = true)))) := fun Q => m_isWord (i := 11) hm hK hS (by decide)
    unfold rdText
    by_cases c1 : T.1 = 1
    · rw [if_pos c1]
      have c1' : G m 25 = 0 := by rw [e25]; exact sb.2.1.mpr c1
      refine Or.inl ⟨cs, cl, σ, ln, lv, G, L, T, rfl, prQ.rf _ _ _, hS, hh, fun Q => ?_⟩
      rw [fX10_load_84]
      simp (disch := first | assumption | exact c2_int _ | exact c2_ref _ | exact c2_jk | exact c2_null | omega | exact bI_r _ | exact bI_01 _) only [↓fX10_load_0, ↓fX10_load_1, ↓fX10_load_2, ↓fX10_load_3, ↓fX10_load_4, ↓fX10_load_5, ↓fX10_load_8, ↓fX10_load_9, ↓fX10_load_12, ↓fX10_load_15, ↓fX10_load_16, ↓fX10_load_19, ↓fX10_load_20, ↓fX10_load_23, ↓fX10_load_26, ↓fX10_load_27, ↓fX10_load_28, ↓fX10_load_29, ↓fX10_load_30, ↓fX10_load_33, ↓fX10_load_34, ↓fX10_load_35, ↓fX10_load_38, ↓fX10_load_39, ↓fX10_load_40, ↓fX10_load_43, ↓fX10_load_44, ↓fX10_load_45, ↓fX10_load_48, ↓fX10_load_49, ↓fX10_load_50, ↓fX10_load_53, ↓fX10_load_54, ↓fX10_load_55, ↓fX10_load_58, ↓fX10_load_59, ↓fX10_load_60, ↓fX10_load_61, ↓fX10_load_64, ↓fX10_load_67, ↓fX10_load_68, ↓fX10_load_71, ↓fX10_load_72, ↓fX10_load_73, ↓fX10_load_74, ↓fX10_load_77, ↓fX10_load_80, ↓fX10_load_81, ↓fX10_load_85, ↓fX10_load_88, ↓fX10_load_91, ↓fX10_load_92, ↓fX10_load_95, ↓fX10_load_98, ↓fX10_load_99, ↓fX10_load_100, ↓fX10_load_103, ↓fX10_load_106, ↓fX10_load_107, ↓fX10_load_110, ↓fX10_load_113, ↓fX10_load_114, ↓fX10_load_116, ↓fX10_load_119, ↓fX10_load_122, ↓fX10_load_123, ↓fX10_load_126, ↓fX10_load_129, ↓fX10_load_130, ↓fX10_load_131, ↓fX10_load_132, ↓fX10_load_135, ↓fX10_load_136, ↓fX10_load_137, ↓fX10_load_140, ↓fX10_load_141, ↓fX10_load_144, ↓fX10_load_145, ↓fX10_load_148, ↓fX10_load_149, ↓fX10_load_152, ↓fX10_load_156, ↓fX10_load_157, ↓fX10_load_160, ↓fX10_load_161, ↓fX10_load_162, ↓fX10_load_165, ↓fX10_load_168, ↓fX10_load_169, ↓fX10_load_170, ↓fX10_load_173, ↓fX10_load_176, ↓fX10_load_177, ↓fX10_load_180, ↓fX10_load_183, ↓fX10_load_184, ↓fX10_load_187, ↓fX10_load_188, ↓fX10_load_191, ↓fX10_load_194, ↓fX10_load_195, ↓fX10_load_197, ↓fX10_load_200, ↓fX10_load_201, ↓fX10_load_202, ↓fX10_load_203, ↓fX10_load_204, ↓fX10_load_207, ↓fX10_load_210, ↓fX10_load_211, ↓fX10_load_214, ↓fX10_load_215, ↓fX10_load_216, ↓fX10_load_219, ↓fX10_load_220, ↓fX10_load_221, ↓fX10_load_222, ↓fX10_load_225, ↓fX10_load_228, ↓fX10_load_229, ↓fX10_load_230, ↓fX10_load_231, ↓fX10_load_232, ↓fX10_load_235, ↓fX10_load_236, ↓fX10_load_239, ↓fX10_load_240, ↓fX10_load_243, ↓fX10_load_244, ↓fX10_load_245, ↓fX10_load_248, ↓fX10_load_249, ↓fX10_load_250, ↓fX10_load_251, ↓fX10_load_254, ↓fX10_load_257, ↓fX10_load_258, ↓fX10_load_259, ↓fX10_load_262, ↓fX10_load_265, ↓fX10_load_266, ↓fX10_load_267, ↓fX10_load_270, ↓fX10_load_273, ↓fX10_load_274, ↓fX10_load_275, ↓fX10_load_278, ↓fX10_load_279, ↓fX10_load_282, ↓g1, c1', and_self, true_and, and_true, false_and, and_false, not_true_eq_false, not_false_eq_true, or_self, true_or, or_true, false_or, or_false, ite_not, Decidable.not_not, decide_eq_true_eq, Bool.not_true, Bool.not_false, Bool.false_eq_true, Bool.not_eq_true, n10, n20, n21, n30, n31, n32, n40, n41, n42, n43, ↓reduceIte]
    · rw [if_neg c1]
      have c1' : ¬ G m 25 = 0 := by rw [e25]; exact fun z => c1 (sb.2.1.mp z)
      by_cases c2 : isT B T (wdL 75) = true
      · rw [if_pos c2]
        obtain ⟨G1, L1, f1, y6, y29, s1, v1, e1⟩ := m_readsSieve hm hK hS (isT_2 c2) hN hc1 hc2 (by omega) (by omega) hz
        obtain ⟨G2, L2, f2, s2, e2⟩ := ld_sign hm s1 hl1 hl2
        have fr := f1.trans (prQ_W f2)
        have step : ∀ Q, RK MX10_load 84 [.ref m, l1, l2] [] (0, 0) (E, zg G, zk L, r) Q = RK MX10_load 84 [.ref m, l1, l2] [] (0, 0) (E, zg G2, zk L2, r) Q := fun Q => by
          rw [← e2 Q, fX10_load_84]
          simp (disch := first | assumption | exact c2_int _ | exact c2_ref _ | exact c2_jk | exact c2_null | omega | exact bI_r _ | exact bI_01 _) only [↓fX10_load_0, ↓fX10_load_1, ↓fX10_load_2, ↓fX10_load_3, ↓fX10_load_4, ↓fX10_load_5, ↓fX10_load_8, ↓fX10_load_9, ↓fX10_load_12, ↓fX10_load_15, ↓fX10_load_16, ↓fX10_load_19, ↓fX10_load_20, ↓fX10_load_23, ↓fX10_load_26, ↓fX10_load_27, ↓fX10_load_28, ↓fX10_load_29, ↓fX10_load_30, ↓fX10_load_33, ↓fX10_load_34, ↓fX10_load_35, ↓fX10_load_38, ↓fX10_load_39, ↓fX10_load_40, ↓fX10_load_43, ↓fX10_load_44, ↓fX10_load_45, ↓fX10_load_48, ↓fX10_load_49, ↓fX10_load_50, ↓fX10_load_53, ↓fX10_load_54, ↓fX10_load_55, ↓fX10_load_58, ↓fX10_load_59, ↓fX10_load_60, ↓fX10_load_61, ↓fX10_load_64, ↓fX10_load_67, ↓fX10_load_68, ↓fX10_load_71, ↓fX10_load_72, ↓fX10_load_73, ↓fX10_load_74, ↓fX10_load_77, ↓fX10_load_80, ↓fX10_load_81, ↓fX10_load_85, ↓fX10_load_88, ↓fX10_load_91, ↓fX10_load_92, ↓fX10_load_95, ↓fX10_load_98, ↓fX10_load_99, ↓fX10_load_100, ↓fX10_load_103, ↓fX10_load_106, ↓fX10_load_107, ↓fX10_load_110, ↓fX10_load_113, ↓fX10_load_114, ↓fX10_load_116, ↓fX10_load_119, ↓fX10_load_122, ↓fX10_load_123, ↓fX10_load_126, ↓fX10_load_129, ↓fX10_load_130, ↓fX10_load_131, ↓fX10_load_132, ↓fX10_load_136, ↓fX10_load_137, ↓fX10_load_140, ↓fX10_load_141, ↓fX10_load_144, ↓fX10_load_145, ↓fX10_load_148, ↓fX10_load_149, ↓fX10_load_152, ↓fX10_load_155, ↓fX10_load_156, ↓fX10_load_157, ↓fX10_load_160, ↓fX10_load_161, ↓fX10_load_162, ↓fX10_load_165, ↓fX10_load_168, ↓fX10_load_169, ↓fX10_load_170, ↓fX10_load_173, ↓fX10_load_176, ↓fX10_load_177, ↓fX10_load_180, ↓fX10_load_183, ↓fX10_load_184, ↓fX10_load_187, ↓fX10_load_188, ↓fX10_load_191, ↓fX10_load_194, ↓fX10_load_195, ↓fX10_load_197, ↓fX10_load_200, ↓fX10_load_201, ↓fX10_load_202, ↓fX10_load_203, ↓fX10_load_204, ↓fX10_load_207, ↓fX10_load_210, ↓fX10_load_211, ↓fX10_load_214, ↓fX10_load_215, ↓fX10_load_216, ↓fX10_load_219, ↓fX10_load_220, ↓fX10_load_221, ↓fX10_load_222, ↓fX10_load_225, ↓fX10_load_228, ↓fX10_load_229, ↓fX10_load_230, ↓fX10_load_231, ↓fX10_load_232, ↓fX10_load_235, ↓fX10_load_236, ↓fX10_load_239, ↓fX10_load_240, ↓fX10_load_243, ↓fX10_load_244, ↓fX10_load_245, ↓fX10_load_248, ↓fX10_load_249, ↓fX10_load_250, ↓fX10_load_251, ↓fX10_load_254, ↓fX10_load_257, ↓fX10_load_258, ↓fX10_load_259, ↓fX10_load_262, ↓fX10_load_265, ↓fX10_load_266, ↓fX10_load_267, ↓fX10_load_270, ↓fX10_load_273, ↓fX10_load_274, ↓fX10_load_275, ↓fX10_load_278, ↓fX10_load_279, ↓fX10_load_282, ↓g1, ↓i0, ↓e1, bI_p c2, c1', n10, and_self, true_and, and_true, false_and, and_false, not_true_eq_false, not_false_eq_true, or_self, true_or, or_true, false_or, or_false, ite_not, Decidable.not_not, decide_eq_true_eq, Bool.not_true, Bool.not_false, Bool.false_eq_true, Bool.not_eq_true, n10, n20, n21, n30, n31, n32, n40, n41, n42, n43, ↓reduceIte]
        have pure := sv_pure B n f g (cs + cl) cs T
        cases q : rdSieve B n f g (cs + cl) cs T with
        | error e =>
          rw [q] at pure
          rw [show fiS B n (svS B n f g (cs + cl) cs T) = .error e from pure] at s2
          exact Or.inr ⟨e, G2, L2, rfl, fr, s2, fun Q => (step Q).trans (fin e G2 L2 s2 Q)⟩
        | ok p =>
          obtain ⟨s, T'⟩ := p
          rw [q] at pure
          have go := rdSieve_go q
          obtain ⟨p1, p2, -⟩ := pure
          rw [p1] at s2
          obtain ⟨w1, w2, w3, w4⟩ := v1 s T' q
          have x2 : G2 (m + 2) = G1 (m + 2) := f2.1 _ (by omega)
          have x6 : G2 (m + 6) = G (m + 6) := (f2.1 _ (by omega)).trans y6
          have hh2 : RHM G2 m (cs + 1) cl (fun t => if t = cs then s else σ t) ln lv := by
            refine ⟨⟨by rw [f2.2.1 28 (by decide), w2]; omega, by omega⟩, ⟨by rw [f2.2.1 29 (by decide), y29]; exact hc3, hc4⟩, fun t ht j hj => ?_, fun j hj hj2 => ?_, fun t ht => ?_⟩
            · rw [x2]
              by_cases z : t = cs
              · simp only [z, if_true]
                exact w3 j hj
              · simp only [z, if_false]
                rw [w4 _ (by omega)]
                exact hs t (by omega) j hj
            · rw [x2, w4 _ (by omega)]
              exact hz j (by omega) hj2
            · rw [x6]
              exact hls t ht
          have hN2 : nmR G2 L2 m B (upN f (cs + cl) (nxT B n T.2.2.1).2.1) (upN g (cs + cl) (nxT B n T.2.2.1).2.2.1) (cs + 1 + cl) := by
            rw [show cs + 1 + cl = cs + cl + 1 by omega]
            exact nmR_W w1 f2
          have w2' : T.2.1 + 1 ≤ T.2.2.1 := (isT_w c2 (by decide)).2
          rcases ih _ _ (cs + 1) cl (fun t => if t = cs then s else σ t) ln lv T' G2 L2 (kWd_Q hK fr) s2 hN2 hh2 go.2 (by omega) with ⟨cs', cl', σ', ln', lv', G3, L3, T3, b1, b2, b3, b4, b5⟩ | ⟨e, G3, L3, b1, b2, b3, b4⟩
          · exact Or.inl ⟨cs', cl', σ', ln', lv', G3, L3, T3, b1, fr.trans b2, b3, b4, fun Q => (step Q).trans (b5 Q)⟩
          · exact Or.inr ⟨e, G3, L3, b1, fr.trans b2, b3, fun Q => (step Q).trans (b4 Q)⟩
      · rw [if_neg c2]
        by_cases c3 : isT B T (wdL 85) = true
        · rw [if_pos c3]
          obtain ⟨G1, L1, f1, y2, y28, s1, v1, e1⟩ := m_readsList hm hK hS (isT_2 c3) hN hc3 hc4 (by omega) (by omega)
          obtain ⟨G2, L2, f2, s2, e2⟩ := ld_sign hm s1 hl1 hl2
          have fr := f1.trans (prQ_W f2)
          have step : ∀ Q, RK MX10_load 84 [.ref m, l1, l2] [] (0, 0) (E, zg G, zk L, r) Q = RK MX10_load 84 [.ref m, l1, l2] [] (0, 0) (E, zg G2, zk L2, r) Q := fun Q => by
            rw [← e2 Q, fX10_load_84]
            simp (disch := first | assumption | exact c2_int _ | exact c2_ref _ | exact c2_jk | exact c2_null | omega | exact bI_r _ | exact bI_01 _) only [↓fX10_load_0, ↓fX10_load_1, ↓fX10_load_2, ↓fX10_load_3, ↓fX10_load_4, ↓fX10_load_5, ↓fX10_load_8, ↓fX10_load_9, ↓fX10_load_12, ↓fX10_load_15, ↓fX10_load_16, ↓fX10_load_19, ↓fX10_load_20, ↓fX10_load_23, ↓fX10_load_26, ↓fX10_load_27, ↓fX10_load_28, ↓fX10_load_29, ↓fX10_load_30, ↓fX10_load_33, ↓fX10_load_34, ↓fX10_load_35, ↓fX10_load_38, ↓fX10_load_39, ↓fX10_load_40, ↓fX10_load_43, ↓fX10_load_44, ↓fX10_load_45, ↓fX10_load_48, ↓fX10_load_49, ↓fX10_load_50, ↓fX10_load_53, ↓fX10_load_54, ↓fX10_load_55, ↓fX10_load_58, ↓fX10_load_59, ↓fX10_load_60, ↓fX10_load_61, ↓fX10_load_64, ↓fX10_load_67, ↓fX10_load_68, ↓fX10_load_71, ↓fX10_load_72, ↓fX10_load_73, ↓fX10_load_74, ↓fX10_load_77, ↓fX10_load_80, ↓fX10_load_81, ↓fX10_load_85, ↓fX10_load_88, ↓fX10_load_91, ↓fX10_load_92, ↓fX10_load_95, ↓fX10_load_98, ↓fX10_load_99, ↓fX10_load_100, ↓fX10_load_103, ↓fX10_load_106, ↓fX10_load_107, ↓fX10_load_110, ↓fX10_load_113, ↓fX10_load_114, ↓fX10_load_116, ↓fX10_load_119, ↓fX10_load_122, ↓fX10_load_123, ↓fX10_load_126, ↓fX10_load_129, ↓fX10_load_130, ↓fX10_load_131, ↓fX10_load_132, ↓fX10_load_136, ↓fX10_load_137, ↓fX10_load_140, ↓fX10_load_141, ↓fX10_load_144, ↓fX10_load_145, ↓fX10_load_148, ↓fX10_load_149, ↓fX10_load_152, ↓fX10_load_155, ↓fX10_load_156, ↓fX10_load_157, ↓fX10_load_160, ↓fX10_load_161, ↓fX10_load_162, ↓fX10_load_165, ↓fX10_load_168, ↓fX10_load_169, ↓fX10_load_170, ↓fX10_load_173, ↓fX10_load_176, ↓fX10_load_177, ↓fX10_load_180, ↓fX10_load_183, ↓fX10_load_184, ↓fX10_load_187, ↓fX10_load_188, ↓fX10_load_191, ↓fX10_load_194, ↓fX10_load_195, ↓fX10_load_197, ↓fX10_load_200, ↓fX10_load_201, ↓fX10_load_202, ↓fX10_load_203, ↓fX10_load_204, ↓fX10_load_207, ↓fX10_load_210, ↓fX10_load_211, ↓fX10_load_214, ↓fX10_load_215, ↓fX10_load_216, ↓fX10_load_219, ↓fX10_load_220, ↓fX10_load_221, ↓fX10_load_222, ↓fX10_load_225, ↓fX10_load_228, ↓fX10_load_229, ↓fX10_load_230, ↓fX10_load_231, ↓fX10_load_232, ↓fX10_load_235, ↓fX10_load_236, ↓fX10_load_239, ↓fX10_load_240, ↓fX10_load_243, ↓fX10_load_244, ↓fX10_load_245, ↓fX10_load_248, ↓fX10_load_249, ↓fX10_load_250, ↓fX10_load_251, ↓fX10_load_254, ↓fX10_load_257, ↓fX10_load_258, ↓fX10_load_259, ↓fX10_load_262, ↓fX10_load_265, ↓fX10_load_266, ↓fX10_load_267, ↓fX10_load_270, ↓fX10_load_273, ↓fX10_load_274, ↓fX10_load_275, ↓fX10_load_278, ↓fX10_load_279, ↓fX10_load_282, ↓g1, ↓i0, ↓i11, ↓e1, bI_n c2, bI_p c3, c1', n10, and_self, true_and, and_true, false_and, and_false, not_true_eq_false, not_false_eq_true, or_self, true_or, or_true, false_or, or_false, ite_not, Decidable.not_not, decide_eq_true_eq, Bool.not_true, Bool.not_false, Bool.false_eq_true, Bool.not_eq_true, n10, n20, n21, n30, n31, n32, n40, n41, n42, n43, ↓reduceIte]
          have pure := ls_pure B n f g (cs + cl) cl T
          cases q : rdList B n f g (cs + cl) cl T with
          | error e =>
            rw [q] at pure
            rw [show fiS B n (lsS B n f g (cs + cl) cl T) = .error e from pure] at s2
            exact Or.inr ⟨e, G2, L2, rfl, fr, s2, fun Q => (step Q).trans (fin e G2 L2 s2 Q)⟩
          | ok p =>
            obtain ⟨i, g', T'⟩ := p
            rw [q] at pure
            have go := rdList_go q
            obtain ⟨p1, p2, -⟩ := pure
            rw [p1] at s2
            obtain ⟨w1, w2, w2b, w3, w3b, w4⟩ := v1 i g' T' q
            have x6 : G2 (m + 6) = G1 (m + 6) := f2.1 _ (by omega)
            have x2 : G2 (m + 2) = G (m + 2) := (f2.1 _ (by omega)).trans y2
            have hh2 : RHM G2 m cs (cl + 1) σ (fun t => if t = cl then i else ln t) (fun t => if t = cl then g' else lv t) := by
              refine ⟨⟨by rw [f2.2.1 28 (by decide), y28]; exact hc1, hc2⟩, ⟨by rw [f2.2.1 29 (by decide), w2]; omega, by omega⟩, fun t ht j hj => ?_, fun j hj hj2 => ?_, fun t ht => ?_⟩
              · rw [x2]
                exact hs t ht j hj
              · rw [x2]
                exact hz j hj hj2
              · rw [x6]
                by_cases z : t = cl
                · simp only [z, if_true]
                  exact ⟨w2b, w3, w3b⟩
                · simp only [z, if_false]
                  obtain ⟨u1, u2', u3⟩ := hls t (by omega)
                  refine ⟨u1, ?_, fun j hj => ?_⟩
                  · rw [w4 _ (by omega)]
                    exact u2'
                  · rw [w4 _ (by omega)]
                    exact u3 j hj
            have hN2 : nmR G2 L2 m B (upN f (cs + cl) (nxT B n T.2.2.1).2.1) (upN g (cs + cl) (nxT B n T.2.2.1).2.2.1) (cs + (cl + 1)) := nmR_W w1 f2
            have w2' : T.2.1 + 1 ≤ T.2.2.1 := (isT_w c3 (by decide)).2
            rcases ih _ _ cs (cl + 1) σ (fun t => if t = cl then i else ln t) (fun t => if t = cl then g' else lv t) T' G2 L2 (kWd_Q hK fr) s2 hN2 hh2 go.2 (by omega) with ⟨cs', cl', σ', ln', lv', G3, L3, T3, b1, b2, b3, b4, b5⟩ | ⟨e, G3, L3, b1, b2, b3, b4⟩
            · exact Or.inl ⟨cs', cl', σ', ln', lv', G3, L3, T3, b1, fr.trans b2, b3, b4, fun Q => (step Q).trans (b5 Q)⟩
            · exact Or.inr ⟨e, G3, L3, b1, fr.trans b2, b3, fun Q => (step Q).trans (b4 Q)⟩
        · rw [if_neg c3]
          obtain ⟨G1, f1, s1, j1, e1⟩ := m_must (y := 2) (b := 0) hm hS (Or.inl rfl) (by decide)
          have em : mustS (.ok T) 0 2 = .error (unK T, T) := rfl
          rw [em] at s1
          obtain ⟨G2, L2, f2, s2, e2⟩ := ld_sign hm s1 hl1 hl2
          have s2' : rdS G2 L2 m B n (.error (unK T, T)) := s2
          refine Or.inr ⟨_, G2, L2, rfl, prQ_W (f1.trans f2), s2', fun Q => ?_⟩
          rw [← fin _ G2 L2 s2' Q, ← e2 Q, fX10_load_84]
          simp (disch := first | assumption | exact c2_int _ | exact c2_ref _ | exact c2_jk | exact c2_null | omega | exact bI_r _ | exact bI_01 _) only [↓fX10_load_0, ↓fX10_load_1, ↓fX10_load_2, ↓fX10_load_3, ↓fX10_load_4, ↓fX10_load_5, ↓fX10_load_8, ↓fX10_load_9, ↓fX10_load_12, ↓fX10_load_15, ↓fX10_load_16, ↓fX10_load_19, ↓fX10_load_20, ↓fX10_load_23, ↓fX10_load_26, ↓fX10_load_27, ↓fX10_load_28, ↓fX10_load_29, ↓fX10_load_30, ↓fX10_load_33, ↓fX10_load_34, ↓fX10_load_35, ↓fX10_load_38, ↓fX10_load_39, ↓fX10_load_40, ↓fX10_load_43, ↓fX10_load_44, ↓fX10_load_45, ↓fX10_load_48, ↓fX10_load_49, ↓fX10_load_50, ↓fX10_load_53, ↓fX10_load_54, ↓fX10_load_55, ↓fX10_load_58, ↓fX10_load_59, ↓fX10_load_60, ↓fX10_load_61, ↓fX10_load_64, ↓fX10_load_67, ↓fX10_load_68, ↓fX10_load_71, ↓fX10_load_72, ↓fX10_load_73, ↓fX10_load_74, ↓fX10_load_77, ↓fX10_load_80, ↓fX10_load_81, ↓fX10_load_85, ↓fX10_load_88, ↓fX10_load_91, ↓fX10_load_92, ↓fX10_load_95, ↓fX10_load_98, ↓fX10_load_99, ↓fX10_load_100, ↓fX10_load_103, ↓fX10_load_106, ↓fX10_load_107, ↓fX10_load_110, ↓fX10_load_113, ↓fX10_load_114, ↓fX10_load_116, ↓fX10_load_119, ↓fX10_load_122, ↓fX10_load_123, ↓fX10_load_126, ↓fX10_load_129, ↓fX10_load_130, ↓fX10_load_131, ↓fX10_load_132, ↓fX10_load_136, ↓fX10_load_137, ↓fX10_load_140, ↓fX10_load_141, ↓fX10_load_144, ↓fX10_load_145, ↓fX10_load_148, ↓fX10_load_149, ↓fX10_load_152, ↓fX10_load_155, ↓fX10_load_156, ↓fX10_load_157, ↓fX10_load_160, ↓fX10_load_161, ↓fX10_load_162, ↓fX10_load_165, ↓fX10_load_168, ↓fX10_load_169, ↓fX10_load_170, ↓fX10_load_173, ↓fX10_load_176, ↓fX10_load_177, ↓fX10_load_180, ↓fX10_load_183, ↓fX10_load_184, ↓fX10_load_187, ↓fX10_load_188, ↓fX10_load_191, ↓fX10_load_194, ↓fX10_load_195, ↓fX10_load_197, ↓fX10_load_200, ↓fX10_load_201, ↓fX10_load_202, ↓fX10_load_203, ↓fX10_load_204, ↓fX10_load_207, ↓fX10_load_210, ↓fX10_load_211, ↓fX10_load_214, ↓fX10_load_215, ↓fX10_load_216, ↓fX10_load_219, ↓fX10_load_220, ↓fX10_load_221, ↓fX10_load_222, ↓fX10_load_225, ↓fX10_load_228, ↓fX10_load_229, ↓fX10_load_230, ↓fX10_load_231, ↓fX10_load_232, ↓fX10_load_235, ↓fX10_load_236, ↓fX10_load_239, ↓fX10_load_240, ↓fX10_load_243, ↓fX10_load_244, ↓fX10_load_245, ↓fX10_load_248, ↓fX10_load_249, ↓fX10_load_250, ↓fX10_load_251, ↓fX10_load_254, ↓fX10_load_257, ↓fX10_load_258, ↓fX10_load_259, ↓fX10_load_262, ↓fX10_load_265, ↓fX10_load_266, ↓fX10_load_267, ↓fX10_load_270, ↓fX10_load_273, ↓fX10_load_274, ↓fX10_load_275, ↓fX10_load_278, ↓fX10_load_279, ↓fX10_load_282, ↓g1, ↓i0, ↓i11, ↓e1, bI_n c2, bI_n c3, c1', and_self, true_and, and_true, false_and, and_false, not_true_eq_false, not_false_eq_true, or_self, true_or, or_true, false_or, or_false, ite_not, Decidable.not_not, decide_eq_true_eq, Bool.not_true, Bool.not_false, Bool.false_eq_true, Bool.not_eq_true, n10, n20, n21, n30, n31, n32, n40, n41, n42, n43, ↓reduceIte]
end BM
