/-! The reference's reader: bytes, tokens. -/
def sg8 (b : Int) : Int := if b < 128 then b else b - 256
/-- the bytes that are read -/
def tpR (G : Nat → Nat → Int) (m : Nat) (B : Int → Int) (n : Int) : Prop := (0 ≤ n ∧ n ≤ 600) ∧ (∀ i, 0 ≤ i → i < n → (0 ≤ B i ∧ B i ≤ 255) ∧ G (m + 11) i.toNat = sg8 (B i)) ∧ ∀ i, ¬ (0 ≤ i ∧ i < n) → B i = -1
/-- place, then, sort, number set -/
def fM (G : Nat → Nat → Int) (m : Nat) (p t s v : Int) : Nat → Nat → Int := fun a j => if a = m then (if j = 23 then p else if j = 24 then t else if j = 25 then s else if j = 26 then v else G m j) else G a j
def wlL (B : Int → Int) (n s : Int) : Nat → Int → Int → Int
  | 0, _, w => w
  | k + 1, i, w => if i < n ∧ ltr (B i) = true then wlL B n s k (i + 1) (if i - s < 8 then 27 * w + B i - 96 else 0) else w
/-- the word as a number, of its first letters -/
def wvS (B : Int → Int) (s : Int) : Nat → Int
  | 0 => 0
  | j + 1 => 27 * wvS B s j + (B (s + j) - 96)
section BM
variable {E : AE} {G G1 G2 G' L L' : Nat → Nat → Int} {r : Nat → Nat → Option Nat} {h : AH} {Q : AH → Value → Prop} {m M : Nat} {B : Int → Int} {s e y x w i p v lo hi t b d c n : Int}
theorem fM_23 : fM G m p t s v m 23 = p := by
  unfold fM
  simp
theorem fM_24 : fM G m p t s v m 24 = t := by
  unfold fM
  simp
theorem fM_25 : fM G m p t s v m 25 = s := by
  unfold fM
  simp
theorem fM_26 : fM G m p t s v m 26 = v := by
  unfold fM
  simp
theorem fM_j {j : Nat} (h : j < 23 ∨ 26 < j) : fM G m p t s v m j = G m j := by
  unfold fM
  rw [if_pos rfl, if_neg (by omega), if_neg (by omega), if_neg (by omega), if_neg (by omega)]
theorem fM_q {q : Nat} (h : q ≠ m) : fM G m p t s v q = G q := by
  funext j
  exact if_neg h
theorem fM_s (f : Nat → Nat → Int) (h1 : ∀ a j, f a j = fM G m p t s v a j) : f = fM G m p t s v := funext fun a => funext fun j => h1 a j
theorem fM_s23 : u2 (fM G m p t s v) m 23 x = fM G m x t s v := by
  funext a j
  show (if a = m ∧ j = 23 then x else fM G m p t s v a j) = _
  unfold fM
  by_cases c : a = m
  · by_cases c2 : j = 23
    · simp [c, c2]
    · simp [c, c2]
  · simp [c]
theorem fM_s24 : u2 (fM G m p t s v) m 24 x = fM G m p x s v := by
  funext a j
  show (if a = m ∧ j = 24 then x else fM G m p t s v a j) = _
  unfold fM
  by_cases c : a = m
  · by_cases c2 : j = 24
    · simp [c, c2]
    · simp [c, c2]
  · simp [c]
theorem fM_s25 : u2 (fM G m p t s v) m 25 x = fM G m p t x v := by
  funext a j
  show (if a = m ∧ j = 25 then x else fM G m p t s v a j) = _
  unfold fM
  by_cases c : a = m
  · by_cases c2 : j = 25
    · simp [c, c2]
    · simp [c, c2]
  · simp [c]
theorem fM_s26 : u2 (fM G m p t s v) m 26 x = fM G m p t s x := by
  funext a j
  show (if a = m ∧ j = 26 then x else fM G m p t s v a j) = _
  unfold fM
  by_cases c : a = m
  · by_cases c2 : j = 26
    · simp [c, c2]
    · simp [c, c2]
  · simp [c]
theorem fM_id : fM G m (G m 23) (G m 24) (G m 25) (G m 26) = G := by
  funext a j
  unfold fM
  by_cases c : a = m
  · rw [if_pos c, c]
    by_cases c1 : j = 23
    · rw [if_pos c1, c1]
    · rw [if_neg c1]
      by_cases c2 : j = 24
      · rw [if_pos c2, c2]
      · rw [if_neg c2]
        by_cases c3 : j = 25
        · rw [if_pos c3, c3]
        · rw [if_neg c3]
          by_cases c4 : j = 26
          · rw [if_pos c4, c4]
          · rw [if_neg c4]
  · rw [if_neg c]
theorem tpR_c (h : tpR G m B n) (e : G' (m + 11) = G (m + 11)) : tpR G' m B n := ⟨h.1, fun i a b => by rw [e]; exact h.2.1 i a b, h.2.2⟩
theorem tpR_fM (h : tpR G m B n) : tpR (fM G m p t s v) m B n := tpR_c h (fM_q (by omega))
theorem sg8_b (h : 0 ≤ b ∧ b ≤ 255) : -128 ≤ sg8 b ∧ sg8 b ≤ 127 := by
  unfold sg8
  split <;> omega
theorem sg8_in (h : 0 ≤ b ∧ b ≤ 255) (hlo : 0 ≤ lo) (hhi : hi ≤ 127) : (lo ≤ sg8 b ∧ sg8 b ≤ hi) ↔ (lo ≤ b ∧ b ≤ hi) := by
  unfold sg8
  split <;> omega
theorem m_isOf (hm : shM E r m) (hT : tpR G m B n) (h27 : G m 27 = n) (hi0 : 0 ≤ i ∧ i < 2147483648) (hlo : 0 ≤ lo ∧ lo ≤ 127) (hhi : 0 ≤ hi ∧ hi ≤ 127) : RK MX10_isOf 0 [.ref m, .int (zi i), .int (zi lo), .int (zi hi)] [] (0, 0) (E, zg G, zk L, r) Q = Q (E, zg G, zk L, r) (.int (zi (bI (lo ≤ B i ∧ B i ≤ hi)))) := by
  have m0 := hm.1
  obtain ⟨ka11, la11, ra11⟩ := hm.2.2.2.2.2.2.2.2.2.2.2.1
  obtain ⟨hn, h1, h2⟩ := hT
  by_cases c : i < n
  · obtain ⟨b1, b2⟩ := h1 i hi0.1 c
    have b3 := sg8_b b1
    have b4 := sg8_in b1 hlo.1 hhi.2
    by_cases c2 : lo ≤ B i ∧ B i ≤ hi
    · have e := bI_p (b4.mpr c2)
      rw [bI_p c2]
      simp (disch := first | assumption | exact c2_int _ | exact c2_ref _ | exact c2_jk | exact c2_null | omega | exact bI_r _ | exact bI_01 _) only [↓fX10_isOf_0, ↓fX10_isOf_1, ↓fX10_isOf_2, ↓fX10_isOf_5, ↓fX10_isOf_8, ↓fX10_isOf_9, ↓fX10_isOf_12, ↓fX10_isOf_13, ↓fX10_isOf_14, ↓fX10_isOf_15, ↓fX10_isOf_16, ↓fX10_isOf_17, ↓fX10_isOf_18, ↓fX10_isOf_19, ↓fX10_isOf_22, ↓fX10_isOf_25, ↓fX10_isOf_26, ↓fX10_isOf_29, ↓fX10_isOf_30, ↓m_isIn, h27, c, b2, e, and_self, true_and, and_true, false_and, and_false, not_true_eq_false, not_false_eq_true, or_self, true_or, or_true, false_or, or_false, ite_not, Decidable.not_not, decide_eq_true_eq, Bool.not_true, Bool.not_false, Bool.false_eq_true, Bool.not_eq_true, n10, n20, n21, n30, n31, n32, n40, n41, n42, n43, ↓reduceIte]
    · have e := bI_n (fun z => c2 (b4.mp z))
      rw [bI_n c2]
      simp (disch := first | assumption | exact c2_int _ | exact c2_ref _ | exact c2_jk | exact c2_null | omega | exact bI_r _ | exact bI_01 _) only [↓fX10_isOf_0, ↓fX10_isOf_1, ↓fX10_isOf_2, ↓fX10_isOf_5, ↓fX10_isOf_8, ↓fX10_isOf_9, ↓fX10_isOf_12, ↓fX10_isOf_13, ↓fX10_isOf_14, ↓fX10_isOf_15, ↓fX10_isOf_16, ↓fX10_isOf_17, ↓fX10_isOf_18, ↓fX10_isOf_19, ↓fX10_isOf_22, ↓fX10_isOf_25, ↓fX10_isOf_26, ↓fX10_isOf_29, ↓fX10_isOf_30, ↓m_isIn, h27, c, b2, e, and_self, true_and, and_true, false_and, and_false, not_true_eq_false, not_false_eq_true, or_self, true_or, or_true, false_or, or_false, ite_not, Decidable.not_not, decide_eq_true_eq, Bool.not_true, Bool.not_false, Bool.false_eq_true, Bool.not_eq_true, n10, n20, n21, n30, n31, n32, n40, n41, n42, n43, ↓reduceIte]
  · rw [h2 i (by omega), bI_n (by omega)]
    simp (disch := first | assumption | exact c2_int _ | exact c2_ref _ | exact c2_jk | exact c2_null | omega | exact bI_r _ | exact bI_01 _) only [↓fX10_isOf_0, ↓fX10_isOf_1, ↓fX10_isOf_2, ↓fX10_isOf_5, ↓fX10_isOf_8, ↓fX10_isOf_9, ↓fX10_isOf_12, ↓fX10_isOf_13, ↓fX10_isOf_14, ↓fX10_isOf_15, ↓fX10_isOf_16, ↓fX10_isOf_17, ↓fX10_isOf_18, ↓fX10_isOf_19, ↓fX10_isOf_22, ↓fX10_isOf_25, ↓fX10_isOf_26, ↓fX10_isOf_29, ↓fX10_isOf_30, h27, c, and_self, true_and, and_true, false_and, and_false, not_true_eq_false, not_false_eq_true, or_self, true_or, or_true, false_or, or_false, ite_not, Decidable.not_not, decide_eq_true_eq, Bool.not_true, Bool.not_false, Bool.false_eq_true, Bool.not_eq_true, n10, n20, n21, n30, n31, n32, n40, n41, n42, n43, ↓reduceIte]
theorem rd_blank (hm : shM E r m) (hT : tpR G m B n) (h27 : G m 27 = n) : ∀ (k : Nat) (p : Int), n - p ≤ k → 0 ≤ p → p ≤ 10000 → RK MX10_reads 8 [.ref m] [] (0, 0) (E, zg (fM G m p t s v), zk L, r) Q = RK MX10_reads 51 [.ref m] [] (0, 0) (E, zg (fM G m (spL (fun i => blk (B i)) n k p) t s v), zk L, r) Q := by
  have m0 := hm.1
  have stop : ∀ p, 0 ≤ p → p ≤ 10000 → blk (B p) = false → RK MX10_reads 8 [.ref m] [] (0, 0) (E, zg (fM G m p t s v), zk L, r) Q = RK MX10_reads 51 [.ref m] [] (0, 0) (E, zg (fM G m p t s v), zk L, r) Q := by
    intro p h0 h1 hb
    have hT' : tpR (fM G m p t s v) m B n := tpR_fM hT
    have h27' : fM G m p t s v m 27 = n := (fM_j (by decide)).trans h27
    have e23 : fM G m p t s v m 23 = p := fM_23
    have hb' : ¬ (B p = 10 ∨ B p = 32) := by
      unfold blk at hb
      exact of_decide_eq_false hb
    have e1 := fun Q => m_isOf (L := L) (Q := Q) (i := p) (lo := 32) (hi := 32) hm hT' h27' (by omega) (by decide) (by decide)
    have e2 := fun Q => m_isOf (L := L) (Q := Q) (i := p) (lo := 10) (hi := 10) hm hT' h27' (by omega) (by decide) (by decide)
    rw [bI_n (by omega)] at e1 e2
    rw [fX10_reads_8]
    simp (disch := first | assumption | exact c2_int _ | exact c2_ref _ | exact c2_jk | exact c2_null | omega | exact bI_r _ | exact bI_01 _) only [↓fX10_reads_0, ↓fX10_reads_1, ↓fX10_reads_2, ↓fX10_reads_5, ↓fX10_reads_9, ↓fX10_reads_10, ↓fX10_reads_13, ↓fX10_reads_15, ↓fX10_reads_17, ↓fX10_reads_20, ↓fX10_reads_23, ↓fX10_reads_24, ↓fX10_reads_25, ↓fX10_reads_28, ↓fX10_reads_30, ↓fX10_reads_32, ↓fX10_reads_35, ↓fX10_reads_38, ↓fX10_reads_39, ↓fX10_reads_40, ↓fX10_reads_43, ↓fX10_reads_44, ↓fX10_reads_45, ↓fX10_reads_48, ↓fX10_reads_52, ↓fX10_reads_53, ↓fX10_reads_56, ↓fX10_reads_57, ↓fX10_reads_58, ↓fX10_reads_61, ↓fX10_reads_62, ↓fX10_reads_63, ↓fX10_reads_66, ↓fX10_reads_67, ↓fX10_reads_70, ↓fX10_reads_73, ↓fX10_reads_74, ↓fX10_reads_77, ↓fX10_reads_78, ↓fX10_reads_81, ↓fX10_reads_82, ↓fX10_reads_85, ↓fX10_reads_86, ↓fX10_reads_88, ↓fX10_reads_91, ↓fX10_reads_92, ↓fX10_reads_95, ↓fX10_reads_96, ↓fX10_reads_99, ↓fX10_reads_100, ↓fX10_reads_101, ↓fX10_reads_104, ↓fX10_reads_106, ↓fX10_reads_108, ↓fX10_reads_111, ↓fX10_reads_114, ↓fX10_reads_115, ↓fX10_reads_116, ↓fX10_reads_119, ↓fX10_reads_120, ↓fX10_reads_121, ↓fX10_reads_124, ↓fX10_reads_127, ↓fX10_reads_128, ↓fX10_reads_129, ↓fX10_reads_132, ↓fX10_reads_134, ↓fX10_reads_136, ↓fX10_reads_139, ↓fX10_reads_142, ↓fX10_reads_143, ↓fX10_reads_144, ↓fX10_reads_147, ↓fX10_reads_148, ↓fX10_reads_151, ↓fX10_reads_152, ↓fX10_reads_154, ↓fX10_reads_157, ↓fX10_reads_160, ↓fX10_reads_161, ↓fX10_reads_164, ↓fX10_reads_165, ↓fX10_reads_166, ↓fX10_reads_169, ↓fX10_reads_170, ↓fX10_reads_173, ↓fX10_reads_174, ↓fX10_reads_175, ↓fX10_reads_176, ↓fX10_reads_179, ↓fX10_reads_180, ↓fX10_reads_183, ↓fX10_reads_184, ↓fX10_reads_187, ↓fX10_reads_188, ↓fX10_reads_189, ↓fX10_reads_192, ↓fX10_reads_193, ↓fX10_reads_194, ↓fX10_reads_197, ↓fX10_reads_200, ↓fX10_reads_201, ↓fX10_reads_202, ↓fX10_reads_205, ↓fX10_reads_206, ↓fX10_reads_209, ↓fX10_reads_210, ↓fX10_reads_212, ↓fX10_reads_215, ↓fX10_reads_216, ↓fX10_reads_219, ↓fX10_reads_220, ↓fX10_reads_223, ↓fX10_reads_226, ↓fX10_reads_227, ↓fX10_reads_228, ↓fX10_reads_231, ↓fX10_reads_233, ↓fX10_reads_235, ↓fX10_reads_238, ↓fX10_reads_241, ↓fX10_reads_242, ↓fX10_reads_243, ↓fX10_reads_246, ↓fX10_reads_247, ↓fX10_reads_248, ↓fX10_reads_251, ↓fX10_reads_254, ↓fX10_reads_255, ↓fX10_reads_256, ↓fX10_reads_259, ↓fX10_reads_261, ↓fX10_reads_263, ↓fX10_reads_266, ↓fX10_reads_269, ↓fX10_reads_270, ↓fX10_reads_271, ↓fX10_reads_274, ↓fX10_reads_275, ↓fX10_reads_278, ↓fX10_reads_279, ↓fX10_reads_280, ↓fX10_reads_283, ↓fX10_reads_285, ↓fX10_reads_286, ↓fX10_reads_289, ↓fX10_reads_290, ↓fX10_reads_291, ↓fX10_reads_294, ↓fX10_reads_295, ↓fX10_reads_298, ↓fX10_reads_299, ↓fX10_reads_300, ↓fX10_reads_302, ↓fX10_reads_303, ↓fX10_reads_306, ↓fX10_reads_307, ↓fX10_reads_310, ↓fX10_reads_313, ↓fX10_reads_314, ↓fX10_reads_315, ↓fX10_reads_318, ↓fX10_reads_319, ↓fX10_reads_320, ↓fX10_reads_323, ↓fX10_reads_326, ↓fX10_reads_327, ↓fX10_reads_328, ↓fX10_reads_331, ↓fX10_reads_332, ↓fX10_reads_335, ↓fX10_reads_336, ↓fX10_reads_337, ↓fX10_reads_340, ↓fX10_reads_341, ↓fX10_reads_344, ↓fX10_reads_345, ↓fX10_reads_348, ↓e1, ↓e2, e23, and_self, true_and, and_true, false_and, and_false, not_true_eq_false, not_false_eq_true, or_self, true_or, or_true, false_or, or_false, ite_not, Decidable.not_not, decide_eq_true_eq, Bool.not_true, Bool.not_false, Bool.false_eq_true, Bool.not_eq_true, n10, n20, n21, n30, n31, n32, n40, n41, n42, n43, ↓reduceIte]
  have off : ∀ p, n ≤ p → blk (B p) = false := fun p hp => by
    rw [hT.2.2 p (by omega)]
    rfl
  intro k
  induction k with
  | zero =>
    intro p h1 h2 h3
    exact stop p h2 h3 (off p (by omega))
  | succ k ih =>
    intro p h1 h2 h3
    unfold spL
    by_cases c : p < n ∧ blk (B p) = true
    · have hn := hT.1
      rw [if_pos c, ← ih (p + 1) (by omega) (by omega) (by omega)]
      have hT' : tpR (fM G m p t s v) m B n := tpR_fM hT
      have h27' : fM G m p t s v m 27 = n := (fM_j (by decide)).trans h27
      have e23 : fM G m p t s v m 23 = p := fM_23
      have es : u2 (fM G m p t s v) m 23 (p + 1) = fM G m (p + 1) t s v := fM_s23
      have hb' : B p = 10 ∨ B p = 32 := by
        have := c.2
        unfold blk at this
        exact of_decide_eq_true this
      have e1 := fun Q => m_isOf (L := L) (Q := Q) (i := p) (lo := 32) (hi := 32) hm hT' h27' (by omega) (by decide) (by decide)
      have e2 := fun Q => m_isOf (L := L) (Q := Q) (i := p) (lo := 10) (hi := 10) hm hT' h27' (by omega) (by decide) (by decide)
      rw [fX10_reads_8]
      by_cases c1 : B p = 32
      · rw [bI_p (by omega)] at e1
        simp (disch := first | assumption | exact c2_int _ | exact c2_ref _ | exact c2_jk | exact c2_null | omega | exact bI_r _ | exact bI_01 _) only [↓fX10_reads_0, ↓fX10_reads_1, ↓fX10_reads_2, ↓fX10_reads_5, ↓fX10_reads_9, ↓fX10_reads_10, ↓fX10_reads_13, ↓fX10_reads_15, ↓fX10_reads_17, ↓fX10_reads_20, ↓fX10_reads_23, ↓fX10_reads_24, ↓fX10_reads_25, ↓fX10_reads_28, ↓fX10_reads_30, ↓fX10_reads_32, ↓fX10_reads_35, ↓fX10_reads_38, ↓fX10_reads_39, ↓fX10_reads_40, ↓fX10_reads_43, ↓fX10_reads_44, ↓fX10_reads_45, ↓fX10_reads_48, ↓fX10_reads_52, ↓fX10_reads_53, ↓fX10_reads_56, ↓fX10_reads_57, ↓fX10_reads_58, ↓fX10_reads_61, ↓fX10_reads_62, ↓fX10_reads_63, ↓fX10_reads_66, ↓fX10_reads_67, ↓fX10_reads_70, ↓fX10_reads_73, ↓fX10_reads_74, ↓fX10_reads_77, ↓fX10_reads_78, ↓fX10_reads_81, ↓fX10_reads_82, ↓fX10_reads_85, ↓fX10_reads_86, ↓fX10_reads_88, ↓fX10_reads_91, ↓fX10_reads_92, ↓fX10_reads_95, ↓fX10_reads_96, ↓fX10_reads_99, ↓fX10_reads_100, ↓fX10_reads_101, ↓fX10_reads_104, ↓fX10_reads_106, ↓fX10_reads_108, ↓fX10_reads_111, ↓fX10_reads_114, ↓fX10_reads_115, ↓fX10_reads_116, ↓fX10_reads_119, ↓fX10_reads_120, ↓fX10_reads_121, ↓fX10_reads_124, ↓fX10_reads_127, ↓fX10_reads_128, ↓fX10_reads_129, ↓fX10_reads_132, ↓fX10_reads_134, ↓fX10_reads_136, ↓fX10_reads_139, ↓fX10_reads_142, ↓fX10_reads_143, ↓fX10_reads_144, ↓fX10_reads_147, ↓fX10_reads_148, ↓fX10_reads_151, ↓fX10_reads_152, ↓fX10_reads_154, ↓fX10_reads_157, ↓fX10_reads_160, ↓fX10_reads_161, ↓fX10_reads_164, ↓fX10_reads_165, ↓fX10_reads_166, ↓fX10_reads_169, ↓fX10_reads_170, ↓fX10_reads_173, ↓fX10_reads_174, ↓fX10_reads_175, ↓fX10_reads_176, ↓fX10_reads_179, ↓fX10_reads_180, ↓fX10_reads_183, ↓fX10_reads_184, ↓fX10_reads_187, ↓fX10_reads_188, ↓fX10_reads_189, ↓fX10_reads_192, ↓fX10_reads_193, ↓fX10_reads_194, ↓fX10_reads_197, ↓fX10_reads_200, ↓fX10_reads_201, ↓fX10_reads_202, ↓fX10_reads_205, ↓fX10_reads_206, ↓fX10_reads_209, ↓fX10_reads_210, ↓fX10_reads_212, ↓fX10_reads_215, ↓fX10_reads_216, ↓fX10_reads_219, ↓fX10_reads_220, ↓fX10_reads_223, ↓fX10_reads_226, ↓fX10_reads_227, ↓fX10_reads_228, ↓fX10_reads_231, ↓fX10_reads_233, ↓fX10_reads_235, ↓fX10_reads_238, ↓fX10_reads_241, ↓fX10_reads_242, ↓fX10_reads_243, ↓fX10_reads_246, ↓fX10_reads_247, ↓fX10_reads_248, ↓fX10_reads_251, ↓fX10_reads_254, ↓fX10_reads_255, ↓fX10_reads_256, ↓fX10_reads_259, ↓fX10_reads_261, ↓fX10_reads_263, ↓fX10_reads_266, ↓fX10_reads_269, ↓fX10_reads_270, ↓fX10_reads_271, ↓fX10_reads_274, ↓fX10_reads_275, ↓fX10_reads_278, ↓fX10_reads_279, ↓fX10_reads_280, ↓fX10_reads_283, ↓fX10_reads_285, ↓fX10_reads_286, ↓fX10_reads_289, ↓fX10_reads_290, ↓fX10_reads_291, ↓fX10_reads_294, ↓fX10_reads_295, ↓fX10_reads_298, ↓fX10_reads_299, ↓fX10_reads_300, ↓fX10_reads_302, ↓fX10_reads_303, ↓fX10_reads_306, ↓fX10_reads_307, ↓fX10_reads_310, ↓fX10_reads_313, ↓fX10_reads_314, ↓fX10_reads_315, ↓fX10_reads_318, ↓fX10_reads_319, ↓fX10_reads_320, ↓fX10_reads_323, ↓fX10_reads_326, ↓fX10_reads_327, ↓fX10_reads_328, ↓fX10_reads_331, ↓fX10_reads_332, ↓fX10_reads_335, ↓fX10_reads_336, ↓fX10_reads_337, ↓fX10_reads_340, ↓fX10_reads_341, ↓fX10_reads_344, ↓fX10_reads_345, ↓fX10_reads_348, ↓e1, e23, es, and_self, true_and, and_true, false_and, and_false, not_true_eq_false, not_false_eq_true, or_self, true_or, or_true, false_or, or_false, ite_not, Decidable.not_not, decide_eq_true_eq, Bool.not_true, Bool.not_false, Bool.false_eq_true, Bool.not_eq_true, n10, n20, n21, n30, n31, n32, n40, n41, n42, n43, ↓reduceIte]
      · rw [bI_n (by omega)] at e1
        rw [bI_p (by omega)] at e2
        simp (disch := first | assumption | exact c2_int _ | exact c2_ref _ | exact c2_jk | exact c2_null | omega | exact bI_r _ | exact bI_01 _) only [↓fX10_reads_0, ↓fX10_reads_1, ↓fX10_reads_2, ↓fX10_reads_5, ↓fX10_reads_9, ↓fX10_reads_10, ↓fX10_reads_13, ↓fX10_reads_15, ↓fX10_reads_17, ↓fX10_reads_20, ↓fX10_reads_23, ↓fX10_reads_24, ↓fX10_reads_25, ↓fX10_reads_28, ↓fX10_reads_30, ↓fX10_reads_32, ↓fX10_reads_35, ↓fX10_reads_38, ↓fX10_reads_39, ↓fX10_reads_40, ↓fX10_reads_43, ↓fX10_reads_44, ↓fX10_reads_45, ↓fX10_reads_48, ↓fX10_reads_52, ↓fX10_reads_53, ↓fX10_reads_56, ↓fX10_reads_57, ↓fX10_reads_58, ↓fX10_reads_61, ↓fX10_reads_62, ↓fX10_reads_63, ↓fX10_reads_66, ↓fX10_reads_67, ↓fX10_reads_70, ↓fX10_reads_73, ↓fX10_reads_74, ↓fX10_reads_77, ↓fX10_reads_78, ↓fX10_reads_81, ↓fX10_reads_82, ↓fX10_reads_85, ↓fX10_reads_86, ↓fX10_reads_88, ↓fX10_reads_91, ↓fX10_reads_92, ↓fX10_reads_95, ↓fX10_reads_96, ↓fX10_reads_99, ↓fX10_reads_100, ↓fX10_reads_101, ↓fX10_reads_104, ↓fX10_reads_106, ↓fX10_reads_108, ↓fX10_reads_111, ↓fX10_reads_114, ↓fX10_reads_115, ↓fX10_reads_116, ↓fX10_reads_119, ↓fX10_reads_120, ↓fX10_reads_121, ↓fX10_reads_124, ↓fX10_reads_127, ↓fX10_reads_128, ↓fX10_reads_129, ↓fX10_reads_132, ↓fX10_reads_134, ↓fX10_reads_136, ↓fX10_reads_139, ↓fX10_reads_142, ↓fX10_reads_143, ↓fX10_reads_144, ↓fX10_reads_147, ↓fX10_reads_148, ↓fX10_reads_151, ↓fX10_reads_152, ↓fX10_reads_154, ↓fX10_reads_157, ↓fX10_reads_160, ↓fX10_reads_161, ↓fX10_reads_164, ↓fX10_reads_165, ↓fX10_reads_166, ↓fX10_reads_169, ↓fX10_reads_170, ↓fX10_reads_173, ↓fX10_reads_174, ↓fX10_reads_175, ↓fX10_reads_176, ↓fX10_reads_179, ↓fX10_reads_180, ↓fX10_reads_183, ↓fX10_reads_184, ↓fX10_reads_187, ↓fX10_reads_188, ↓fX10_reads_189, ↓fX10_reads_192, ↓fX10_reads_193, ↓fX10_reads_194, ↓fX10_reads_197, ↓fX10_reads_200, ↓fX10_reads_201, ↓fX10_reads_202, ↓fX10_reads_205, ↓fX10_reads_206, ↓fX10_reads_209, ↓fX10_reads_210, ↓fX10_reads_212, ↓fX10_reads_215, ↓fX10_reads_216, ↓fX10_reads_219, ↓fX10_reads_220, ↓fX10_reads_223, ↓fX10_reads_226, ↓fX10_reads_227, ↓fX10_reads_228, ↓fX10_reads_231, ↓fX10_reads_233, ↓fX10_reads_235, ↓fX10_reads_238, ↓fX10_reads_241, ↓fX10_reads_242, ↓fX10_reads_243, ↓fX10_reads_246, ↓fX10_reads_247, ↓fX10_reads_248, ↓fX10_reads_251, ↓fX10_reads_254, ↓fX10_reads_255, ↓fX10_reads_256, ↓fX10_reads_259, ↓fX10_reads_261, ↓fX10_reads_263, ↓fX10_reads_266, ↓fX10_reads_269, ↓fX10_reads_270, ↓fX10_reads_271, ↓fX10_reads_274, ↓fX10_reads_275, ↓fX10_reads_278, ↓fX10_reads_279, ↓fX10_reads_280, ↓fX10_reads_283, ↓fX10_reads_285, ↓fX10_reads_286, ↓fX10_reads_289, ↓fX10_reads_290, ↓fX10_reads_291, ↓fX10_reads_294, ↓fX10_reads_295, ↓fX10_reads_298, ↓fX10_reads_299, ↓fX10_reads_300, ↓fX10_reads_302, ↓fX10_reads_303, ↓fX10_reads_306, ↓fX10_reads_307, ↓fX10_reads_310, ↓fX10_reads_313, ↓fX10_reads_314, ↓fX10_reads_315, ↓fX10_reads_318, ↓fX10_reads_319, ↓fX10_reads_320, ↓fX10_reads_323, ↓fX10_reads_326, ↓fX10_reads_327, ↓fX10_reads_328, ↓fX10_reads_331, ↓fX10_reads_332, ↓fX10_reads_335, ↓fX10_reads_336, ↓fX10_reads_337, ↓fX10_reads_340, ↓fX10_reads_341, ↓fX10_reads_344, ↓fX10_reads_345, ↓fX10_reads_348, ↓e1, ↓e2, e23, es, and_self, true_and, and_true, false_and, and_false, not_true_eq_false, not_false_eq_true, or_self, true_or, or_true, false_or, or_false, ite_not, Decidable.not_not, decide_eq_true_eq, Bool.not_true, Bool.not_false, Bool.false_eq_true, Bool.not_eq_true, n10, n20, n21, n30, n31, n32, n40, n41, n42, n43, ↓reduceIte]
    · rw [if_neg c]
      refine stop p h2 h3 ?_
      by_cases z : p < n
      · cases q : blk (B p)
        · rfl
        · exact absurd ⟨z, q⟩ c
      · exact off p (by omega)
theorem rd_letters (hm : shM E r m) (hT : tpR G m B n) (h27 : G m 27 = n) (hp : 0 ≤ p ∧ p ≤ 10000) : ∀ (k : Nat) (i w : Int), n - i ≤ k → p ≤ i → i ≤ 10000 → (0 ≤ w ∧ w < 1000000000000000) → (w < 27 ^ (min (i - p).toNat 8)) → RK MX10_reads 127 [.ref m] [] (0, 0) (E, zg (fM G m p i s v), zk (u2 L m 30 w), r) Q = RK MX10_reads 200 [.ref m] [] (0, 0) (E, zg (fM G m p (spL (fun i => ltr (B i)) n k i) s v), zk (u2 L m 30 (wlL B n p k i w)), r) Q := by
  have m0 := hm.1
  obtain ⟨ka11, la11, ra11⟩ := hm.2.2.2.2.2.2.2.2.2.2.2.1
  have hn := hT.1
  have stop : ∀ i w, 0 ≤ i → i ≤ 10000 → ltr (B i) = false → RK MX10_reads 127 [.ref m] [] (0, 0) (E, zg (fM G m p i s v), zk (u2 L m 30 w), r) Q = RK MX10_reads 200 [.ref m] [] (0, 0) (E, zg (fM G m p i s v), zk (u2 L m 30 w), r) Q := by
    intro i w h0 h1 hb
    have hT' : tpR (fM G m p i s v) m B n := tpR_fM hT
    have h27' : fM G m p i s v m 27 = n := (fM_j (by decide)).trans h27
    have e24 : fM G m p i s v m 24 = i := fM_24
    have e1 := fun Q => m_isOf (L := u2 L m 30 w) (Q := Q) (i := i) (lo := 97) (hi := 122) hm hT' h27' (by omega) (by decide) (by decide)
    unfold ltr at hb
    rw [bI_n (of_decide_eq_false hb)] at e1
    rw [fX10_reads_127]
    simp (disch := first | assumption | exact c2_int _ | exact c2_ref _ | exact c2_jk | exact c2_null | omega | exact bI_r _ | exact bI_01 _) only [↓fX10_reads_0, ↓fX10_reads_1, ↓fX10_reads_2, ↓fX10_reads_5, ↓fX10_reads_8, ↓fX10_reads_9, ↓fX10_reads_10, ↓fX10_reads_13, ↓fX10_reads_15, ↓fX10_reads_17, ↓fX10_reads_20, ↓fX10_reads_23, ↓fX10_reads_24, ↓fX10_reads_25, ↓fX10_reads_28, ↓fX10_reads_30, ↓fX10_reads_32, ↓fX10_reads_35, ↓fX10_reads_38, ↓fX10_reads_39, ↓fX10_reads_40, ↓fX10_reads_43, ↓fX10_reads_44, ↓fX10_reads_45, ↓fX10_reads_48, ↓fX10_reads_51, ↓fX10_reads_52, ↓fX10_reads_53, ↓fX10_reads_56, ↓fX10_reads_57, ↓fX10_reads_58, ↓fX10_reads_61, ↓fX10_reads_62, ↓fX10_reads_63, ↓fX10_reads_66, ↓fX10_reads_67, ↓fX10_reads_70, ↓fX10_reads_73, ↓fX10_reads_74, ↓fX10_reads_77, ↓fX10_reads_78, ↓fX10_reads_81, ↓fX10_reads_82, ↓fX10_reads_85, ↓fX10_reads_86, ↓fX10_reads_88, ↓fX10_reads_91, ↓fX10_reads_92, ↓fX10_reads_95, ↓fX10_reads_96, ↓fX10_reads_99, ↓fX10_reads_100, ↓fX10_reads_101, ↓fX10_reads_104, ↓fX10_reads_106, ↓fX10_reads_108, ↓fX10_reads_111, ↓fX10_reads_114, ↓fX10_reads_115, ↓fX10_reads_116, ↓fX10_reads_119, ↓fX10_reads_120, ↓fX10_reads_121, ↓fX10_reads_124, ↓fX10_reads_128, ↓fX10_reads_129, ↓fX10_reads_132, ↓fX10_reads_134, ↓fX10_reads_136, ↓fX10_reads_139, ↓fX10_reads_142, ↓fX10_reads_143, ↓fX10_reads_144, ↓fX10_reads_147, ↓fX10_reads_148, ↓fX10_reads_151, ↓fX10_reads_152, ↓fX10_reads_154, ↓fX10_reads_157, ↓fX10_reads_160, ↓fX10_reads_161, ↓fX10_reads_164, ↓fX10_reads_165, ↓fX10_reads_166, ↓fX10_reads_169, ↓fX10_reads_170, ↓fX10_reads_173, ↓fX10_reads_174, ↓fX10_reads_175, ↓fX10_reads_176, ↓fX10_reads_179, ↓fX10_reads_180, ↓fX10_reads_183, ↓fX10_reads_184, ↓fX10_reads_187, ↓fX10_reads_188, ↓fX10_reads_189, ↓fX10_reads_192, ↓fX10_reads_193, ↓fX10_reads_194, ↓fX10_reads_197, ↓fX10_reads_201, ↓fX10_reads_202, ↓fX10_reads_205, ↓fX10_reads_206, ↓fX10_reads_209, ↓fX10_reads_210, ↓fX10_reads_212, ↓fX10_reads_215, ↓fX10_reads_216, ↓fX10_reads_219, ↓fX10_reads_220, ↓fX10_reads_223, ↓fX10_reads_226, ↓fX10_reads_227, ↓fX10_reads_228, ↓fX10_reads_231, ↓fX10_reads_233, ↓fX10_reads_235, ↓fX10_reads_238, ↓fX10_reads_241, ↓fX10_reads_242, ↓fX10_reads_243, ↓fX10_reads_246, ↓fX10_reads_247, ↓fX10_reads_248, ↓fX10_reads_251, ↓fX10_reads_254, ↓fX10_reads_255, ↓fX10_reads_256, ↓fX10_reads_259, ↓fX10_reads_261, ↓fX10_reads_263, ↓fX10_reads_266, ↓fX10_reads_269, ↓fX10_reads_270, ↓fX10_reads_271, ↓fX10_reads_274, ↓fX10_reads_275, ↓fX10_reads_278, ↓fX10_reads_279, ↓fX10_reads_280, ↓fX10_reads_283, ↓fX10_reads_285, ↓fX10_reads_286, ↓fX10_reads_289, ↓fX10_reads_290, ↓fX10_reads_291, ↓fX10_reads_294, ↓fX10_reads_295, ↓fX10_reads_298, ↓fX10_reads_299, ↓fX10_reads_300, ↓fX10_reads_302, ↓fX10_reads_303, ↓fX10_reads_306, ↓fX10_reads_307, ↓fX10_reads_310, ↓fX10_reads_313, ↓fX10_reads_314, ↓fX10_reads_315, ↓fX10_reads_318, ↓fX10_reads_319, ↓fX10_reads_320, ↓fX10_reads_323, ↓fX10_reads_326, ↓fX10_reads_327, ↓fX10_reads_328, ↓fX10_reads_331, ↓fX10_reads_332, ↓fX10_reads_335, ↓fX10_reads_336, ↓fX10_reads_337, ↓fX10_reads_340, ↓fX10_reads_341, ↓fX10_reads_344, ↓fX10_reads_345, ↓fX10_reads_348, ↓e1, e24, and_self, true_and, and_true, false_and, and_false, not_true_eq_false, not_false_eq_true, or_self, true_or, or_true, false_or, or_false, ite_not, Decidable.not_not, decide_eq_true_eq, Bool.not_true, Bool.not_false, Bool.false_eq_true, Bool.not_eq_true, n10, n20, n21, n30, n31, n32, n40, n41, n42, n43, ↓reduceIte]
  have off : ∀ p, n ≤ p → ltr (B p) = false := fun p hp => by
    rw [hT.2.2 p (by omega)]
    rfl
  intro k
  induction k with
  | zero =>
    intro i w h1 h2 h3 h4 h5
    exact stop i w (by omega) h3 (off i (by omega))
  | succ k ih =>
    intro i w h1 h2 h3 h4 h5
    unfold spL wlL
    by_cases c : i < n ∧ ltr (B i) = true
    · have hl : 97 ≤ B i ∧ B i ≤ 122 := by
        have := c.2
        unfold ltr at this
        exact of_decide_eq_true this
      have hT' : tpR (fM G m p i s v) m B n := tpR_fM hT
      have h27' : fM G m p i s v m 27 = n := (fM_j (by decide)).trans h27
      have e24 : fM G m p i s v m 24 = i := fM_24
      have e23 : fM G m p i s v m 23 = p := fM_23
      have es : u2 (fM G m p i s v) m 24 (i + 1) = fM G m p (i + 1) s v := fM_s24
      have e30 : u2 L m 30 w m 30 = w := u2_s _ _ _ _
      have eb : fM G m p i s v (m + 11) i.toNat = B i := by
        rw [fM_q (by omega), (hT.2.1 i (by omega) c.1).2]
        unfold sg8
        rw [if_pos (by omega)]
      have eu : ∀ w', u2 (u2 L m 30 w) m 30 w' = u2 L m 30 w' := fun w' => by
        funext a j
        show (if a = m ∧ j = 30 then w' else if a = m ∧ j = 30 then w else L a j) = if a = m ∧ j = 30 then w' else L a j
        by_cases q : a = m ∧ j = 30
        · rw [if_pos q, if_pos q]
        · rw [if_neg q, if_neg q, if_neg q]
      have e1 := fun Q => m_isOf (L := u2 L m 30 w) (Q := Q) (i := i) (lo := 97) (hi := 122) hm hT' h27' (by omega) (by decide) (by decide)
      rw [bI_p hl] at e1
      rw [if_pos c, if_pos c]
      by_cases c8 : i - p < 8
      · have hw : 27 * w + B i - 96 < 27 ^ (min (i + 1 - p).toNat 8) := by
          have e9 : min (i + 1 - p).toNat 8 = min (i - p).toNat 8 + 1 := by omega
          have e10 : (27 : Int) ^ (min (i - p).toNat 8 + 1) = 27 ^ (min (i - p).toNat 8) * 27 := Int.pow_succ _ _
          rw [e9, e10]
          omega
        have hb8 : (27 : Int) ^ (min (i + 1 - p).toNat 8) ≤ 1000000000000 := by
          have : (27 : Int) ^ (min (i + 1 - p).toNat 8) ≤ 27 ^ 8 := by
            have := Nat.pow_le_pow_right (n := 27) (by decide) (Nat.min_le_right (i + 1 - p).toNat 8)
            exact_mod_cast this
          have e8 : (27 : Int) ^ 8 = 282429536481 := by decide
          omega
        rw [if_pos c8, ← ih (i + 1) (27 * w + B i - 96) (by omega) (by omega) (by omega) (by omega) hw]
        rw [fX10_reads_127]
        simp (disch := first | assumption | exact c2_int _ | exact c2_ref _ | exact c2_jk | exact c2_null | omega | exact bI_r _ | exact bI_01 _) only [↓fX10_reads_0, ↓fX10_reads_1, ↓fX10_reads_2, ↓fX10_reads_5, ↓fX10_reads_8, ↓fX10_reads_9, ↓fX10_reads_10, ↓fX10_reads_13, ↓fX10_reads_15, ↓fX10_reads_17, ↓fX10_reads_20, ↓fX10_reads_23, ↓fX10_reads_24, ↓fX10_reads_25, ↓fX10_reads_28, ↓fX10_reads_30, ↓fX10_reads_32, ↓fX10_reads_35, ↓fX10_reads_38, ↓fX10_reads_39, ↓fX10_reads_40, ↓fX10_reads_43, ↓fX10_reads_44, ↓fX10_reads_45, ↓fX10_reads_48, ↓fX10_reads_51, ↓fX10_reads_52, ↓fX10_reads_53, ↓fX10_reads_56, ↓fX10_reads_57, ↓fX10_reads_58, ↓fX10_reads_61, ↓fX10_reads_62, ↓fX10_reads_63, ↓fX10_reads_66, ↓fX10_reads_67, ↓fX10_reads_70, ↓fX10_reads_73, ↓fX10_reads_74, ↓fX10_reads_77, ↓fX10_reads_78, ↓fX10_reads_81, ↓fX10_reads_82, ↓fX10_reads_85, ↓fX10_reads_86, ↓fX10_reads_88, ↓fX10_reads_91, ↓fX10_reads_92, ↓fX10_reads_95, ↓fX10_reads_96, ↓fX10_reads_99, ↓fX10_reads_100, ↓fX10_reads_101, ↓fX10_reads_104, ↓fX10_reads_106, ↓fX10_reads_108, ↓fX10_reads_111, ↓fX10_reads_114, ↓fX10_reads_115, ↓fX10_reads_116, ↓fX10_reads_119, ↓fX10_reads_120, ↓fX10_reads_121, ↓fX10_reads_124, ↓fX10_reads_128, ↓fX10_reads_129, ↓fX10_reads_132, ↓fX10_reads_134, ↓fX10_reads_136, ↓fX10_reads_139, ↓fX10_reads_142, ↓fX10_reads_143, ↓fX10_reads_144, ↓fX10_reads_147, ↓fX10_reads_148, ↓fX10_reads_151, ↓fX10_reads_152, ↓fX10_reads_154, ↓fX10_reads_157, ↓fX10_reads_160, ↓fX10_reads_161, ↓fX10_reads_164, ↓fX10_reads_165, ↓fX10_reads_166, ↓fX10_reads_169, ↓fX10_reads_170, ↓fX10_reads_173, ↓fX10_reads_174, ↓fX10_reads_175, ↓fX10_reads_176, ↓fX10_reads_179, ↓fX10_reads_180, ↓fX10_reads_183, ↓fX10_reads_184, ↓fX10_reads_187, ↓fX10_reads_188, ↓fX10_reads_189, ↓fX10_reads_192, ↓fX10_reads_193, ↓fX10_reads_194, ↓fX10_reads_197, ↓fX10_reads_201, ↓fX10_reads_202, ↓fX10_reads_205, ↓fX10_reads_206, ↓fX10_reads_209, ↓fX10_reads_210, ↓fX10_reads_212, ↓fX10_reads_215, ↓fX10_reads_216, ↓fX10_reads_219, ↓fX10_reads_220, ↓fX10_reads_223, ↓fX10_reads_226, ↓fX10_reads_227, ↓fX10_reads_228, ↓fX10_reads_231, ↓fX10_reads_233, ↓fX10_reads_235, ↓fX10_reads_238, ↓fX10_reads_241, ↓fX10_reads_242, ↓fX10_reads_243, ↓fX10_reads_246, ↓fX10_reads_247, ↓fX10_reads_248, ↓fX10_reads_251, ↓fX10_reads_254, ↓fX10_reads_255, ↓fX10_reads_256, ↓fX10_reads_259, ↓fX10_reads_261, ↓fX10_reads_263, ↓fX10_reads_266, ↓fX10_reads_269, ↓fX10_reads_270, ↓fX10_reads_271, ↓fX10_reads_274, ↓fX10_reads_275, ↓fX10_reads_278, ↓fX10_reads_279, ↓fX10_reads_280, ↓fX10_reads_283, ↓fX10_reads_285, ↓fX10_reads_286, ↓fX10_reads_289, ↓fX10_reads_290, ↓fX10_reads_291, ↓fX10_reads_294, ↓fX10_reads_295, ↓fX10_reads_298, ↓fX10_reads_299, ↓fX10_reads_300, ↓fX10_reads_302, ↓fX10_reads_303, ↓fX10_reads_306, ↓fX10_reads_307, ↓fX10_reads_310, ↓fX10_reads_313, ↓fX10_reads_314, ↓fX10_reads_315, ↓fX10_reads_318, ↓fX10_reads_319, ↓fX10_reads_320, ↓fX10_reads_323, ↓fX10_reads_326, ↓fX10_reads_327, ↓fX10_reads_328, ↓fX10_reads_331, ↓fX10_reads_332, ↓fX10_reads_335, ↓fX10_reads_336, ↓fX10_reads_337, ↓fX10_reads_340, ↓fX10_reads_341, ↓fX10_reads_344, ↓fX10_reads_345, ↓fX10_reads_348, ↓e1, e24, e23, es, e30, eb, eu, c8, and_self, true_and, and_true, false_and, and_false, not_true_eq_false, not_false_eq_true, or_self, true_or, or_true, false_or, or_false, ite_not, Decidable.not_not, decide_eq_true_eq, Bool.not_true, Bool.not_false, Bool.false_eq_true, Bool.not_eq_true, n10, n20, n21, n30, n31, n32, n40, n41, n42, n43, ↓reduceIte]
      · rw [if_neg c8, ← ih (i + 1) 0 (by omega) (by omega) (by omega) (by omega) (by
          have : (0 : Int) < 27 ^ (min (i + 1 - p).toNat 8) := Int.pow_pos (by decide)
          omega)]
        rw [fX10_reads_127]
        simp (disch := first | assumption | exact c2_int _ | exact c2_ref _ | exact c2_jk | exact c2_null | omega | exact bI_r _ | exact bI_01 _) only [↓fX10_reads_0, ↓fX10_reads_1, ↓fX10_reads_2, ↓fX10_reads_5, ↓fX10_reads_8, ↓fX10_reads_9, ↓fX10_reads_10, ↓fX10_reads_13, ↓fX10_reads_15, ↓fX10_reads_17, ↓fX10_reads_20, ↓fX10_reads_23, ↓fX10_reads_24, ↓fX10_reads_25, ↓fX10_reads_28, ↓fX10_reads_30, ↓fX10_reads_32, ↓fX10_reads_35, ↓fX10_reads_38, ↓fX10_reads_39, ↓fX10_reads_40, ↓fX10_reads_43, ↓fX10_reads_44, ↓fX10_reads_45, ↓fX10_reads_48, ↓fX10_reads_51, ↓fX10_reads_52, ↓fX10_reads_53, ↓fX10_reads_56, ↓fX10_reads_57, ↓fX10_reads_58, ↓fX10_reads_61, ↓fX10_reads_62, ↓fX10_reads_63, ↓fX10_reads_66, ↓fX10_reads_67, ↓fX10_reads_70, ↓fX10_reads_73, ↓fX10_reads_74, ↓fX10_reads_77, ↓fX10_reads_78, ↓fX10_reads_81, ↓fX10_reads_82, ↓fX10_reads_85, ↓fX10_reads_86, ↓fX10_reads_88, ↓fX10_reads_91, ↓fX10_reads_92, ↓fX10_reads_95, ↓fX10_reads_96, ↓fX10_reads_99, ↓fX10_reads_100, ↓fX10_reads_101, ↓fX10_reads_104, ↓fX10_reads_106, ↓fX10_reads_108, ↓fX10_reads_111, ↓fX10_reads_114, ↓fX10_reads_115, ↓fX10_reads_116, ↓fX10_reads_119, ↓fX10_reads_120, ↓fX10_reads_121, ↓fX10_reads_124, ↓fX10_reads_128, ↓fX10_reads_129, ↓fX10_reads_132, ↓fX10_reads_134, ↓fX10_reads_136, ↓fX10_reads_139, ↓fX10_reads_142, ↓fX10_reads_143, ↓fX10_reads_144, ↓fX10_reads_147, ↓fX10_reads_148, ↓fX10_reads_151, ↓fX10_reads_152, ↓fX10_reads_154, ↓fX10_reads_157, ↓fX10_reads_160, ↓fX10_reads_161, ↓fX10_reads_164, ↓fX10_reads_165, ↓fX10_reads_166, ↓fX10_reads_169, ↓fX10_reads_170, ↓fX10_reads_173, ↓fX10_reads_174, ↓fX10_reads_175, ↓fX10_reads_176, ↓fX10_reads_179, ↓fX10_reads_180, ↓fX10_reads_183, ↓fX10_reads_184, ↓fX10_reads_187, ↓fX10_reads_188, ↓fX10_reads_189, ↓fX10_reads_192, ↓fX10_reads_193, ↓fX10_reads_194, ↓fX10_reads_197, ↓fX10_reads_201, ↓fX10_reads_202, ↓fX10_reads_205, ↓fX10_reads_206, ↓fX10_reads_209, ↓fX10_reads_210, ↓fX10_reads_212, ↓fX10_reads_215, ↓fX10_reads_216, ↓fX10_reads_219, ↓fX10_reads_220, ↓fX10_reads_223, ↓fX10_reads_226, ↓fX10_reads_227, ↓fX10_reads_228, ↓fX10_reads_231, ↓fX10_reads_233, ↓fX10_reads_235, ↓fX10_reads_238, ↓fX10_reads_241, ↓fX10_reads_242, ↓fX10_reads_243, ↓fX10_reads_246, ↓fX10_reads_247, ↓fX10_reads_248, ↓fX10_reads_251, ↓fX10_reads_254, ↓fX10_reads_255, ↓fX10_reads_256, ↓fX10_reads_259, ↓fX10_reads_261, ↓fX10_reads_263, ↓fX10_reads_266, ↓fX10_reads_269, ↓fX10_reads_270, ↓fX10_reads_271, ↓fX10_reads_274, ↓fX10_reads_275, ↓fX10_reads_278, ↓fX10_reads_279, ↓fX10_reads_280, ↓fX10_reads_283, ↓fX10_reads_285, ↓fX10_reads_286, ↓fX10_reads_289, ↓fX10_reads_290, ↓fX10_reads_291, ↓fX10_reads_294, ↓fX10_reads_295, ↓fX10_reads_298, ↓fX10_reads_299, ↓fX10_reads_300, ↓fX10_reads_302, ↓fX10_reads_303, ↓fX10_reads_306, ↓fX10_reads_307, ↓fX10_reads_310, ↓fX10_reads_313, ↓fX10_reads_314, ↓fX10_reads_315, ↓fX10_reads_318, ↓fX10_reads_319, ↓fX10_reads_320, ↓fX10_reads_323, ↓fX10_reads_326, ↓fX10_reads_327, ↓fX10_reads_328, ↓fX10_reads_331, ↓fX10_reads_332, ↓fX10_reads_335, ↓fX10_reads_336, ↓fX10_reads_337, ↓fX10_reads_340, ↓fX10_reads_341, ↓fX10_reads_344, ↓fX10_reads_345, ↓fX10_reads_348, ↓e1, e24, e23, es, e30, eu, c8, and_self, true_and, and_true, false_and, and_false, not_true_eq_false, not_false_eq_true, or_self, true_or, or_true, false_or, or_false, ite_not, Decidable.not_not, decide_eq_true_eq, Bool.not_true, Bool.not_false, Bool.false_eq_true, Bool.not_eq_true, n10, n20, n21, n30, n31, n32, n40, n41, n42, n43, ↓reduceIte]
    · rw [if_neg c, if_neg c]
      refine stop i w (by omega) h3 ?_
      by_cases z : i < n
      · cases q : ltr (B i)
        · rfl
        · exact absurd ⟨z, q⟩ c
      · exact off i (by omega)
theorem rd_digits (hm : shM E r m) (hT : tpR G m B n) (h27 : G m 27 = n) (hp : 0 ≤ p ∧ p ≤ 10000) : ∀ (k : Nat) (i v : Int), n - i ≤ k → p ≤ i → i ≤ 10000 → (0 ≤ v ∧ v < if i = p then 1 else if i = p + 1 then 10 else if i = p + 2 then 100 else if i = p + 3 then 1000 else 10000) → RK MX10_reads 254 [.ref m] [] (0, 0) (E, zg (fM G m p i s v), zk L, r) Q = RK MX10_reads 326 [.ref m] [] (0, 0) (E, zg (fM G m p (spL (fun i => dgt (B i)) n k i) s (nmL B n p k i v)), zk L, r) Q := by
  have m0 := hm.1
  obtain ⟨ka11, la11, ra11⟩ := hm.2.2.2.2.2.2.2.2.2.2.2.1
  have hn := hT.1
  have stop : ∀ i v, 0 ≤ i → i ≤ 10000 → dgt (B i) = false → RK MX10_reads 254 [.ref m] [] (0, 0) (E, zg (fM G m p i s v), zk L, r) Q = RK MX10_reads 326 [.ref m] [] (0, 0) (E, zg (fM G m p i s v), zk L, r) Q := by
    intro i v h0 h1 hb
    have hT' : tpR (fM G m p i s v) m B n := tpR_fM hT
    have h27' : fM G m p i s v m 27 = n := (fM_j (by decide)).trans h27
    have e24 : fM G m p i s v m 24 = i := fM_24
    have e1 := fun Q => m_isOf (L := L) (Q := Q) (i := i) (lo := 48) (hi := 57) hm hT' h27' (by omega) (by decide) (by decide)
    unfold dgt at hb
    rw [bI_n (of_decide_eq_false hb)] at e1
    rw [fX10_reads_254]
    simp (disch := first | assumption | exact c2_int _ | exact c2_ref _ | exact c2_jk | exact c2_null | omega | exact bI_r _ | exact bI_01 _) only [↓fX10_reads_0, ↓fX10_reads_1, ↓fX10_reads_2, ↓fX10_reads_5, ↓fX10_reads_8, ↓fX10_reads_9, ↓fX10_reads_10, ↓fX10_reads_13, ↓fX10_reads_15, ↓fX10_reads_17, ↓fX10_reads_20, ↓fX10_reads_23, ↓fX10_reads_24, ↓fX10_reads_25, ↓fX10_reads_28, ↓fX10_reads_30, ↓fX10_reads_32, ↓fX10_reads_35, ↓fX10_reads_38, ↓fX10_reads_39, ↓fX10_reads_40, ↓fX10_reads_43, ↓fX10_reads_44, ↓fX10_reads_45, ↓fX10_reads_48, ↓fX10_reads_51, ↓fX10_reads_52, ↓fX10_reads_53, ↓fX10_reads_56, ↓fX10_reads_57, ↓fX10_reads_58, ↓fX10_reads_61, ↓fX10_reads_62, ↓fX10_reads_63, ↓fX10_reads_66, ↓fX10_reads_67, ↓fX10_reads_70, ↓fX10_reads_73, ↓fX10_reads_74, ↓fX10_reads_77, ↓fX10_reads_78, ↓fX10_reads_81, ↓fX10_reads_82, ↓fX10_reads_85, ↓fX10_reads_86, ↓fX10_reads_88, ↓fX10_reads_91, ↓fX10_reads_92, ↓fX10_reads_95, ↓fX10_reads_96, ↓fX10_reads_99, ↓fX10_reads_100, ↓fX10_reads_101, ↓fX10_reads_104, ↓fX10_reads_106, ↓fX10_reads_108, ↓fX10_reads_111, ↓fX10_reads_114, ↓fX10_reads_115, ↓fX10_reads_116, ↓fX10_reads_119, ↓fX10_reads_120, ↓fX10_reads_121, ↓fX10_reads_124, ↓fX10_reads_127, ↓fX10_reads_128, ↓fX10_reads_129, ↓fX10_reads_132, ↓fX10_reads_134, ↓fX10_reads_136, ↓fX10_reads_139, ↓fX10_reads_142, ↓fX10_reads_143, ↓fX10_reads_144, ↓fX10_reads_147, ↓fX10_reads_148, ↓fX10_reads_151, ↓fX10_reads_152, ↓fX10_reads_154, ↓fX10_reads_157, ↓fX10_reads_160, ↓fX10_reads_161, ↓fX10_reads_164, ↓fX10_reads_165, ↓fX10_reads_166, ↓fX10_reads_169, ↓fX10_reads_170, ↓fX10_reads_173, ↓fX10_reads_174, ↓fX10_reads_175, ↓fX10_reads_176, ↓fX10_reads_179, ↓fX10_reads_180, ↓fX10_reads_183, ↓fX10_reads_184, ↓fX10_reads_187, ↓fX10_reads_188, ↓fX10_reads_189, ↓fX10_reads_192, ↓fX10_reads_193, ↓fX10_reads_194, ↓fX10_reads_197, ↓fX10_reads_200, ↓fX10_reads_201, ↓fX10_reads_202, ↓fX10_reads_205, ↓fX10_reads_206, ↓fX10_reads_209, ↓fX10_reads_210, ↓fX10_reads_212, ↓fX10_reads_215, ↓fX10_reads_216, ↓fX10_reads_219, ↓fX10_reads_220, ↓fX10_reads_223, ↓fX10_reads_226, ↓fX10_reads_227, ↓fX10_reads_228, ↓fX10_reads_231, ↓fX10_reads_233, ↓fX10_reads_235, ↓fX10_reads_238, ↓fX10_reads_241, ↓fX10_reads_242, ↓fX10_reads_243, ↓fX10_reads_246, ↓fX10_reads_247, ↓fX10_reads_248, ↓fX10_reads_251, ↓fX10_reads_255, ↓fX10_reads_256, ↓fX10_reads_259, ↓fX10_reads_261, ↓fX10_reads_263, ↓fX10_reads_266, ↓fX10_reads_269, ↓fX10_reads_270, ↓fX10_reads_271, ↓fX10_reads_274, ↓fX10_reads_275, ↓fX10_reads_278, ↓fX10_reads_279, ↓fX10_reads_280, ↓fX10_reads_283, ↓fX10_reads_285, ↓fX10_reads_286, ↓fX10_reads_289, ↓fX10_reads_290, ↓fX10_reads_291, ↓fX10_reads_294, ↓fX10_reads_295, ↓fX10_reads_298, ↓fX10_reads_299, ↓fX10_reads_300, ↓fX10_reads_302, ↓fX10_reads_303, ↓fX10_reads_306, ↓fX10_reads_307, ↓fX10_reads_310, ↓fX10_reads_313, ↓fX10_reads_314, ↓fX10_reads_315, ↓fX10_reads_318, ↓fX10_reads_319, ↓fX10_reads_320, ↓fX10_reads_323, ↓fX10_reads_327, ↓fX10_reads_328, ↓fX10_reads_331, ↓fX10_reads_332, ↓fX10_reads_335, ↓fX10_reads_336, ↓fX10_reads_337, ↓fX10_reads_340, ↓fX10_reads_341, ↓fX10_reads_344, ↓fX10_reads_345, ↓fX10_reads_348, ↓e1, e24, and_self, true_and, and_true, false_and, and_false, not_true_eq_false, not_false_eq_true, or_self, true_or, or_true, false_or, or_false, ite_not, Decidable.not_not, decide_eq_true_eq, Bool.not_true, Bool.not_false, Bool.false_eq_true, Bool.not_eq_true, n10, n20, n21, n30, n31, n32, n40, n41, n42, n43, ↓reduceIte]
  have off : ∀ p, n ≤ p → dgt (B p) = false := fun p hp => by
    rw [hT.2.2 p (by omega)]
    rfl
  intro k
  induction k with
  | zero =>
    intro i v h1 h2 h3 h4
    exact stop i v (by omega) h3 (off i (by omega))
  | succ k ih =>
    intro i v h1 h2 h3 h4
    unfold spL nmL
    by_cases c : i < n ∧ dgt (B i) = true
    · have hl : 48 ≤ B i ∧ B i ≤ 57 := by
        have := c.2
        unfold dgt at this
        exact of_decide_eq_true this
      have hv : 0 ≤ v ∧ v < 10000 := by
        obtain ⟨a, b⟩ := h4
        refine ⟨a, ?_⟩
        repeat' split at b
        all_goals omega
      have hT' : tpR (fM G m p i s v) m B n := tpR_fM hT
      have h27' : fM G m p i s v m 27 = n := (fM_j (by decide)).trans h27
      have e24 : fM G m p i s v m 24 = i := fM_24
      have e23 : fM G m p i s v m 23 = p := fM_23
      have e26 : fM G m p i s v m 26 = v := fM_26
      have eb : fM G m p i s v (m + 11) i.toNat = B i := by
        rw [fM_q (by omega), (hT.2.1 i (by omega) c.1).2]
        unfold sg8
        rw [if_pos (by omega)]
      have e1 := fun Q => m_isOf (L := L) (Q := Q) (i := i) (lo := 48) (hi := 57) hm hT' h27' (by omega) (by decide) (by decide)
      rw [bI_p hl] at e1
      rw [if_pos c, if_pos c]
      by_cases c4 : i - p < 4
      · have es6 : u2 (fM G m p i s v) m 26 (10 * v + B i - 48) = fM G m p i s (10 * v + B i - 48) := fM_s26
        have e24' : fM G m p i s (10 * v + B i - 48) m 24 = i := fM_24
        have es : u2 (fM G m p i s (10 * v + B i - 48)) m 24 (i + 1) = fM G m p (i + 1) s (10 * v + B i - 48) := fM_s24
        have hv2 : 0 ≤ 10 * v + B i - 48 ∧ 10 * v + B i - 48 < if i + 1 = p then 1 else if i + 1 = p + 1 then 10 else if i + 1 = p + 2 then 100 else if i + 1 = p + 3 then 1000 else 10000 := by
          obtain ⟨a, b⟩ := h4
          refine ⟨by omega, ?_⟩
          rw [if_neg (by omega)]
          repeat' split at b
          all_goals (repeat' split)
          all_goals omega
        rw [if_pos c4, ← ih (i + 1) (10 * v + B i - 48) (by omega) (by omega) (by omega) hv2]
        rw [fX10_reads_254]
        simp (disch := first | assumption | exact c2_int _ | exact c2_ref _ | exact c2_jk | exact c2_null | omega | exact bI_r _ | exact bI_01 _) only [↓fX10_reads_0, ↓fX10_reads_1, ↓fX10_reads_2, ↓fX10_reads_5, ↓fX10_reads_8, ↓fX10_reads_9, ↓fX10_reads_10, ↓fX10_reads_13, ↓fX10_reads_15, ↓fX10_reads_17, ↓fX10_reads_20, ↓fX10_reads_23, ↓fX10_reads_24, ↓fX10_reads_25, ↓fX10_reads_28, ↓fX10_reads_30, ↓fX10_reads_32, ↓fX10_reads_35, ↓fX10_reads_38, ↓fX10_reads_39, ↓fX10_reads_40, ↓fX10_reads_43, ↓fX10_reads_44, ↓fX10_reads_45, ↓fX10_reads_48, ↓fX10_reads_51, ↓fX10_reads_52, ↓fX10_reads_53, ↓fX10_reads_56, ↓fX10_reads_57, ↓fX10_reads_58, ↓fX10_reads_61, ↓fX10_reads_62, ↓fX10_reads_63, ↓fX10_reads_66, ↓fX10_reads_67, ↓fX10_reads_70, ↓fX10_reads_73, ↓fX10_reads_74, ↓fX10_reads_77, ↓fX10_reads_78, ↓fX10_reads_81, ↓fX10_reads_82, ↓fX10_reads_85, ↓fX10_reads_86, ↓fX10_reads_88, ↓fX10_reads_91, ↓fX10_reads_92, ↓fX10_reads_95, ↓fX10_reads_96, ↓fX10_reads_99, ↓fX10_reads_100, ↓fX10_reads_101, ↓fX10_reads_104, ↓fX10_reads_106, ↓fX10_reads_108, ↓fX10_reads_111, ↓fX10_reads_114, ↓fX10_reads_115, ↓fX10_reads_116, ↓fX10_reads_119, ↓fX10_reads_120, ↓fX10_reads_121, ↓fX10_reads_124, ↓fX10_reads_127, ↓fX10_reads_128, ↓fX10_reads_129, ↓fX10_reads_132, ↓fX10_reads_134, ↓fX10_reads_136, ↓fX10_reads_139, ↓fX10_reads_142, ↓fX10_reads_143, ↓fX10_reads_144, ↓fX10_reads_147, ↓fX10_reads_148, ↓fX10_reads_151, ↓fX10_reads_152, ↓fX10_reads_154, ↓fX10_reads_157, ↓fX10_reads_160, ↓fX10_reads_161, ↓fX10_reads_164, ↓fX10_reads_165, ↓fX10_reads_166, ↓fX10_reads_169, ↓fX10_reads_170, ↓fX10_reads_173, ↓fX10_reads_174, ↓fX10_reads_175, ↓fX10_reads_176, ↓fX10_reads_179, ↓fX10_reads_180, ↓fX10_reads_183, ↓fX10_reads_184, ↓fX10_reads_187, ↓fX10_reads_188, ↓fX10_reads_189, ↓fX10_reads_192, ↓fX10_reads_193, ↓fX10_reads_194, ↓fX10_reads_197, ↓fX10_reads_200, ↓fX10_reads_201, ↓fX10_reads_202, ↓fX10_reads_205, ↓fX10_reads_206, ↓fX10_reads_209, ↓fX10_reads_210, ↓fX10_reads_212, ↓fX10_reads_215, ↓fX10_reads_216, ↓fX10_reads_219, ↓fX10_reads_220, ↓fX10_reads_223, ↓fX10_reads_226, ↓fX10_reads_227, ↓fX10_reads_228, ↓fX10_reads_231, ↓fX10_reads_233, ↓fX10_reads_235, ↓fX10_reads_238, ↓fX10_reads_241, ↓fX10_reads_242, ↓fX10_reads_243, ↓fX10_reads_246, ↓fX10_reads_247, ↓fX10_reads_248, ↓fX10_reads_251, ↓fX10_reads_255, ↓fX10_reads_256, ↓fX10_reads_259, ↓fX10_reads_261, ↓fX10_reads_263, ↓fX10_reads_266, ↓fX10_reads_269, ↓fX10_reads_270, ↓fX10_reads_271, ↓fX10_reads_274, ↓fX10_reads_275, ↓fX10_reads_278, ↓fX10_reads_279, ↓fX10_reads_280, ↓fX10_reads_283, ↓fX10_reads_285, ↓fX10_reads_286, ↓fX10_reads_289, ↓fX10_reads_290, ↓fX10_reads_291, ↓fX10_reads_294, ↓fX10_reads_295, ↓fX10_reads_298, ↓fX10_reads_299, ↓fX10_reads_300, ↓fX10_reads_302, ↓fX10_reads_303, ↓fX10_reads_306, ↓fX10_reads_307, ↓fX10_reads_310, ↓fX10_reads_313, ↓fX10_reads_314, ↓fX10_reads_315, ↓fX10_reads_318, ↓fX10_reads_319, ↓fX10_reads_320, ↓fX10_reads_323, ↓fX10_reads_327, ↓fX10_reads_328, ↓fX10_reads_331, ↓fX10_reads_332, ↓fX10_reads_335, ↓fX10_reads_336, ↓fX10_reads_337, ↓fX10_reads_340, ↓fX10_reads_341, ↓fX10_reads_344, ↓fX10_reads_345, ↓fX10_reads_348, ↓e1, e24, e23, e26, es6, e24', es, eb, c4, and_self, true_and, and_true, false_and, and_false, not_true_eq_false, not_false_eq_true, or_self, true_or, or_true, false_or, or_false, ite_not, Decidable.not_not, decide_eq_true_eq, Bool.not_true, Bool.not_false, Bool.false_eq_true, Bool.not_eq_true, n10, n20, n21, n30, n31, n32, n40, n41, n42, n43, ↓reduceIte]
      · have es6 : u2 (fM G m p i s v) m 26 v = fM G m p i s v := fM_s26
        have es : u2 (fM G m p i s v) m 24 (i + 1) = fM G m p (i + 1) s v := fM_s24
        have hv2 : 0 ≤ v ∧ v < if i + 1 = p then 1 else if i + 1 = p + 1 then 10 else if i + 1 = p + 2 then 100 else if i + 1 = p + 3 then 1000 else 10000 := by
          refine ⟨hv.1, ?_⟩
          rw [if_neg (by omega), if_neg (by omega), if_neg (by omega), if_neg (by omega)]
          exact hv.2
        rw [if_neg c4, ← ih (i + 1) v (by omega) (by omega) (by omega) hv2]
        rw [fX10_reads_254]
        simp (disch := first | assumption | exact c2_int _ | exact c2_ref _ | exact c2_jk | exact c2_null | omega | exact bI_r _ | exact bI_01 _) only [↓fX10_reads_0, ↓fX10_reads_1, ↓fX10_reads_2, ↓fX10_reads_5, ↓fX10_reads_8, ↓fX10_reads_9, ↓fX10_reads_10, ↓fX10_reads_13, ↓fX10_reads_15, ↓fX10_reads_17, ↓fX10_reads_20, ↓fX10_reads_23, ↓fX10_reads_24, ↓fX10_reads_25, ↓fX10_reads_28, ↓fX10_reads_30, ↓fX10_reads_32, ↓fX10_reads_35, ↓fX10_reads_38, ↓fX10_reads_39, ↓fX10_reads_40, ↓fX10_reads_43, ↓fX10_reads_44, ↓fX10_reads_45, ↓fX10_reads_48, ↓fX10_reads_51, ↓fX10_reads_52, ↓fX10_reads_53, ↓fX10_reads_56, ↓fX10_reads_57, ↓fX10_reads_58, ↓fX10_reads_61, ↓fX10_reads_62, ↓fX10_reads_63, ↓fX10_reads_66, ↓fX10_reads_67, ↓fX10_reads_70, ↓fX10_reads_73, ↓fX10_reads_74, ↓fX10_reads_77, ↓fX10_reads_78, ↓fX10_reads_81, ↓fX10_reads_82, ↓fX10_reads_85, ↓fX10_reads_86, ↓fX10_reads_88, ↓fX10_reads_91, ↓fX10_reads_92, ↓fX10_reads_95, ↓fX10_reads_96, ↓fX10_reads_99, ↓fX10_reads_100, ↓fX10_reads_101, ↓fX10_reads_104, ↓fX10_reads_106, ↓fX10_reads_108, ↓fX10_reads_111, ↓fX10_reads_114, ↓fX10_reads_115, ↓fX10_reads_116, ↓fX10_reads_119, ↓fX10_reads_120, ↓fX10_reads_121, ↓fX10_reads_124, ↓fX10_reads_127, ↓fX10_reads_128, ↓fX10_reads_129, ↓fX10_reads_132, ↓fX10_reads_134, ↓fX10_reads_136, ↓fX10_reads_139, ↓fX10_reads_142, ↓fX10_reads_143, ↓fX10_reads_144, ↓fX10_reads_147, ↓fX10_reads_148, ↓fX10_reads_151, ↓fX10_reads_152, ↓fX10_reads_154, ↓fX10_reads_157, ↓fX10_reads_160, ↓fX10_reads_161, ↓fX10_reads_164, ↓fX10_reads_165, ↓fX10_reads_166, ↓fX10_reads_169, ↓fX10_reads_170, ↓fX10_reads_173, ↓fX10_reads_174, ↓fX10_reads_175, ↓fX10_reads_176, ↓fX10_reads_179, ↓fX10_reads_180, ↓fX10_reads_183, ↓fX10_reads_184, ↓fX10_reads_187, ↓fX10_reads_188, ↓fX10_reads_189, ↓fX10_reads_192, ↓fX10_reads_193, ↓fX10_reads_194, ↓fX10_reads_197, ↓fX10_reads_200, ↓fX10_reads_201, ↓fX10_reads_202, ↓fX10_reads_205, ↓fX10_reads_206, ↓fX10_reads_209, ↓fX10_reads_210, ↓fX10_reads_212, ↓fX10_reads_215, ↓fX10_reads_216, ↓fX10_reads_219, ↓fX10_reads_220, ↓fX10_reads_223, ↓fX10_reads_226, ↓fX10_reads_227, ↓fX10_reads_228, ↓fX10_reads_231, ↓fX10_reads_233, ↓fX10_reads_235, ↓fX10_reads_238, ↓fX10_reads_241, ↓fX10_reads_242, ↓fX10_reads_243, ↓fX10_reads_246, ↓fX10_reads_247, ↓fX10_reads_248, ↓fX10_reads_251, ↓fX10_reads_255, ↓fX10_reads_256, ↓fX10_reads_259, ↓fX10_reads_261, ↓fX10_reads_263, ↓fX10_reads_266, ↓fX10_reads_269, ↓fX10_reads_270, ↓fX10_reads_271, ↓fX10_reads_274, ↓fX10_reads_275, ↓fX10_reads_278, ↓fX10_reads_279, ↓fX10_reads_280, ↓fX10_reads_283, ↓fX10_reads_285, ↓fX10_reads_286, ↓fX10_reads_289, ↓fX10_reads_290, ↓fX10_reads_291, ↓fX10_reads_294, ↓fX10_reads_295, ↓fX10_reads_298, ↓fX10_reads_299, ↓fX10_reads_300, ↓fX10_reads_302, ↓fX10_reads_303, ↓fX10_reads_306, ↓fX10_reads_307, ↓fX10_reads_310, ↓fX10_reads_313, ↓fX10_reads_314, ↓fX10_reads_315, ↓fX10_reads_318, ↓fX10_reads_319, ↓fX10_reads_320, ↓fX10_reads_323, ↓fX10_reads_327, ↓fX10_reads_328, ↓fX10_reads_331, ↓fX10_reads_332, ↓fX10_reads_335, ↓fX10_reads_336, ↓fX10_reads_337, ↓fX10_reads_340, ↓fX10_reads_341, ↓fX10_reads_344, ↓fX10_reads_345, ↓fX10_reads_348, ↓e1, e24, e23, e26, es6, es, c4, and_self, true_and, and_true, false_and, and_false, not_true_eq_false, not_false_eq_true, or_self, true_or, or_true, false_or, or_false, ite_not, Decidable.not_not, decide_eq_true_eq, Bool.not_true, Bool.not_false, Bool.false_eq_true, Bool.not_eq_true, n10, n20, n21, n30, n31, n32, n40, n41, n42, n43, ↓reduceIte]
    · rw [if_neg c, if_neg c]
      refine stop i v (by omega) h3 ?_
      by_cases z : i < n
      · cases q : dgt (B i)
        · rfl
        · exact absurd ⟨z, q⟩ c
      · exact off i (by omega)
end BM
