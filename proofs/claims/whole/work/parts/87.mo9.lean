/-! Calls of the reference that only look. -/
section BM
variable {E : AE} {G G1 G2 G' L : Nat → Nat → Int} {r : Nat → Nat → Option Nat} {h : AH} {Q : AH → Value → Prop} {m M n : Nat} {σ τ : Nat → Int} {P : Int → Bool} {s o y x w i p v lo hi t b d e c f g k : Int}
/-- the chain -/
theorem m_chain_fin {l0 l1 l2 l6 l8 : Value} {le_ y b : Int} (hw : 0 ≤ w ∧ w ≤ 2) (hb : b = 0 ∨ b = 1) : RK MX10_chain 198 [l0, l1, l2, .int (zi w), .int (zi le_), .int (zi y), l6, .int (zi b), l8] [] (0, 0) h Q = Q h (.int (zi (if w = 0 then le_ else if w = 1 then y else b))) := by
  have hx : w = 0 ∨ w = 1 ∨ w = 2 := by omega
  rcases hx with rfl | rfl | rfl
  · simp (disch := first | assumption | exact c2_int _ | exact c2_ref _ | exact c2_jk | exact c2_null | omega | exact bI_r _ | exact bI_01 _) only [↓fX10_chain_0, ↓fX10_chain_1, ↓fX10_chain_2, ↓fX10_chain_3, ↓fX10_chain_4, ↓fX10_chain_7, ↓fX10_chain_10, ↓fX10_chain_13, ↓fX10_chain_14, ↓fX10_chain_17, ↓fX10_chain_18, ↓fX10_chain_19, ↓fX10_chain_22, ↓fX10_chain_25, ↓fX10_chain_26, ↓fX10_chain_29, ↓fX10_chain_30, ↓fX10_chain_33, ↓fX10_chain_36, ↓fX10_chain_37, ↓fX10_chain_38, ↓fX10_chain_39, ↓fX10_chain_40, ↓fX10_chain_41, ↓fX10_chain_44, ↓fX10_chain_47, ↓fX10_chain_48, ↓fX10_chain_49, ↓fX10_chain_52, ↓fX10_chain_53, ↓fX10_chain_54, ↓fX10_chain_55, ↓fX10_chain_58, ↓fX10_chain_59, ↓fX10_chain_61, ↓fX10_chain_63, ↓fX10_chain_66, ↓fX10_chain_69, ↓fX10_chain_70, ↓fX10_chain_73, ↓fX10_chain_75, ↓fX10_chain_76, ↓fX10_chain_76z, ↓fX10_chain_77, ↓fX10_chain_80, ↓fX10_chain_83, ↓fX10_chain_84, ↓fX10_chain_86, ↓fX10_chain_87, ↓fX10_chain_89, ↓fX10_chain_90, ↓fX10_chain_92, ↓fX10_chain_93, ↓fX10_chain_95, ↓fX10_chain_97, ↓fX10_chain_100, ↓fX10_chain_101, ↓fX10_chain_104, ↓fX10_chain_105, ↓fX10_chain_106, ↓fX10_chain_108, ↓fX10_chain_111, ↓fX10_chain_112, ↓fX10_chain_112z, ↓fX10_chain_113, ↓fX10_chain_116, ↓fX10_chain_118, ↓fX10_chain_119, ↓fX10_chain_120, ↓fX10_chain_121, ↓fX10_chain_124, ↓fX10_chain_125, ↓fX10_chain_128, ↓fX10_chain_130, ↓fX10_chain_132, ↓fX10_chain_135, ↓fX10_chain_136, ↓fX10_chain_139, ↓fX10_chain_140, ↓fX10_chain_143, ↓fX10_chain_145, ↓fX10_chain_146, ↓fX10_chain_147, ↓fX10_chain_148, ↓fX10_chain_149, ↓fX10_chain_152, ↓fX10_chain_153, ↓fX10_chain_156, ↓fX10_chain_157, ↓fX10_chain_159, ↓fX10_chain_161, ↓fX10_chain_164, ↓fX10_chain_166, ↓fX10_chain_169, ↓fX10_chain_170, ↓fX10_chain_173, ↓fX10_chain_174, ↓fX10_chain_176, ↓fX10_chain_178, ↓fX10_chain_181, ↓fX10_chain_183, ↓fX10_chain_186, ↓fX10_chain_187, ↓fX10_chain_188, ↓fX10_chain_190, ↓fX10_chain_193, ↓fX10_chain_195, ↓fX10_chain_198, ↓fX10_chain_199, ↓fX10_chain_202, ↓fX10_chain_204, ↓fX10_chain_207, ↓fX10_chain_208, ↓fX10_chain_209, ↓fX10_chain_212, ↓fX10_chain_214, ↓fX10_chain_217, ↓fX10_chain_219, ↓fX10_chain_222, ↓fX10_chain_223, ↓fX10_chain_226, ↓fX10_chain_227, and_self, true_and, and_true, false_and, and_false, not_true_eq_false, not_false_eq_true, or_self, true_or, or_true, false_or, or_false, ite_not, Decidable.not_not, decide_eq_true_eq, Bool.not_true, Bool.not_false, Bool.false_eq_true, Bool.not_eq_true, n10, n20, n21, n30, n31, n32, n40, n41, n42, n43, ↓reduceIte]
  · simp (disch := first | assumption | exact c2_int _ | exact c2_ref _ | exact c2_jk | exact c2_null | omega | exact bI_r _ | exact bI_01 _) only [↓fX10_chain_0, ↓fX10_chain_1, ↓fX10_chain_2, ↓fX10_chain_3, ↓fX10_chain_4, ↓fX10_chain_7, ↓fX10_chain_10, ↓fX10_chain_13, ↓fX10_chain_14, ↓fX10_chain_17, ↓fX10_chain_18, ↓fX10_chain_19, ↓fX10_chain_22, ↓fX10_chain_25, ↓fX10_chain_26, ↓fX10_chain_29, ↓fX10_chain_30, ↓fX10_chain_33, ↓fX10_chain_36, ↓fX10_chain_37, ↓fX10_chain_38, ↓fX10_chain_39, ↓fX10_chain_40, ↓fX10_chain_41, ↓fX10_chain_44, ↓fX10_chain_47, ↓fX10_chain_48, ↓fX10_chain_49, ↓fX10_chain_52, ↓fX10_chain_53, ↓fX10_chain_54, ↓fX10_chain_55, ↓fX10_chain_58, ↓fX10_chain_59, ↓fX10_chain_61, ↓fX10_chain_63, ↓fX10_chain_66, ↓fX10_chain_69, ↓fX10_chain_70, ↓fX10_chain_73, ↓fX10_chain_75, ↓fX10_chain_76, ↓fX10_chain_76z, ↓fX10_chain_77, ↓fX10_chain_80, ↓fX10_chain_83, ↓fX10_chain_84, ↓fX10_chain_86, ↓fX10_chain_87, ↓fX10_chain_89, ↓fX10_chain_90, ↓fX10_chain_92, ↓fX10_chain_93, ↓fX10_chain_95, ↓fX10_chain_97, ↓fX10_chain_100, ↓fX10_chain_101, ↓fX10_chain_104, ↓fX10_chain_105, ↓fX10_chain_106, ↓fX10_chain_108, ↓fX10_chain_111, ↓fX10_chain_112, ↓fX10_chain_112z, ↓fX10_chain_113, ↓fX10_chain_116, ↓fX10_chain_118, ↓fX10_chain_119, ↓fX10_chain_120, ↓fX10_chain_121, ↓fX10_chain_124, ↓fX10_chain_125, ↓fX10_chain_128, ↓fX10_chain_130, ↓fX10_chain_132, ↓fX10_chain_135, ↓fX10_chain_136, ↓fX10_chain_139, ↓fX10_chain_140, ↓fX10_chain_143, ↓fX10_chain_145, ↓fX10_chain_146, ↓fX10_chain_147, ↓fX10_chain_148, ↓fX10_chain_149, ↓fX10_chain_152, ↓fX10_chain_153, ↓fX10_chain_156, ↓fX10_chain_157, ↓fX10_chain_159, ↓fX10_chain_161, ↓fX10_chain_164, ↓fX10_chain_166, ↓fX10_chain_169, ↓fX10_chain_170, ↓fX10_chain_173, ↓fX10_chain_174, ↓fX10_chain_176, ↓fX10_chain_178, ↓fX10_chain_181, ↓fX10_chain_183, ↓fX10_chain_186, ↓fX10_chain_187, ↓fX10_chain_188, ↓fX10_chain_190, ↓fX10_chain_193, ↓fX10_chain_195, ↓fX10_chain_198, ↓fX10_chain_199, ↓fX10_chain_202, ↓fX10_chain_204, ↓fX10_chain_207, ↓fX10_chain_208, ↓fX10_chain_209, ↓fX10_chain_212, ↓fX10_chain_214, ↓fX10_chain_217, ↓fX10_chain_219, ↓fX10_chain_222, ↓fX10_chain_223, ↓fX10_chain_226, ↓fX10_chain_227, and_self, true_and, and_true, false_and, and_false, not_true_eq_false, not_false_eq_true, or_self, true_or, or_true, false_or, or_false, ite_not, Decidable.not_not, decide_eq_true_eq, Bool.not_true, Bool.not_false, Bool.false_eq_true, Bool.not_eq_true, n10, n20, n21, n30, n31, n32, n40, n41, n42, n43, ↓reduceIte]
  · rcases hb with rfl | rfl
    · simp (disch := first | assumption | exact c2_int _ | exact c2_ref _ | exact c2_jk | exact c2_null | omega | exact bI_r _ | exact bI_01 _) only [↓fX10_chain_0, ↓fX10_chain_1, ↓fX10_chain_2, ↓fX10_chain_3, ↓fX10_chain_4, ↓fX10_chain_7, ↓fX10_chain_10, ↓fX10_chain_13, ↓fX10_chain_14, ↓fX10_chain_17, ↓fX10_chain_18, ↓fX10_chain_19, ↓fX10_chain_22, ↓fX10_chain_25, ↓fX10_chain_26, ↓fX10_chain_29, ↓fX10_chain_30, ↓fX10_chain_33, ↓fX10_chain_36, ↓fX10_chain_37, ↓fX10_chain_38, ↓fX10_chain_39, ↓fX10_chain_40, ↓fX10_chain_41, ↓fX10_chain_44, ↓fX10_chain_47, ↓fX10_chain_48, ↓fX10_chain_49, ↓fX10_chain_52, ↓fX10_chain_53, ↓fX10_chain_54, ↓fX10_chain_55, ↓fX10_chain_58, ↓fX10_chain_59, ↓fX10_chain_61, ↓fX10_chain_63, ↓fX10_chain_66, ↓fX10_chain_69, ↓fX10_chain_70, ↓fX10_chain_73, ↓fX10_chain_75, ↓fX10_chain_76, ↓fX10_chain_76z, ↓fX10_chain_77, ↓fX10_chain_80, ↓fX10_chain_83, ↓fX10_chain_84, ↓fX10_chain_86, ↓fX10_chain_87, ↓fX10_chain_89, ↓fX10_chain_90, ↓fX10_chain_92, ↓fX10_chain_93, ↓fX10_chain_95, ↓fX10_chain_97, ↓fX10_chain_100, ↓fX10_chain_101, ↓fX10_chain_104, ↓fX10_chain_105, ↓fX10_chain_106, ↓fX10_chain_108, ↓fX10_chain_111, ↓fX10_chain_112, ↓fX10_chain_112z, ↓fX10_chain_113, ↓fX10_chain_116, ↓fX10_chain_118, ↓fX10_chain_119, ↓fX10_chain_120, ↓fX10_chain_121, ↓fX10_chain_124, ↓fX10_chain_125, ↓fX10_chain_128, ↓fX10_chain_130, ↓fX10_chain_132, ↓fX10_chain_135, ↓fX10_chain_136, ↓fX10_chain_139, ↓fX10_chain_140, ↓fX10_chain_143, ↓fX10_chain_145, ↓fX10_chain_146, ↓fX10_chain_147, ↓fX10_chain_148, ↓fX10_chain_149, ↓fX10_chain_152, ↓fX10_chain_153, ↓fX10_chain_156, ↓fX10_chain_157, ↓fX10_chain_159, ↓fX10_chain_161, ↓fX10_chain_164, ↓fX10_chain_166, ↓fX10_chain_169, ↓fX10_chain_170, ↓fX10_chain_173, ↓fX10_chain_174, ↓fX10_chain_176, ↓fX10_chain_178, ↓fX10_chain_181, ↓fX10_chain_183, ↓fX10_chain_186, ↓fX10_chain_187, ↓fX10_chain_188, ↓fX10_chain_190, ↓fX10_chain_193, ↓fX10_chain_195, ↓fX10_chain_198, ↓fX10_chain_199, ↓fX10_chain_202, ↓fX10_chain_204, ↓fX10_chain_207, ↓fX10_chain_208, ↓fX10_chain_209, ↓fX10_chain_212, ↓fX10_chain_214, ↓fX10_chain_217, ↓fX10_chain_219, ↓fX10_chain_222, ↓fX10_chain_223, ↓fX10_chain_226, ↓fX10_chain_227, and_self, true_and, and_true, false_and, and_false, not_true_eq_false, not_false_eq_true, or_self, true_or, or_true, false_or, or_false, ite_not, Decidable.not_not, decide_eq_true_eq, Bool.not_true, Bool.not_false, Bool.false_eq_true, Bool.not_eq_true, n10, n20, n21, n30, n31, n32, n40, n41, n42, n43, ↓reduceIte]
    · simp (disch := first | assumption | exact c2_int _ | exact c2_ref _ | exact c2_jk | exact c2_null | omega | exact bI_r _ | exact bI_01 _) only [↓fX10_chain_0, ↓fX10_chain_1, ↓fX10_chain_2, ↓fX10_chain_3, ↓fX10_chain_4, ↓fX10_chain_7, ↓fX10_chain_10, ↓fX10_chain_13, ↓fX10_chain_14, ↓fX10_chain_17, ↓fX10_chain_18, ↓fX10_chain_19, ↓fX10_chain_22, ↓fX10_chain_25, ↓fX10_chain_26, ↓fX10_chain_29, ↓fX10_chain_30, ↓fX10_chain_33, ↓fX10_chain_36, ↓fX10_chain_37, ↓fX10_chain_38, ↓fX10_chain_39, ↓fX10_chain_40, ↓fX10_chain_41, ↓fX10_chain_44, ↓fX10_chain_47, ↓fX10_chain_48, ↓fX10_chain_49, ↓fX10_chain_52, ↓fX10_chain_53, ↓fX10_chain_54, ↓fX10_chain_55, ↓fX10_chain_58, ↓fX10_chain_59, ↓fX10_chain_61, ↓fX10_chain_63, ↓fX10_chain_66, ↓fX10_chain_69, ↓fX10_chain_70, ↓fX10_chain_73, ↓fX10_chain_75, ↓fX10_chain_76, ↓fX10_chain_76z, ↓fX10_chain_77, ↓fX10_chain_80, ↓fX10_chain_83, ↓fX10_chain_84, ↓fX10_chain_86, ↓fX10_chain_87, ↓fX10_chain_89, ↓fX10_chain_90, ↓fX10_chain_92, ↓fX10_chain_93, ↓fX10_chain_95, ↓fX10_chain_97, ↓fX10_chain_100, ↓fX10_chain_101, ↓fX10_chain_104, ↓fX10_chain_105, ↓fX10_chain_106, ↓fX10_chain_108, ↓fX10_chain_111, ↓fX10_chain_112, ↓fX10_chain_112z, ↓fX10_chain_113, ↓fX10_chain_116, ↓fX10_chain_118, ↓fX10_chain_119, ↓fX10_chain_120, ↓fX10_chain_121, ↓fX10_chain_124, ↓fX10_chain_125, ↓fX10_chain_128, ↓fX10_chain_130, ↓fX10_chain_132, ↓fX10_chain_135, ↓fX10_chain_136, ↓fX10_chain_139, ↓fX10_chain_140, ↓fX10_chain_143, ↓fX10_chain_145, ↓fX10_chain_146, ↓fX10_chain_147, ↓fX10_chain_148, ↓fX10_chain_149, ↓fX10_chain_152, ↓fX10_chain_153, ↓fX10_chain_156, ↓fX10_chain_157, ↓fX10_chain_159, ↓fX10_chain_161, ↓fX10_chain_164, ↓fX10_chain_166, ↓fX10_chain_169, ↓fX10_chain_170, ↓fX10_chain_173, ↓fX10_chain_174, ↓fX10_chain_176, ↓fX10_chain_178, ↓fX10_chain_181, ↓fX10_chain_183, ↓fX10_chain_186, ↓fX10_chain_187, ↓fX10_chain_188, ↓fX10_chain_190, ↓fX10_chain_193, ↓fX10_chain_195, ↓fX10_chain_198, ↓fX10_chain_199, ↓fX10_chain_202, ↓fX10_chain_204, ↓fX10_chain_207, ↓fX10_chain_208, ↓fX10_chain_209, ↓fX10_chain_212, ↓fX10_chain_214, ↓fX10_chain_217, ↓fX10_chain_219, ↓fX10_chain_222, ↓fX10_chain_223, ↓fX10_chain_226, ↓fX10_chain_227, and_self, true_and, and_true, false_and, and_false, not_true_eq_false, not_false_eq_true, or_self, true_or, or_true, false_or, or_false, ite_not, Decidable.not_not, decide_eq_true_eq, Bool.not_true, Bool.not_false, Bool.false_eq_true, Bool.not_eq_true, n10, n20, n21, n30, n31, n32, n40, n41, n42, n43, ↓reduceIte]
def vsN (v : Int → Bool) : Int → Bool := fun i => v (i + 1)
theorem vsN_add {v : Int → Bool} {p : Int} {N : Nat} (hp : 1 ≤ p ∧ p ≤ N) (hv : v p = false) : ctN (vsN (fun q => decide (q = p) || v q)) N = ctN (vsN v) N + 1 := by
  have := ctN_one (P := vsN (fun q => decide (q = p) || v q)) (P' := vsN v) (n := N) (i := (p - 1).toNat) (by omega) (by
    show (decide ((((p - 1).toNat : Nat) : Int) + 1 = p) || v _) = true
    rw [decide_eq_true (by omega)]
    rfl) (by
    show v ((((p - 1).toNat : Nat) : Int) + 1) = false
    rw [show (((p - 1).toNat : Nat) : Int) + 1 = p by omega]
    exact hv) fun j hj hne => by
    show v ((j : Int) + 1) = (decide ((j : Int) + 1 = p) || v ((j : Int) + 1))
    rw [decide_eq_false (by omega)]
    rfl
  omega
theorem vsN_lt {v : Int → Bool} {p : Int} {N : Nat} (hp : 1 ≤ p ∧ p ≤ N) (hv : v p = false) : ctN (vsN v) N < N := by
  have h1 := vsN_add hp hv
  have h2 := (ctN_b (vsN (fun q => decide (q = p) || v q)) N).2
  omega
def chA (σ : Nat → Int) (w : Int) (R : Int × Int × Int) : Int := if w = 0 then R.2.2 else if w = 1 then R.2.1 else bI (1 ≤ R.1 ∧ R.1 ≤ szS σ)
theorem m_chain_loop (hm : shM E r m) (hs : 0 ≤ s ∧ s ≤ 4) (hl : SL G m s σ) (hW : WF σ) (ha : LAS G m σ) (hw : 0 ≤ w ∧ w ≤ 2) {l2 : Value} : ∀ (k : Nat) (p le_ : Int) (v : Int → Bool) (H : Nat → Nat → Int) (l8 : Value) (la : Int), (∀ x, x ≠ m + 8 → H x = G x) → (1 ≤ p ∧ p ≤ szS σ) → v p = false → le_ = ctN (vsN v) (szS σ).toNat → (∀ q, 1 ≤ q → q ≤ szS σ → H (m + 8) (ixN (hbS σ) (σ 3).toNat q) = bI (v q = true)) → szS σ - le_ ≤ k →
    ∃ H', (∀ x, x ≠ m + 8 → H' x = G x) ∧ ∀ Q, RK MX10_chain 95 [.ref m, .int (zi s), l2, .int (zi w), .int (zi le_), .int (zi (nAS σ p)), .int (zi 0), .int (zi 0), l8] [] (0, 0) (E, zg H, zk L, r) Q = Q (E, zg H', zk L, r) (.int (zi (chA σ w (chL (nAS σ) (szS σ) k p la le_ v)))) := by
  have m0 := hm.1
  have hz := szS_b hW
  have w3 := hW.2.2.2.1
  obtain ⟨ka7, la7, ra7⟩ := hm.2.2.2.2.2.2.2.1
  obtain ⟨ka8, la8, ra8⟩ := hm.2.2.2.2.2.2.2.2.1
  have hN : (((szS σ).toNat : Nat) : Int) = szS σ := Int.toNat_of_nonneg (by omega)
  intro k
  induction k with
  | zero =>
    intro p le_ v H l8 la hH hp hv hle hmk hk
    have := vsN_lt (N := (szS σ).toNat) (by omega) hv
    omega
  | succ k ih =>
    intro p le_ v H l8 la hH hp hv hle hmk hk
    have hlt := vsN_lt (N := (szS σ).toNat) (by omega) hv
    have hadd := vsN_add (N := (szS σ).toNat) (by omega) hv
    have hcb := ctN_b (vsN v) (szS σ).toNat
    have hlH : SL H m s σ := SL_c hl (hH _ (by omega))
    have hl1 : ∀ H2 : Nat → Nat → Int, (∀ x, x ≠ m + 8 → H2 x = G x) → SL H2 m s σ ∧ LAS H2 m σ ∧ H2 m 12 = szS σ ∧ H2 (m + 7) = G (m + 7) := fun H2 h2 => ⟨SL_c hl (h2 _ (by omega)), LAP_c ha (h2 _ (by omega)) (by rw [h2 m (by omega)]), by rw [h2 m (by omega)]; exact ha.1, h2 _ (by omega)⟩
    have hix := ixN_ok (hbS σ) (σ 3).toNat p hp.1 hp.2
    have hn := nAS_0 hW hp
    have en : nAS σ p = σ 1 + σ 2 * (ixN (hbS σ) (σ 3).toNat p : Int) := if_pos hp
    have ei : iXS σ (nAS σ p) = (ixN (hbS σ) (σ 3).toNat p : Int) := by rw [en, iXS_of hW (by omega)]
    have eL : chL (nAS σ) (szS σ) (k + 1) p la le_ v = chL (nAS σ) (szS σ) k (nAS σ p) (nAS σ p) (le_ + 1) (fun q => decide (q = p) || v q) := by
      rw [chL, if_pos ⟨hp.1, hp.2, hv, by omega⟩]
    let H1 : Nat → Nat → Int := u2 H (m + 8) (ixN (hbS σ) (σ 3).toNat p) 1
    have hH1 : ∀ x, x ≠ m + 8 → H1 x = G x := fun x hx => (u2_a _ _ _ _ hx).trans (hH x hx)
    obtain ⟨b1, b2, b3, b4⟩ := hl1 H1 hH1
    have hmk1 : ∀ q, 1 ≤ q → q ≤ szS σ → H1 (m + 8) (ixN (hbS σ) (σ 3).toNat q) = bI ((decide (q = p) || v q) = true) := by
      intro q q1 q2
      by_cases c : q = p
      · subst c
        rw [bI_p (by rw [decide_eq_true rfl]; rfl)]
        exact u2_s _ _ _ _
      · have hne : ixN (hbS σ) (σ 3).toNat q ≠ ixN (hbS σ) (σ 3).toNat p := by
          intro z
          have := ixN_ok (hbS σ) (σ 3).toNat q q1 q2
          rw [z] at this
          omega
        rw [show (decide (q = p) || v q) = v q by rw [decide_eq_false c]; rfl, ← hmk q q1 q2]
        exact u2_i _ _ _ _ hne
    have eU : u2 H (m + 8) ((ixN (hbS σ) (σ 3).toNat p : Int)).toNat 1 = H1 := by rw [Int.toNat_natCast]
    rw [eL]
    by_cases c1 : 1 ≤ nAS σ p ∧ nAS σ p ≤ szS σ
    · have eb : bI (1 ≤ nAS σ p ∧ nAS σ p ≤ szS σ) = 1 := bI_p c1
      have hh := ha.2 (nAS σ p) c1.1 c1.2
      have hhx := ixN_ok (hbS σ) (σ 3).toNat (nAS σ p) c1.1 c1.2
      have hmv := hmk1 (nAS σ p) c1.1 c1.2
      have ec : H1 (m + 8) (ixN (hbS σ) (σ 3).toNat (nAS σ p) : Int).toNat = bI ((decide (nAS σ p = p) || v (nAS σ p)) = true) := by rw [Int.toNat_natCast]; exact hmv
      by_cases c2 : (decide (nAS σ p = p) || v (nAS σ p)) = true
      · rw [bI_p c2] at ec
        have eR : chL (nAS σ) (szS σ) k (nAS σ p) (nAS σ p) (le_ + 1) (fun q => decide (q = p) || v q) = (nAS σ p, nAS σ p, le_ + 1) := by
          cases k with
          | zero => rfl
          | succ k =>
            rw [chL, if_neg]
            intro z
            have z3 : (decide (nAS σ p = p) || v (nAS σ p)) = false := z.2.2.1
            rw [c2] at z3
            exact absurd z3 (by decide)
        have fin := fun Q => m_chain_fin (h := (E, zg H1, zk L, r)) (Q := Q) (l0 := .ref m) (l1 := .int (zi s)) (l2 := l2) (l6 := .int (zi 1)) (l8 := .int (zi 1)) (le_ := le_ + 1) (y := nAS σ p) hw (b := 1) (Or.inr rfl)
        have e1 : chA σ w (nAS σ p, nAS σ p, le_ + 1) = if w = 0 then le_ + 1 else if w = 1 then nAS σ p else 1 := by
          unfold chA
          dsimp only
          rw [eb]
        refine ⟨H1, hH1, fun Q => ?_⟩
        rw [eR, e1, ← fin Q, fX10_chain_95]
        simp (disch := first | assumption | exact c2_int _ | exact c2_ref _ | exact c2_jk | exact c2_null | omega | exact bI_r _ | exact bI_01 _) only [↓fX10_chain_0, ↓fX10_chain_1, ↓fX10_chain_2, ↓fX10_chain_3, ↓fX10_chain_4, ↓fX10_chain_7, ↓fX10_chain_10, ↓fX10_chain_13, ↓fX10_chain_14, ↓fX10_chain_17, ↓fX10_chain_18, ↓fX10_chain_19, ↓fX10_chain_22, ↓fX10_chain_25, ↓fX10_chain_26, ↓fX10_chain_29, ↓fX10_chain_30, ↓fX10_chain_33, ↓fX10_chain_36, ↓fX10_chain_37, ↓fX10_chain_38, ↓fX10_chain_39, ↓fX10_chain_40, ↓fX10_chain_41, ↓fX10_chain_44, ↓fX10_chain_47, ↓fX10_chain_48, ↓fX10_chain_49, ↓fX10_chain_52, ↓fX10_chain_53, ↓fX10_chain_54, ↓fX10_chain_55, ↓fX10_chain_58, ↓fX10_chain_59, ↓fX10_chain_61, ↓fX10_chain_63, ↓fX10_chain_66, ↓fX10_chain_69, ↓fX10_chain_70, ↓fX10_chain_73, ↓fX10_chain_75, ↓fX10_chain_76, ↓fX10_chain_76z, ↓fX10_chain_77, ↓fX10_chain_80, ↓fX10_chain_83, ↓fX10_chain_84, ↓fX10_chain_86, ↓fX10_chain_87, ↓fX10_chain_89, ↓fX10_chain_90, ↓fX10_chain_92, ↓fX10_chain_93, ↓fX10_chain_97, ↓fX10_chain_100, ↓fX10_chain_101, ↓fX10_chain_104, ↓fX10_chain_105, ↓fX10_chain_106, ↓fX10_chain_108, ↓fX10_chain_111, ↓fX10_chain_112, ↓fX10_chain_112z, ↓fX10_chain_113, ↓fX10_chain_116, ↓fX10_chain_118, ↓fX10_chain_119, ↓fX10_chain_120, ↓fX10_chain_121, ↓fX10_chain_124, ↓fX10_chain_125, ↓fX10_chain_128, ↓fX10_chain_130, ↓fX10_chain_132, ↓fX10_chain_135, ↓fX10_chain_136, ↓fX10_chain_139, ↓fX10_chain_140, ↓fX10_chain_143, ↓fX10_chain_145, ↓fX10_chain_146, ↓fX10_chain_147, ↓fX10_chain_148, ↓fX10_chain_149, ↓fX10_chain_152, ↓fX10_chain_153, ↓fX10_chain_156, ↓fX10_chain_157, ↓fX10_chain_159, ↓fX10_chain_161, ↓fX10_chain_164, ↓fX10_chain_166, ↓fX10_chain_169, ↓fX10_chain_170, ↓fX10_chain_173, ↓fX10_chain_174, ↓fX10_chain_176, ↓fX10_chain_178, ↓fX10_chain_181, ↓fX10_chain_183, ↓fX10_chain_186, ↓fX10_chain_187, ↓fX10_chain_188, ↓fX10_chain_190, ↓fX10_chain_193, ↓fX10_chain_195, ↓fX10_chain_199, ↓fX10_chain_202, ↓fX10_chain_204, ↓fX10_chain_207, ↓fX10_chain_208, ↓fX10_chain_209, ↓fX10_chain_212, ↓fX10_chain_214, ↓fX10_chain_217, ↓fX10_chain_219, ↓fX10_chain_222, ↓fX10_chain_223, ↓fX10_chain_226, ↓fX10_chain_227, ↓m_indexOf, ↓m_isIn, ei, eU, eb, b3, b4, hh, ec, and_self, true_and, and_true, false_and, and_false, not_true_eq_false, not_false_eq_true, or_self, true_or, or_true, false_or, or_false, ite_not, Decidable.not_not, decide_eq_true_eq, Bool.not_true, Bool.not_false, Bool.false_eq_true, Bool.not_eq_true, n10, n20, n21, n30, n31, n32, n40, n41, n42, n43, ↓reduceIte]
        rw [fX10_chain_95]
        simp (disch := first | assumption | exact c2_int _ | exact c2_ref _ | exact c2_jk | exact c2_null | omega | exact bI_r _ | exact bI_01 _) only [↓fX10_chain_0, ↓fX10_chain_1, ↓fX10_chain_2, ↓fX10_chain_3, ↓fX10_chain_4, ↓fX10_chain_7, ↓fX10_chain_10, ↓fX10_chain_13, ↓fX10_chain_14, ↓fX10_chain_17, ↓fX10_chain_18, ↓fX10_chain_19, ↓fX10_chain_22, ↓fX10_chain_25, ↓fX10_chain_26, ↓fX10_chain_29, ↓fX10_chain_30, ↓fX10_chain_33, ↓fX10_chain_36, ↓fX10_chain_37, ↓fX10_chain_38, ↓fX10_chain_39, ↓fX10_chain_40, ↓fX10_chain_41, ↓fX10_chain_44, ↓fX10_chain_47, ↓fX10_chain_48, ↓fX10_chain_49, ↓fX10_chain_52, ↓fX10_chain_53, ↓fX10_chain_54, ↓fX10_chain_55, ↓fX10_chain_58, ↓fX10_chain_59, ↓fX10_chain_61, ↓fX10_chain_63, ↓fX10_chain_66, ↓fX10_chain_69, ↓fX10_chain_70, ↓fX10_chain_73, ↓fX10_chain_75, ↓fX10_chain_76, ↓fX10_chain_76z, ↓fX10_chain_77, ↓fX10_chain_80, ↓fX10_chain_83, ↓fX10_chain_84, ↓fX10_chain_86, ↓fX10_chain_87, ↓fX10_chain_89, ↓fX10_chain_90, ↓fX10_chain_92, ↓fX10_chain_93, ↓fX10_chain_97, ↓fX10_chain_100, ↓fX10_chain_101, ↓fX10_chain_104, ↓fX10_chain_105, ↓fX10_chain_106, ↓fX10_chain_108, ↓fX10_chain_111, ↓fX10_chain_112, ↓fX10_chain_112z, ↓fX10_chain_113, ↓fX10_chain_116, ↓fX10_chain_118, ↓fX10_chain_119, ↓fX10_chain_120, ↓fX10_chain_121, ↓fX10_chain_124, ↓fX10_chain_125, ↓fX10_chain_128, ↓fX10_chain_130, ↓fX10_chain_132, ↓fX10_chain_135, ↓fX10_chain_136, ↓fX10_chain_139, ↓fX10_chain_140, ↓fX10_chain_143, ↓fX10_chain_145, ↓fX10_chain_146, ↓fX10_chain_147, ↓fX10_chain_148, ↓fX10_chain_149, ↓fX10_chain_152, ↓fX10_chain_153, ↓fX10_chain_156, ↓fX10_chain_157, ↓fX10_chain_159, ↓fX10_chain_161, ↓fX10_chain_164, ↓fX10_chain_166, ↓fX10_chain_169, ↓fX10_chain_170, ↓fX10_chain_173, ↓fX10_chain_174, ↓fX10_chain_176, ↓fX10_chain_178, ↓fX10_chain_181, ↓fX10_chain_183, ↓fX10_chain_186, ↓fX10_chain_187, ↓fX10_chain_188, ↓fX10_chain_190, ↓fX10_chain_193, ↓fX10_chain_195, ↓fX10_chain_199, ↓fX10_chain_202, ↓fX10_chain_204, ↓fX10_chain_207, ↓fX10_chain_208, ↓fX10_chain_209, ↓fX10_chain_212, ↓fX10_chain_214, ↓fX10_chain_217, ↓fX10_chain_219, ↓fX10_chain_222, ↓fX10_chain_223, ↓fX10_chain_226, ↓fX10_chain_227, and_self, true_and, and_true, false_and, and_false, not_true_eq_false, not_false_eq_true, or_self, true_or, or_true, false_or, or_false, ite_not, Decidable.not_not, decide_eq_true_eq, Bool.not_true, Bool.not_false, Bool.false_eq_true, Bool.not_eq_true, n10, n20, n21, n30, n31, n32, n40, n41, n42, n43, ↓reduceIte]
      · have c2' : (decide (nAS σ p = p) || v (nAS σ p)) = false := by simpa using c2
        rw [bI_n c2] at ec
        obtain ⟨H', p1, p2⟩ := ih (nAS σ p) (le_ + 1) (fun q => decide (q = p) || v q) H1 (.int (zi 1)) (nAS σ p) hH1 c1 c2' (by omega) hmk1 (by omega)
        refine ⟨H', p1, fun Q => ?_⟩
        rw [← p2 Q, fX10_chain_95]
        simp (disch := first | assumption | exact c2_int _ | exact c2_ref _ | exact c2_jk | exact c2_null | omega | exact bI_r _ | exact bI_01 _) only [↓fX10_chain_0, ↓fX10_chain_1, ↓fX10_chain_2, ↓fX10_chain_3, ↓fX10_chain_4, ↓fX10_chain_7, ↓fX10_chain_10, ↓fX10_chain_13, ↓fX10_chain_14, ↓fX10_chain_17, ↓fX10_chain_18, ↓fX10_chain_19, ↓fX10_chain_22, ↓fX10_chain_25, ↓fX10_chain_26, ↓fX10_chain_29, ↓fX10_chain_30, ↓fX10_chain_33, ↓fX10_chain_36, ↓fX10_chain_37, ↓fX10_chain_38, ↓fX10_chain_39, ↓fX10_chain_40, ↓fX10_chain_41, ↓fX10_chain_44, ↓fX10_chain_47, ↓fX10_chain_48, ↓fX10_chain_49, ↓fX10_chain_52, ↓fX10_chain_53, ↓fX10_chain_54, ↓fX10_chain_55, ↓fX10_chain_58, ↓fX10_chain_59, ↓fX10_chain_61, ↓fX10_chain_63, ↓fX10_chain_66, ↓fX10_chain_69, ↓fX10_chain_70, ↓fX10_chain_73, ↓fX10_chain_75, ↓fX10_chain_76, ↓fX10_chain_76z, ↓fX10_chain_77, ↓fX10_chain_80, ↓fX10_chain_83, ↓fX10_chain_84, ↓fX10_chain_86, ↓fX10_chain_87, ↓fX10_chain_89, ↓fX10_chain_90, ↓fX10_chain_92, ↓fX10_chain_93, ↓fX10_chain_97, ↓fX10_chain_100, ↓fX10_chain_101, ↓fX10_chain_104, ↓fX10_chain_105, ↓fX10_chain_106, ↓fX10_chain_108, ↓fX10_chain_111, ↓fX10_chain_112, ↓fX10_chain_112z, ↓fX10_chain_113, ↓fX10_chain_116, ↓fX10_chain_118, ↓fX10_chain_119, ↓fX10_chain_120, ↓fX10_chain_121, ↓fX10_chain_124, ↓fX10_chain_125, ↓fX10_chain_128, ↓fX10_chain_130, ↓fX10_chain_132, ↓fX10_chain_135, ↓fX10_chain_136, ↓fX10_chain_139, ↓fX10_chain_140, ↓fX10_chain_143, ↓fX10_chain_145, ↓fX10_chain_146, ↓fX10_chain_147, ↓fX10_chain_148, ↓fX10_chain_149, ↓fX10_chain_152, ↓fX10_chain_153, ↓fX10_chain_156, ↓fX10_chain_157, ↓fX10_chain_159, ↓fX10_chain_161, ↓fX10_chain_164, ↓fX10_chain_166, ↓fX10_chain_169, ↓fX10_chain_170, ↓fX10_chain_173, ↓fX10_chain_174, ↓fX10_chain_176, ↓fX10_chain_178, ↓fX10_chain_181, ↓fX10_chain_183, ↓fX10_chain_186, ↓fX10_chain_187, ↓fX10_chain_188, ↓fX10_chain_190, ↓fX10_chain_193, ↓fX10_chain_195, ↓fX10_chain_198, ↓fX10_chain_199, ↓fX10_chain_202, ↓fX10_chain_204, ↓fX10_chain_207, ↓fX10_chain_208, ↓fX10_chain_209, ↓fX10_chain_212, ↓fX10_chain_214, ↓fX10_chain_217, ↓fX10_chain_219, ↓fX10_chain_222, ↓fX10_chain_223, ↓fX10_chain_226, ↓fX10_chain_227, ↓m_indexOf, ↓m_isIn, ↓m_at, ei, eU, eb, b3, b4, hh, ec, and_self, true_and, and_true, false_and, and_false, not_true_eq_false, not_false_eq_true, or_self, true_or, or_true, false_or, or_false, ite_not, Decidable.not_not, decide_eq_true_eq, Bool.not_true, Bool.not_false, Bool.false_eq_true, Bool.not_eq_true, n10, n20, n21, n30, n31, n32, n40, n41, n42, n43, ↓reduceIte]
    · have eb : bI (1 ≤ nAS σ p ∧ nAS σ p ≤ szS σ) = 0 := bI_n c1
      have eR : chL (nAS σ) (szS σ) k (nAS σ p) (nAS σ p) (le_ + 1) (fun q => decide (q = p) || v q) = (nAS σ p, nAS σ p, le_ + 1) := by
        cases k with
        | zero => rfl
        | succ k =>
          rw [chL, if_neg]
          exact fun z => c1 ⟨z.1, z.2.1⟩
      have fin := fun Q => m_chain_fin (h := (E, zg H1, zk L, r)) (Q := Q) (l0 := .ref m) (l1 := .int (zi s)) (l2 := l2) (l6 := .int (zi 1)) (l8 := .int (zi 0)) (le_ := le_ + 1) (y := nAS σ p) hw (b := 0) (Or.inl rfl)
      have e1 : chA σ w (nAS σ p, nAS σ p, le_ + 1) = if w = 0 then le_ + 1 else if w = 1 then nAS σ p else 0 := by
        unfold chA
        dsimp only
        rw [eb]
      refine ⟨H1, hH1, fun Q => ?_⟩
      rw [eR, e1, ← fin Q, fX10_chain_95]
      simp (disch := first | assumption | exact c2_int _ | exact c2_ref _ | exact c2_jk | exact c2_null | omega | exact bI_r _ | exact bI_01 _) only [↓fX10_chain_0, ↓fX10_chain_1, ↓fX10_chain_2, ↓fX10_chain_3, ↓fX10_chain_4, ↓fX10_chain_7, ↓fX10_chain_10, ↓fX10_chain_13, ↓fX10_chain_14, ↓fX10_chain_17, ↓fX10_chain_18, ↓fX10_chain_19, ↓fX10_chain_22, ↓fX10_chain_25, ↓fX10_chain_26, ↓fX10_chain_29, ↓fX10_chain_30, ↓fX10_chain_33, ↓fX10_chain_36, ↓fX10_chain_37, ↓fX10_chain_38, ↓fX10_chain_39, ↓fX10_chain_40, ↓fX10_chain_41, ↓fX10_chain_44, ↓fX10_chain_47, ↓fX10_chain_48, ↓fX10_chain_49, ↓fX10_chain_52, ↓fX10_chain_53, ↓fX10_chain_54, ↓fX10_chain_55, ↓fX10_chain_58, ↓fX10_chain_59, ↓fX10_chain_61, ↓fX10_chain_63, ↓fX10_chain_66, ↓fX10_chain_69, ↓fX10_chain_70, ↓fX10_chain_73, ↓fX10_chain_75, ↓fX10_chain_76, ↓fX10_chain_76z, ↓fX10_chain_77, ↓fX10_chain_80, ↓fX10_chain_83, ↓fX10_chain_84, ↓fX10_chain_86, ↓fX10_chain_87, ↓fX10_chain_89, ↓fX10_chain_90, ↓fX10_chain_92, ↓fX10_chain_93, ↓fX10_chain_97, ↓fX10_chain_100, ↓fX10_chain_101, ↓fX10_chain_104, ↓fX10_chain_105, ↓fX10_chain_106, ↓fX10_chain_108, ↓fX10_chain_111, ↓fX10_chain_112, ↓fX10_chain_112z, ↓fX10_chain_113, ↓fX10_chain_116, ↓fX10_chain_118, ↓fX10_chain_119, ↓fX10_chain_120, ↓fX10_chain_121, ↓fX10_chain_124, ↓fX10_chain_125, ↓fX10_chain_128, ↓fX10_chain_130, ↓fX10_chain_132, ↓fX10_chain_135, ↓fX10_chain_136, ↓fX10_chain_139, ↓fX10_chain_140, ↓fX10_chain_143, ↓fX10_chain_145, ↓fX10_chain_146, ↓fX10_chain_147, ↓fX10_chain_148, ↓fX10_chain_149, ↓fX10_chain_152, ↓fX10_chain_153, ↓fX10_chain_156, ↓fX10_chain_157, ↓fX10_chain_159, ↓fX10_chain_161, ↓fX10_chain_164, ↓fX10_chain_166, ↓fX10_chain_169, ↓fX10_chain_170, ↓fX10_chain_173, ↓fX10_chain_174, ↓fX10_chain_176, ↓fX10_chain_178, ↓fX10_chain_181, ↓fX10_chain_183, ↓fX10_chain_186, ↓fX10_chain_187, ↓fX10_chain_188, ↓fX10_chain_190, ↓fX10_chain_193, ↓fX10_chain_195, ↓fX10_chain_199, ↓fX10_chain_202, ↓fX10_chain_204, ↓fX10_chain_207, ↓fX10_chain_208, ↓fX10_chain_209, ↓fX10_chain_212, ↓fX10_chain_214, ↓fX10_chain_217, ↓fX10_chain_219, ↓fX10_chain_222, ↓fX10_chain_223, ↓fX10_chain_226, ↓fX10_chain_227, ↓m_indexOf, ↓m_isIn, ei, eU, eb, b3, and_self, true_and, and_true, false_and, and_false, not_true_eq_false, not_false_eq_true, or_self, true_or, or_true, false_or, or_false, ite_not, Decidable.not_not, decide_eq_true_eq, Bool.not_true, Bool.not_false, Bool.false_eq_true, Bool.not_eq_true, n10, n20, n21, n30, n31, n32, n40, n41, n42, n43, ↓reduceIte]
      rw [fX10_chain_95]
      simp (disch := first | assumption | exact c2_int _ | exact c2_ref _ | exact c2_jk | exact c2_null | omega | exact bI_r _ | exact bI_01 _) only [↓fX10_chain_0, ↓fX10_chain_1, ↓fX10_chain_2, ↓fX10_chain_3, ↓fX10_chain_4, ↓fX10_chain_7, ↓fX10_chain_10, ↓fX10_chain_13, ↓fX10_chain_14, ↓fX10_chain_17, ↓fX10_chain_18, ↓fX10_chain_19, ↓fX10_chain_22, ↓fX10_chain_25, ↓fX10_chain_26, ↓fX10_chain_29, ↓fX10_chain_30, ↓fX10_chain_33, ↓fX10_chain_36, ↓fX10_chain_37, ↓fX10_chain_38, ↓fX10_chain_39, ↓fX10_chain_40, ↓fX10_chain_41, ↓fX10_chain_44, ↓fX10_chain_47, ↓fX10_chain_48, ↓fX10_chain_49, ↓fX10_chain_52, ↓fX10_chain_53, ↓fX10_chain_54, ↓fX10_chain_55, ↓fX10_chain_58, ↓fX10_chain_59, ↓fX10_chain_61, ↓fX10_chain_63, ↓fX10_chain_66, ↓fX10_chain_69, ↓fX10_chain_70, ↓fX10_chain_73, ↓fX10_chain_75, ↓fX10_chain_76, ↓fX10_chain_76z, ↓fX10_chain_77, ↓fX10_chain_80, ↓fX10_chain_83, ↓fX10_chain_84, ↓fX10_chain_86, ↓fX10_chain_87, ↓fX10_chain_89, ↓fX10_chain_90, ↓fX10_chain_92, ↓fX10_chain_93, ↓fX10_chain_97, ↓fX10_chain_100, ↓fX10_chain_101, ↓fX10_chain_104, ↓fX10_chain_105, ↓fX10_chain_106, ↓fX10_chain_108, ↓fX10_chain_111, ↓fX10_chain_112, ↓fX10_chain_112z, ↓fX10_chain_113, ↓fX10_chain_116, ↓fX10_chain_118, ↓fX10_chain_119, ↓fX10_chain_120, ↓fX10_chain_121, ↓fX10_chain_124, ↓fX10_chain_125, ↓fX10_chain_128, ↓fX10_chain_130, ↓fX10_chain_132, ↓fX10_chain_135, ↓fX10_chain_136, ↓fX10_chain_139, ↓fX10_chain_140, ↓fX10_chain_143, ↓fX10_chain_145, ↓fX10_chain_146, ↓fX10_chain_147, ↓fX10_chain_148, ↓fX10_chain_149, ↓fX10_chain_152, ↓fX10_chain_153, ↓fX10_chain_156, ↓fX10_chain_157, ↓fX10_chain_159, ↓fX10_chain_161, ↓fX10_chain_164, ↓fX10_chain_166, ↓fX10_chain_169, ↓fX10_chain_170, ↓fX10_chain_173, ↓fX10_chain_174, ↓fX10_chain_176, ↓fX10_chain_178, ↓fX10_chain_181, ↓fX10_chain_183, ↓fX10_chain_186, ↓fX10_chain_187, ↓fX10_chain_188, ↓fX10_chain_190, ↓fX10_chain_193, ↓fX10_chain_195, ↓fX10_chain_199, ↓fX10_chain_202, ↓fX10_chain_204, ↓fX10_chain_207, ↓fX10_chain_208, ↓fX10_chain_209, ↓fX10_chain_212, ↓fX10_chain_214, ↓fX10_chain_217, ↓fX10_chain_219, ↓fX10_chain_222, ↓fX10_chain_223, ↓fX10_chain_226, ↓fX10_chain_227, and_self, true_and, and_true, false_and, and_false, not_true_eq_false, not_false_eq_true, or_self, true_or, or_true, false_or, or_false, ite_not, Decidable.not_not, decide_eq_true_eq, Bool.not_true, Bool.not_false, Bool.false_eq_true, Bool.not_eq_true, n10, n20, n21, n30, n31, n32, n40, n41, n42, n43, ↓reduceIte]
theorem m_chain_clear (hm : shM E r m) {x1 x2 x3 : Int} {l5 l6 l7 l8 : Value} : ∀ (k : Nat) (i : Int) (H : Nat → Nat → Int), 600 - i ≤ k → 0 ≤ i → i ≤ 600 → (∀ j : Nat, (j : Int) < i → H (m + 8) j = 0) →
    ∃ H', (∀ x, x ≠ m + 8 → H' x = H x) ∧ (∀ j : Nat, j < 600 → H' (m + 8) j = 0) ∧ ∀ Q, RK MX10_chain 61 [.ref m, .int (zi x1), .int (zi x2), .int (zi x3), .int (zi i), l5, l6, l7, l8] [] (0, 0) (E, zg H, zk L, r) Q = RK MX10_chain 83 [.ref m, .int (zi x1), .int (zi x2), .int (zi x3), .int (zi 600), l5, l6, l7, l8] [] (0, 0) (E, zg H', zk L, r) Q := by
  have m0 := hm.1
  obtain ⟨ka8, la8, ra8⟩ := hm.2.2.2.2.2.2.2.2.1
  intro k
  induction k with
  | zero =>
    intro i H h1 h2 h3 h4
    have h6 : ¬ (600 : Int) < 600 := by decide
    rw [show i = 600 by omega]
    refine ⟨H, fun _ _ => rfl, fun j hj => h4 j (by omega), fun Q => ?_⟩
    simp (disch := first | assumption | exact c2_int _ | exact c2_ref _ | exact c2_jk | exact c2_null | omega | exact bI_r _ | exact bI_01 _) only [↓fX10_chain_0, ↓fX10_chain_1, ↓fX10_chain_2, ↓fX10_chain_3, ↓fX10_chain_4, ↓fX10_chain_7, ↓fX10_chain_10, ↓fX10_chain_13, ↓fX10_chain_14, ↓fX10_chain_17, ↓fX10_chain_18, ↓fX10_chain_19, ↓fX10_chain_22, ↓fX10_chain_25, ↓fX10_chain_26, ↓fX10_chain_29, ↓fX10_chain_30, ↓fX10_chain_33, ↓fX10_chain_36, ↓fX10_chain_37, ↓fX10_chain_38, ↓fX10_chain_39, ↓fX10_chain_40, ↓fX10_chain_41, ↓fX10_chain_44, ↓fX10_chain_47, ↓fX10_chain_48, ↓fX10_chain_49, ↓fX10_chain_52, ↓fX10_chain_53, ↓fX10_chain_54, ↓fX10_chain_55, ↓fX10_chain_58, ↓fX10_chain_59, ↓fX10_chain_61, ↓fX10_chain_63, ↓fX10_chain_66, ↓fX10_chain_69, ↓fX10_chain_70, ↓fX10_chain_73, ↓fX10_chain_75, ↓fX10_chain_76, ↓fX10_chain_76z, ↓fX10_chain_77, ↓fX10_chain_80, ↓fX10_chain_84, ↓fX10_chain_86, ↓fX10_chain_87, ↓fX10_chain_89, ↓fX10_chain_90, ↓fX10_chain_92, ↓fX10_chain_93, ↓fX10_chain_95, ↓fX10_chain_97, ↓fX10_chain_100, ↓fX10_chain_101, ↓fX10_chain_104, ↓fX10_chain_105, ↓fX10_chain_106, ↓fX10_chain_108, ↓fX10_chain_111, ↓fX10_chain_112, ↓fX10_chain_112z, ↓fX10_chain_113, ↓fX10_chain_116, ↓fX10_chain_118, ↓fX10_chain_119, ↓fX10_chain_120, ↓fX10_chain_121, ↓fX10_chain_124, ↓fX10_chain_125, ↓fX10_chain_128, ↓fX10_chain_130, ↓fX10_chain_132, ↓fX10_chain_135, ↓fX10_chain_136, ↓fX10_chain_139, ↓fX10_chain_140, ↓fX10_chain_143, ↓fX10_chain_145, ↓fX10_chain_146, ↓fX10_chain_147, ↓fX10_chain_148, ↓fX10_chain_149, ↓fX10_chain_152, ↓fX10_chain_153, ↓fX10_chain_156, ↓fX10_chain_157, ↓fX10_chain_159, ↓fX10_chain_161, ↓fX10_chain_164, ↓fX10_chain_166, ↓fX10_chain_169, ↓fX10_chain_170, ↓fX10_chain_173, ↓fX10_chain_174, ↓fX10_chain_176, ↓fX10_chain_178, ↓fX10_chain_181, ↓fX10_chain_183, ↓fX10_chain_186, ↓fX10_chain_187, ↓fX10_chain_188, ↓fX10_chain_190, ↓fX10_chain_193, ↓fX10_chain_195, ↓fX10_chain_198, ↓fX10_chain_199, ↓fX10_chain_202, ↓fX10_chain_204, ↓fX10_chain_207, ↓fX10_chain_208, ↓fX10_chain_209, ↓fX10_chain_212, ↓fX10_chain_214, ↓fX10_chain_217, ↓fX10_chain_219, ↓fX10_chain_222, ↓fX10_chain_223, ↓fX10_chain_226, ↓fX10_chain_227, h6, and_self, true_and, and_true, false_and, and_false, not_true_eq_false, not_false_eq_true, or_self, true_or, or_true, false_or, or_false, ite_not, Decidable.not_not, decide_eq_true_eq, Bool.not_true, Bool.not_false, Bool.false_eq_true, Bool.not_eq_true, n10, n20, n21, n30, n31, n32, n40, n41, n42, n43, ↓reduceIte]
  | succ k ih =>
    intro i H h1 h2 h3 h4
    by_cases h6 : i < 600
    · obtain ⟨H', p1, p2, p3⟩ := ih (i + 1) (u2 H (m + 8) i.toNat 0) (by omega) (by omega) (by omega) fun j hj => by
        show (if m + 8 = m + 8 ∧ j = i.toNat then (0 : Int) else H (m + 8) j) = 0
        by_cases q : j = i.toNat
        · rw [if_pos ⟨rfl, q⟩]
        · rw [if_neg (fun z => q z.2)]
          exact h4 j (by omega)
      refine ⟨H', fun x hx => (p1 x hx).trans (u2_a _ _ _ _ hx), p2, fun Q => ?_⟩
      rw [← p3 Q, fX10_chain_61]
      simp (disch := first | assumption | exact c2_int _ | exact c2_ref _ | exact c2_jk | exact c2_null | omega | exact bI_r _ | exact bI_01 _) only [↓fX10_chain_0, ↓fX10_chain_1, ↓fX10_chain_2, ↓fX10_chain_3, ↓fX10_chain_4, ↓fX10_chain_7, ↓fX10_chain_10, ↓fX10_chain_13, ↓fX10_chain_14, ↓fX10_chain_17, ↓fX10_chain_18, ↓fX10_chain_19, ↓fX10_chain_22, ↓fX10_chain_25, ↓fX10_chain_26, ↓fX10_chain_29, ↓fX10_chain_30, ↓fX10_chain_33, ↓fX10_chain_36, ↓fX10_chain_37, ↓fX10_chain_38, ↓fX10_chain_39, ↓fX10_chain_40, ↓fX10_chain_41, ↓fX10_chain_44, ↓fX10_chain_47, ↓fX10_chain_48, ↓fX10_chain_49, ↓fX10_chain_52, ↓fX10_chain_53, ↓fX10_chain_54, ↓fX10_chain_55, ↓fX10_chain_58, ↓fX10_chain_59, ↓fX10_chain_63, ↓fX10_chain_66, ↓fX10_chain_69, ↓fX10_chain_70, ↓fX10_chain_73, ↓fX10_chain_75, ↓fX10_chain_76, ↓fX10_chain_76z, ↓fX10_chain_77, ↓fX10_chain_80, ↓fX10_chain_84, ↓fX10_chain_86, ↓fX10_chain_87, ↓fX10_chain_89, ↓fX10_chain_90, ↓fX10_chain_92, ↓fX10_chain_93, ↓fX10_chain_95, ↓fX10_chain_97, ↓fX10_chain_100, ↓fX10_chain_101, ↓fX10_chain_104, ↓fX10_chain_105, ↓fX10_chain_106, ↓fX10_chain_108, ↓fX10_chain_111, ↓fX10_chain_112, ↓fX10_chain_112z, ↓fX10_chain_113, ↓fX10_chain_116, ↓fX10_chain_118, ↓fX10_chain_119, ↓fX10_chain_120, ↓fX10_chain_121, ↓fX10_chain_124, ↓fX10_chain_125, ↓fX10_chain_128, ↓fX10_chain_130, ↓fX10_chain_132, ↓fX10_chain_135, ↓fX10_chain_136, ↓fX10_chain_139, ↓fX10_chain_140, ↓fX10_chain_143, ↓fX10_chain_145, ↓fX10_chain_146, ↓fX10_chain_147, ↓fX10_chain_148, ↓fX10_chain_149, ↓fX10_chain_152, ↓fX10_chain_153, ↓fX10_chain_156, ↓fX10_chain_157, ↓fX10_chain_159, ↓fX10_chain_161, ↓fX10_chain_164, ↓fX10_chain_166, ↓fX10_chain_169, ↓fX10_chain_170, ↓fX10_chain_173, ↓fX10_chain_174, ↓fX10_chain_176, ↓fX10_chain_178, ↓fX10_chain_181, ↓fX10_chain_183, ↓fX10_chain_186, ↓fX10_chain_187, ↓fX10_chain_188, ↓fX10_chain_190, ↓fX10_chain_193, ↓fX10_chain_195, ↓fX10_chain_198, ↓fX10_chain_199, ↓fX10_chain_202, ↓fX10_chain_204, ↓fX10_chain_207, ↓fX10_chain_208, ↓fX10_chain_209, ↓fX10_chain_212, ↓fX10_chain_214, ↓fX10_chain_217, ↓fX10_chain_219, ↓fX10_chain_222, ↓fX10_chain_223, ↓fX10_chain_226, ↓fX10_chain_227, h6, and_self, true_and, and_true, false_and, and_false, not_true_eq_false, not_false_eq_true, or_self, true_or, or_true, false_or, or_false, ite_not, Decidable.not_not, decide_eq_true_eq, Bool.not_true, Bool.not_false, Bool.false_eq_true, Bool.not_eq_true, n10, n20, n21, n30, n31, n32, n40, n41, n42, n43, ↓reduceIte]
    · have h7 : ¬ (600 : Int) < 600 := by decide
      rw [show i = 600 by omega]
      refine ⟨H, fun _ _ => rfl, fun j hj => h4 j (by omega), fun Q => ?_⟩
      simp (disch := first | assumption | exact c2_int _ | exact c2_ref _ | exact c2_jk | exact c2_null | omega | exact bI_r _ | exact bI_01 _) only [↓fX10_chain_0, ↓fX10_chain_1, ↓fX10_chain_2, ↓fX10_chain_3, ↓fX10_chain_4, ↓fX10_chain_7, ↓fX10_chain_10, ↓fX10_chain_13, ↓fX10_chain_14, ↓fX10_chain_17, ↓fX10_chain_18, ↓fX10_chain_19, ↓fX10_chain_22, ↓fX10_chain_25, ↓fX10_chain_26, ↓fX10_chain_29, ↓fX10_chain_30, ↓fX10_chain_33, ↓fX10_chain_36, ↓fX10_chain_37, ↓fX10_chain_38, ↓fX10_chain_39, ↓fX10_chain_40, ↓fX10_chain_41, ↓fX10_chain_44, ↓fX10_chain_47, ↓fX10_chain_48, ↓fX10_chain_49, ↓fX10_chain_52, ↓fX10_chain_53, ↓fX10_chain_54, ↓fX10_chain_55, ↓fX10_chain_58, ↓fX10_chain_59, ↓fX10_chain_61, ↓fX10_chain_63, ↓fX10_chain_66, ↓fX10_chain_69, ↓fX10_chain_70, ↓fX10_chain_73, ↓fX10_chain_75, ↓fX10_chain_76, ↓fX10_chain_76z, ↓fX10_chain_77, ↓fX10_chain_80, ↓fX10_chain_84, ↓fX10_chain_86, ↓fX10_chain_87, ↓fX10_chain_89, ↓fX10_chain_90, ↓fX10_chain_92, ↓fX10_chain_93, ↓fX10_chain_95, ↓fX10_chain_97, ↓fX10_chain_100, ↓fX10_chain_101, ↓fX10_chain_104, ↓fX10_chain_105, ↓fX10_chain_106, ↓fX10_chain_108, ↓fX10_chain_111, ↓fX10_chain_112, ↓fX10_chain_112z, ↓fX10_chain_113, ↓fX10_chain_116, ↓fX10_chain_118, ↓fX10_chain_119, ↓fX10_chain_120, ↓fX10_chain_121, ↓fX10_chain_124, ↓fX10_chain_125, ↓fX10_chain_128, ↓fX10_chain_130, ↓fX10_chain_132, ↓fX10_chain_135, ↓fX10_chain_136, ↓fX10_chain_139, ↓fX10_chain_140, ↓fX10_chain_143, ↓fX10_chain_145, ↓fX10_chain_146, ↓fX10_chain_147, ↓fX10_chain_148, ↓fX10_chain_149, ↓fX10_chain_152, ↓fX10_chain_153, ↓fX10_chain_156, ↓fX10_chain_157, ↓fX10_chain_159, ↓fX10_chain_161, ↓fX10_chain_164, ↓fX10_chain_166, ↓fX10_chain_169, ↓fX10_chain_170, ↓fX10_chain_173, ↓fX10_chain_174, ↓fX10_chain_176, ↓fX10_chain_178, ↓fX10_chain_181, ↓fX10_chain_183, ↓fX10_chain_186, ↓fX10_chain_187, ↓fX10_chain_188, ↓fX10_chain_190, ↓fX10_chain_193, ↓fX10_chain_195, ↓fX10_chain_198, ↓fX10_chain_199, ↓fX10_chain_202, ↓fX10_chain_204, ↓fX10_chain_207, ↓fX10_chain_208, ↓fX10_chain_209, ↓fX10_chain_212, ↓fX10_chain_214, ↓fX10_chain_217, ↓fX10_chain_219, ↓fX10_chain_222, ↓fX10_chain_223, ↓fX10_chain_226, ↓fX10_chain_227, h7, and_self, true_and, and_true, false_and, and_false, not_true_eq_false, not_false_eq_true, or_self, true_or, or_true, false_or, or_false, ite_not, Decidable.not_not, decide_eq_true_eq, Bool.not_true, Bool.not_false, Bool.false_eq_true, Bool.not_eq_true, n10, n20, n21, n30, n31, n32, n40, n41, n42, n43, ↓reduceIte]
theorem ctN_none : ∀ n : Nat, ctN (vsN (fun _ => false)) n = 0 := by
  intro n
  induction n with
  | zero => rfl
  | succ n ih => rw [ctN, ih]; rfl
theorem chA_0 (hW : WF σ) : ∀ (k : Nat) (p la le_ : Int) (v : Int → Bool), 0 ≤ le_ → 0 ≤ la → 0 ≤ chA σ w (chL (nAS σ) (szS σ) k p la le_ v) := by
  have fin : ∀ p la le_ : Int, 0 ≤ le_ → 0 ≤ la → 0 ≤ chA σ w (p, la, le_) := by
    intro p la le_ h1 h2
    unfold chA
    dsimp only
    have := bI_01 (1 ≤ p ∧ p ≤ szS σ)
    split
    · exact h1
    · split
      · exact h2
      · omega
  intro k
  induction k with
  | zero => intro p la le_ v h1 h2; exact fin _ _ _ h1 h2
  | succ k ih =>
    intro p la le_ v h1 h2
    unfold chL
    by_cases c : 1 ≤ p ∧ p ≤ szS σ ∧ v p = false ∧ le_ < szS σ
    · rw [if_pos c]
      exact ih _ _ _ _ (by omega) (nAS_0 hW ⟨c.1, c.2.1⟩).1
    · rw [if_neg c]
      exact fin _ _ _ h1 h2
theorem chZ_A (h : ¬ poZ σ x = -1) : chZ σ x w = chA σ w (chZ0 σ x) := if_neg h
/-- the mirror -/
def pdR (g : Int → Int) (a b : Int) : Prop := ∀ j, a ≤ j → j ≤ b → g j = g (a + b - j)
def imL (g : Int → Int) (lo hi : Int) : Nat → Int → Int
  | 0, _ => 1
  | k + 1, i => if lo + i < hi - i then (if g (lo + i) = g (hi - i) then imL g lo hi k (i + 1) else 0) else 1
theorem imL_pd (g : Int → Int) (lo hi : Int) : ∀ (k : Nat) (i : Int), hi - lo ≤ 2 * i + k → 0 ≤ i → (∀ j, 0 ≤ j → j < i → g (lo + j) = g (hi - j)) → (imL g lo hi k i = 1 ∧ pdR g lo hi) ∨ (imL g lo hi k i = 0 ∧ ¬ pdR g lo hi) := by
  have fin : ∀ i, 0 ≤ i → hi - lo ≤ 2 * i → (∀ j, 0 ≤ j → j < i → g (lo + j) = g (hi - j)) → pdR g lo hi := by
    intro i h0 h1 h j j1 j2
    by_cases c : j - lo < i
    · have := h (j - lo) (by omega) c
      rw [show lo + (j - lo) = j by omega, show hi - (j - lo) = lo + hi - j by omega] at this
      exact this
    · by_cases c2 : hi - j < i
      · have := h (hi - j) (by omega) c2
        rw [show lo + (hi - j) = lo + hi - j by omega, show hi - (hi - j) = j by omega] at this
        exact this.symm
      · rw [show lo + hi - j = j by omega]
  intro k
  induction k with
  | zero =>
    intro i h1 h2 h3
    exact Or.inl ⟨rfl, fin i h2 (by omega) h3⟩
  | succ k ih =>
    intro i h1 h2 h3
    unfold imL
    by_cases c : lo + i < hi - i
    · rw [if_pos c]
      by_cases c2 : g (lo + i) = g (hi - i)
      · rw [if_pos c2]
        exact ih (i + 1) (by omega) (by omega) fun j j1 j2 => by
          by_cases z : j = i
          · rw [z]
            exact c2
          · exact h3 j j1 (by omega)
      · rw [if_neg c2]
        refine Or.inr ⟨rfl, fun z => c2 ?_⟩
        have := z (lo + i) (by omega) (by omega)
        rw [show lo + hi - (lo + i) = hi - i by omega] at this
        exact this
    · rw [if_neg c]
      exact Or.inl ⟨rfl, fin i h2 (by omega) h3⟩
theorem m_isMirror_loop (hm : shM E r m) (hs : 0 ≤ s ∧ s ≤ 4) (hl : SL G m s σ) (hW : WF σ) (ha : LAS G m σ) {lo hi : Int} (hlo : 1 ≤ lo) (hlh : lo ≤ hi) (hhi : hi < szS σ) : ∀ (k : Nat) (i : Int), hi - lo ≤ 2 * i + k → 0 ≤ i → (i = 0 ∨ lo + i ≤ hi + 1) →
    RK MX10_isMirror 3 [.ref m, .int (zi s), .int (zi lo), .int (zi hi), .int (zi i)] [] (0, 0) (E, zg G, zk L, r) Q = Q (E, zg G, zk L, r) (.int (zi (imL (gAS σ) lo hi k i))) := by
  have m0 := hm.1
  have hz := szS_b hW
  intro k
  induction k with
  | zero =>
    intro i h1 h2 h3
    have b0 : (0 ≤ hi - i ∧ hi - i ≤ 600) ∧ 0 ≤ lo + i ∧ lo + i ≤ 601 := by omega
    have h6 : ¬ lo + i < hi - i := by omega
    simp (disch := first | assumption | exact c2_int _ | exact c2_ref _ | exact c2_jk | exact c2_null | omega | exact bI_r _ | exact bI_01 _) only [↓fX10_isMirror_0, ↓fX10_isMirror_1, ↓fX10_isMirror_3, ↓fX10_isMirror_4, ↓fX10_isMirror_6, ↓fX10_isMirror_7, ↓fX10_isMirror_8, ↓fX10_isMirror_10, ↓fX10_isMirror_11, ↓fX10_isMirror_14, ↓fX10_isMirror_15, ↓fX10_isMirror_16, ↓fX10_isMirror_17, ↓fX10_isMirror_19, ↓fX10_isMirror_20, ↓fX10_isMirror_23, ↓fX10_isMirror_24, ↓fX10_isMirror_25, ↓fX10_isMirror_26, ↓fX10_isMirror_28, ↓fX10_isMirror_29, ↓fX10_isMirror_32, ↓fX10_isMirror_35, ↓fX10_isMirror_36, ↓fX10_isMirror_37, ↓fX10_isMirror_40, ↓fX10_isMirror_43, ↓fX10_isMirror_44, h6, imL, and_self, true_and, and_true, false_and, and_false, not_true_eq_false, not_false_eq_true, or_self, true_or, or_true, false_or, or_false, ite_not, Decidable.not_not, decide_eq_true_eq, Bool.not_true, Bool.not_false, Bool.false_eq_true, Bool.not_eq_true, n10, n20, n21, n30, n31, n32, n40, n41, n42, n43, ↓reduceIte]
  | succ k ih =>
    intro i h1 h2 h3
    have b0 : (0 ≤ hi - i ∧ hi - i ≤ 600) ∧ 0 ≤ lo + i ∧ lo + i ≤ 601 := by omega
    by_cases h6 : lo + i < hi - i
    · have b1 := gAS_b hW (lo + i)
      have b2 := gAS_b hW (hi - i)
      have ih' := ih (i + 1) (by omega) (by omega) (by omega)
      rw [fX10_isMirror_3]
      by_cases h7 : gAS σ (lo + i) = gAS σ (hi - i)
      · simp (disch := first | assumption | exact c2_int _ | exact c2_ref _ | exact c2_jk | exact c2_null | omega | exact bI_r _ | exact bI_01 _) only [↓fX10_isMirror_0, ↓fX10_isMirror_1, ↓fX10_isMirror_4, ↓fX10_isMirror_6, ↓fX10_isMirror_7, ↓fX10_isMirror_8, ↓fX10_isMirror_10, ↓fX10_isMirror_11, ↓fX10_isMirror_14, ↓fX10_isMirror_15, ↓fX10_isMirror_16, ↓fX10_isMirror_17, ↓fX10_isMirror_19, ↓fX10_isMirror_20, ↓fX10_isMirror_23, ↓fX10_isMirror_24, ↓fX10_isMirror_25, ↓fX10_isMirror_26, ↓fX10_isMirror_28, ↓fX10_isMirror_29, ↓fX10_isMirror_32, ↓fX10_isMirror_35, ↓fX10_isMirror_36, ↓fX10_isMirror_37, ↓fX10_isMirror_40, ↓fX10_isMirror_43, ↓fX10_isMirror_44, ↓m_gapAt, ↓ih', h6, h7, imL, and_self, true_and, and_true, false_and, and_false, not_true_eq_false, not_false_eq_true, or_self, true_or, or_true, false_or, or_false, ite_not, Decidable.not_not, decide_eq_true_eq, Bool.not_true, Bool.not_false, Bool.false_eq_true, Bool.not_eq_true, n10, n20, n21, n30, n31, n32, n40, n41, n42, n43, ↓reduceIte]
      · simp (disch := first | assumption | exact c2_int _ | exact c2_ref _ | exact c2_jk | exact c2_null | omega | exact bI_r _ | exact bI_01 _) only [↓fX10_isMirror_0, ↓fX10_isMirror_1, ↓fX10_isMirror_4, ↓fX10_isMirror_6, ↓fX10_isMirror_7, ↓fX10_isMirror_8, ↓fX10_isMirror_10, ↓fX10_isMirror_11, ↓fX10_isMirror_14, ↓fX10_isMirror_15, ↓fX10_isMirror_16, ↓fX10_isMirror_17, ↓fX10_isMirror_19, ↓fX10_isMirror_20, ↓fX10_isMirror_23, ↓fX10_isMirror_24, ↓fX10_isMirror_25, ↓fX10_isMirror_26, ↓fX10_isMirror_28, ↓fX10_isMirror_29, ↓fX10_isMirror_32, ↓fX10_isMirror_35, ↓fX10_isMirror_36, ↓fX10_isMirror_37, ↓fX10_isMirror_40, ↓fX10_isMirror_43, ↓fX10_isMirror_44, ↓m_gapAt, h6, h7, imL, and_self, true_and, and_true, false_and, and_false, not_true_eq_false, not_false_eq_true, or_self, true_or, or_true, false_or, or_false, ite_not, Decidable.not_not, decide_eq_true_eq, Bool.not_true, Bool.not_false, Bool.false_eq_true, Bool.not_eq_true, n10, n20, n21, n30, n31, n32, n40, n41, n42, n43, ↓reduceIte]
    · simp (disch := first | assumption | exact c2_int _ | exact c2_ref _ | exact c2_jk | exact c2_null | omega | exact bI_r _ | exact bI_01 _) only [↓fX10_isMirror_0, ↓fX10_isMirror_1, ↓fX10_isMirror_3, ↓fX10_isMirror_4, ↓fX10_isMirror_6, ↓fX10_isMirror_7, ↓fX10_isMirror_8, ↓fX10_isMirror_10, ↓fX10_isMirror_11, ↓fX10_isMirror_14, ↓fX10_isMirror_15, ↓fX10_isMirror_16, ↓fX10_isMirror_17, ↓fX10_isMirror_19, ↓fX10_isMirror_20, ↓fX10_isMirror_23, ↓fX10_isMirror_24, ↓fX10_isMirror_25, ↓fX10_isMirror_26, ↓fX10_isMirror_28, ↓fX10_isMirror_29, ↓fX10_isMirror_32, ↓fX10_isMirror_35, ↓fX10_isMirror_36, ↓fX10_isMirror_37, ↓fX10_isMirror_40, ↓fX10_isMirror_43, ↓fX10_isMirror_44, h6, imL, and_self, true_and, and_true, false_and, and_false, not_true_eq_false, not_false_eq_true, or_self, true_or, or_true, false_or, or_false, ite_not, Decidable.not_not, decide_eq_true_eq, Bool.not_true, Bool.not_false, Bool.false_eq_true, Bool.not_eq_true, n10, n20, n21, n30, n31, n32, n40, n41, n42, n43, ↓reduceIte]
theorem m_isMirror (hm : shM E r m) (hs : 0 ≤ s ∧ s ≤ 4) (hl : SL G m s σ) (hW : WF σ) (ha : LAS G m σ) {lo hi : Int} (hlo : 1 ≤ lo) (hlh : lo ≤ hi) (hhi : hi < szS σ) : RK MX10_isMirror 0 [.ref m, .int (zi s), .int (zi lo), .int (zi hi), jk] [] (0, 0) (E, zg G, zk L, r) Q = Q (E, zg G, zk L, r) (.int (zi (imL (gAS σ) lo hi 600 0))) := by
  have m0 := hm.1
  have hz := szS_b hW
  have e := fun Q => m_isMirror_loop (L := L) (Q := Q) hm hs hl hW ha hlo hlh hhi 600 0 (by omega) (by omega) (Or.inl rfl)
  simp (disch := first | assumption | exact c2_int _ | exact c2_ref _ | exact c2_jk | exact c2_null | omega | exact bI_r _ | exact bI_01 _) only [↓fX10_isMirror_0, ↓fX10_isMirror_1, ↓fX10_isMirror_4, ↓fX10_isMirror_6, ↓fX10_isMirror_7, ↓fX10_isMirror_8, ↓fX10_isMirror_10, ↓fX10_isMirror_11, ↓fX10_isMirror_14, ↓fX10_isMirror_15, ↓fX10_isMirror_16, ↓fX10_isMirror_17, ↓fX10_isMirror_19, ↓fX10_isMirror_20, ↓fX10_isMirror_23, ↓fX10_isMirror_24, ↓fX10_isMirror_25, ↓fX10_isMirror_26, ↓fX10_isMirror_28, ↓fX10_isMirror_29, ↓fX10_isMirror_32, ↓fX10_isMirror_35, ↓fX10_isMirror_36, ↓fX10_isMirror_37, ↓fX10_isMirror_40, ↓fX10_isMirror_43, ↓fX10_isMirror_44, ↓e]
theorem im_y {g : Int → Int} {lo hi : Int} (h : hi - lo ≤ 600) (hp : pdR g lo hi) : imL g lo hi 600 0 = 1 := by
  rcases imL_pd g lo hi 600 0 (by omega) (by omega) (fun j j1 j2 => by omega) with ⟨a, b⟩ | ⟨a, b⟩
  · exact a
  · exact absurd hp b
theorem im_n {g : Int → Int} {lo hi : Int} (h : hi - lo ≤ 600) (hp : ¬ pdR g lo hi) : imL g lo hi 600 0 = 0 := by
  rcases imL_pd g lo hi 600 0 (by omega) (by omega) (fun j j1 j2 => by omega) with ⟨a, b⟩ | ⟨a, b⟩
  · exact absurd b hp
  · exact a
theorem mrL_sp (g : Int → Int) (n lo hi : Int) : ∀ (k : Nat) (c : Int), lo ≤ c + k → 0 ≤ c → (∀ t, 0 ≤ t → t < c → 1 ≤ lo - t ∧ hi + t < n ∧ g (lo - t) = g (hi + t)) → c ≤ mrL g n lo hi k c ∧ (∀ t, 0 ≤ t → t < mrL g n lo hi k c → 1 ≤ lo - t ∧ hi + t < n ∧ g (lo - t) = g (hi + t)) ∧ ¬ (1 ≤ lo - mrL g n lo hi k c ∧ hi + mrL g n lo hi k c < n ∧ g (lo - mrL g n lo hi k c) = g (hi + mrL g n lo hi k c)) := by
  intro k
  induction k with
  | zero =>
    intro c h1 h2 h3
    exact ⟨Int.le_refl _, h3, fun z => by have : mrL g n lo hi 0 c = c := rfl; rw [this] at z; omega⟩
  | succ k ih =>
    intro c h1 h2 h3
    unfold mrL
    by_cases q : 1 ≤ lo - c ∧ hi + c < n ∧ g (lo - c) = g (hi + c)
    · rw [if_pos q]
      obtain ⟨a, b, d⟩ := ih (c + 1) (by omega) (by omega) fun t t1 t2 => by
        by_cases z : t = c
        · rw [z]
          exact q
        · exact h3 t t1 (by omega)
      exact ⟨by omega, b, d⟩
    · rw [if_neg q]
      exact ⟨Int.le_refl _, h3, q⟩
/-- of the middles before B -/
def mmI (g : Int → Int) (n B : Int) (s : Int × Int) : Prop := ((s.1 = 0 ∧ s.2 = -1) ∨ (1 ≤ s.1 ∧ 1 ≤ s.2 ∧ s.2 + s.1 - 1 < n ∧ pdR g s.2 (s.2 + s.1 - 1) ∧ 2 * s.2 + s.1 - 1 < B)) ∧ ∀ a b, 1 ≤ a → a ≤ b → b < n → pdR g a b → a + b < B → b - a + 1 < s.1 ∨ (b - a + 1 = s.1 ∧ s.2 ≤ a)
theorem mmS_I (g : Int → Int) (n i ev : Int) (s : Int × Int) (hi : 1 ≤ i ∧ i ≤ 600) (he : ev = 0 ∨ ev = 1) (h : mmI g n (2 * i + ev) s) : mmI g n (2 * i + ev + 1) (mmS g n i ev s) := by
  obtain ⟨p0, p1⟩ := h
  obtain ⟨c0, c1, c2⟩ := mrL_sp g n i (i + ev) 600 0 (by omega) (by omega) (fun t t1 t2 => by omega)
  unfold mmS
  generalize mrL g n i (i + ev) 600 0 = c at c0 c1 c2 ⊢
  have atC : ∀ a b, 1 ≤ a → a ≤ b → b < n → pdR g a b → a + b = 2 * i + ev → i - a < c := by
    intro a b a1 a2 a3 hp hab
    rcases Int.lt_or_le (i - a) c with z | z
    · exact z
    · refine absurd ⟨by omega, by omega, ?_⟩ c2
      have := hp (i - c) (by omega) (by omega)
      rw [this]
      congr 1
      omega
  by_cases q : s.1 < 2 * c + ev - 1
  · rw [if_pos q]
    have hs0 : 0 ≤ s.1 := by
      rcases p0 with z | z
      · omega
      · omega
    have cc := c1 (c - 1) (by omega) (by omega)
    refine ⟨Or.inr ⟨by dsimp only; omega, by dsimp only; omega, by dsimp only; omega, ?_, by dsimp only; omega⟩, ?_⟩
    · intro j j1 j2
      dsimp only at j1 j2 ⊢
      by_cases z : j ≤ i
      · have := (c1 (i - j) (by omega) (by omega)).2.2
        rw [show i - (i - j) = j by omega] at this
        rw [this]
        congr 1
        omega
      · have := (c1 (j - i - ev) (by omega) (by omega)).2.2
        rw [show i + ev + (j - i - ev) = j by omega] at this
        rw [← this]
        congr 1
        omega
    · intro a b a1 a2 a3 hp hab
      dsimp only
      by_cases z : a + b = 2 * i + ev
      · have := atC a b a1 a2 a3 hp z
        omega
      · have := p1 a b a1 a2 a3 hp (by omega)
        omega
  · rw [if_neg q]
    refine ⟨?_, ?_⟩
    · rcases p0 with z | z
      · exact Or.inl z
      · exact Or.inr ⟨z.1, z.2.1, z.2.2.1, z.2.2.2.1, by omega⟩
    · intro a b a1 a2 a3 hp hab
      by_cases z : a + b = 2 * i + ev
      · have := atC a b a1 a2 a3 hp z
        rcases p0 with y | y
        · omega
        · omega
      · exact p1 a b a1 a2 a3 hp (by omega)
theorem mmL_I (g : Int → Int) (n : Int) (hn : n ≤ 600) : ∀ (k : Nat) (i : Int) (s : Int × Int), n ≤ i + k → 1 ≤ i → i ≤ n → mmI g n (2 * i) s → mmI g n (2 * n) (mmL g n k i s) := by
  intro k
  induction k with
  | zero =>
    intro i s h1 h2 h3 h
    rw [show n = i by omega] at h ⊢
    exact h
  | succ k ih =>
    intro i s h1 h2 h3 h
    unfold mmL
    by_cases q : i < n
    · rw [if_pos q]
      refine ih (i + 1) _ (by omega) (by omega) (by omega) ?_
      have e0 := mmS_I g n i 0 s ⟨h2, by omega⟩ (Or.inl rfl) (by rw [Int.add_zero]; exact h)
      have e1 := mmS_I g n i 1 _ ⟨h2, by omega⟩ (Or.inr rfl) (by rw [Int.add_zero] at e0; exact e0)
      rw [show 2 * (i + 1) = 2 * i + 1 + 1 by omega]
      exact e1
    · rw [if_neg q]
      rw [show n = i by omega] at h ⊢
      exact h
theorem mmZ_I (hW : WF σ) : mmI (gAS σ) (szS σ) (2 * szS σ) (mmL (gAS σ) (szS σ) 600 1 (0, -1)) := by
  have hz := szS_b hW
  exact mmL_I _ _ (by omega) 600 1 _ (by omega) (by omega) (by omega) ⟨Or.inl ⟨rfl, rfl⟩, fun a b a1 a2 a3 _ h => by omega⟩
theorem m_mirror_no (hm : shM E r m) (hs : 0 ≤ s ∧ s ≤ 4) (hl : SL G m s σ) (hW : WF σ) (ha : LAS G m σ) {l : Int} (hl0 : 1 ≤ l ∧ l < szS σ) (hno : ∀ a, 1 ≤ a → a + l ≤ szS σ → ¬ pdR (gAS σ) a (a + l - 1)) {l2 : Value} (hc2 : c2 l2 = false) : ∀ (k : Nat) (i : Int), szS σ - l + 1 - i ≤ k → 1 ≤ i → i ≤ szS σ - l + 1 →
    RK MX10_mirror 69 [.ref m, .int (zi s), l2, .int (zi l), .int (zi i)] [] (0, 0) (E, zg G, zk L, r) Q = RK MX10_mirror 62 [.ref m, .int (zi s), l2, .int (zi (l - 1)), .int (zi (szS σ - l + 1))] [] (0, 0) (E, zg G, zk L, r) Q := by
  have m0 := hm.1
  have hz := szS_b hW
  have h12 : G m 12 = szS σ := ha.1
  intro k
  induction k with
  | zero =>
    intro i h1 h2 h3
    have e : i = szS σ - l + 1 := by omega
    have h6 : ¬ i + l ≤ szS σ := by omega
    rw [fX10_mirror_69, ← e]
    simp (disch := first | assumption | exact c2_int _ | exact c2_ref _ | exact c2_jk | exact c2_null | omega | exact bI_r _ | exact bI_01 _) only [↓fX10_mirror_0, ↓fX10_mirror_1, ↓fX10_mirror_2, ↓fX10_mirror_3, ↓fX10_mirror_4, ↓fX10_mirror_5, ↓fX10_mirror_8, ↓fX10_mirror_11, ↓fX10_mirror_12, ↓fX10_mirror_15, ↓fX10_mirror_16, ↓fX10_mirror_17, ↓fX10_mirror_20, ↓fX10_mirror_23, ↓fX10_mirror_24, ↓fX10_mirror_27, ↓fX10_mirror_28, ↓fX10_mirror_31, ↓fX10_mirror_34, ↓fX10_mirror_35, ↓fX10_mirror_36, ↓fX10_mirror_37, ↓fX10_mirror_38, ↓fX10_mirror_41, ↓fX10_mirror_42, ↓fX10_mirror_45, ↓fX10_mirror_46, ↓fX10_mirror_49, ↓fX10_mirror_50, ↓fX10_mirror_51, ↓fX10_mirror_54, ↓fX10_mirror_55, ↓fX10_mirror_56, ↓fX10_mirror_59, ↓fX10_mirror_60, ↓fX10_mirror_61, ↓fX10_mirror_63, ↓fX10_mirror_66, ↓fX10_mirror_67, ↓fX10_mirror_69, ↓fX10_mirror_71, ↓fX10_mirror_72, ↓fX10_mirror_73, ↓fX10_mirror_74, ↓fX10_mirror_77, ↓fX10_mirror_80, ↓fX10_mirror_81, ↓fX10_mirror_82, ↓fX10_mirror_84, ↓fX10_mirror_86, ↓fX10_mirror_87, ↓fX10_mirror_88, ↓fX10_mirror_89, ↓fX10_mirror_90, ↓fX10_mirror_93, ↓fX10_mirror_96, ↓fX10_mirror_97, ↓fX10_mirror_100, ↓fX10_mirror_101, ↓fX10_mirror_104, ↓fX10_mirror_106, ↓fX10_mirror_107, ↓fX10_mirror_110, ↓fX10_mirror_113, ↓fX10_mirror_116, ↓fX10_mirror_119, ↓fX10_mirror_120, ↓fX10_mirror_121, ↓fX10_mirror_124, h12, h6, and_self, true_and, and_true, false_and, and_false, not_true_eq_false, not_false_eq_true, or_self, true_or, or_true, false_or, or_false, ite_not, Decidable.not_not, decide_eq_true_eq, Bool.not_true, Bool.not_false, Bool.false_eq_true, Bool.not_eq_true, n10, n20, n21, n30, n31, n32, n40, n41, n42, n43, ↓reduceIte]
    rfl
  | succ k ih =>
    intro i h1 h2 h3
    by_cases h6 : i + l ≤ szS σ
    · have ih' := ih (i + 1) (by omega) (by omega) (by omega)
      have em := fun Q => m_isMirror (L := L) (Q := Q) hm hs hl hW ha (lo := i) (hi := i + l - 1) h2 (by omega) (by omega)
      have ef := hno i h2 h6
      simp only [im_n (show i + l - 1 - i ≤ 600 by omega) ef] at em
      rw [← ih', fX10_mirror_69]
      simp (disch := first | assumption | exact c2_int _ | exact c2_ref _ | exact c2_jk | exact c2_null | omega | exact bI_r _ | exact bI_01 _) only [↓fX10_mirror_0, ↓fX10_mirror_1, ↓fX10_mirror_2, ↓fX10_mirror_3, ↓fX10_mirror_4, ↓fX10_mirror_5, ↓fX10_mirror_8, ↓fX10_mirror_11, ↓fX10_mirror_12, ↓fX10_mirror_15, ↓fX10_mirror_16, ↓fX10_mirror_17, ↓fX10_mirror_20, ↓fX10_mirror_23, ↓fX10_mirror_24, ↓fX10_mirror_27, ↓fX10_mirror_28, ↓fX10_mirror_31, ↓fX10_mirror_34, ↓fX10_mirror_35, ↓fX10_mirror_36, ↓fX10_mirror_37, ↓fX10_mirror_38, ↓fX10_mirror_41, ↓fX10_mirror_42, ↓fX10_mirror_45, ↓fX10_mirror_46, ↓fX10_mirror_49, ↓fX10_mirror_50, ↓fX10_mirror_51, ↓fX10_mirror_54, ↓fX10_mirror_55, ↓fX10_mirror_56, ↓fX10_mirror_59, ↓fX10_mirror_60, ↓fX10_mirror_61, ↓fX10_mirror_63, ↓fX10_mirror_66, ↓fX10_mirror_67, ↓fX10_mirror_71, ↓fX10_mirror_72, ↓fX10_mirror_73, ↓fX10_mirror_74, ↓fX10_mirror_77, ↓fX10_mirror_80, ↓fX10_mirror_81, ↓fX10_mirror_82, ↓fX10_mirror_84, ↓fX10_mirror_86, ↓fX10_mirror_87, ↓fX10_mirror_88, ↓fX10_mirror_89, ↓fX10_mirror_90, ↓fX10_mirror_93, ↓fX10_mirror_96, ↓fX10_mirror_97, ↓fX10_mirror_100, ↓fX10_mirror_101, ↓fX10_mirror_104, ↓fX10_mirror_106, ↓fX10_mirror_107, ↓fX10_mirror_110, ↓fX10_mirror_113, ↓fX10_mirror_116, ↓fX10_mirror_119, ↓fX10_mirror_120, ↓fX10_mirror_121, ↓fX10_mirror_124, ↓em, h12, h6, and_self, true_and, and_true, false_and, and_false, not_true_eq_false, not_false_eq_true, or_self, true_or, or_true, false_or, or_false, ite_not, Decidable.not_not, decide_eq_true_eq, Bool.not_true, Bool.not_false, Bool.false_eq_true, Bool.not_eq_true, n10, n20, n21, n30, n31, n32, n40, n41, n42, n43, ↓reduceIte]
    · have e : i = szS σ - l + 1 := by omega
      rw [fX10_mirror_69, ← e]
      simp (disch := first | assumption | exact c2_int _ | exact c2_ref _ | exact c2_jk | exact c2_null | omega | exact bI_r _ | exact bI_01 _) only [↓fX10_mirror_0, ↓fX10_mirror_1, ↓fX10_mirror_2, ↓fX10_mirror_3, ↓fX10_mirror_4, ↓fX10_mirror_5, ↓fX10_mirror_8, ↓fX10_mirror_11, ↓fX10_mirror_12, ↓fX10_mirror_15, ↓fX10_mirror_16, ↓fX10_mirror_17, ↓fX10_mirror_20, ↓fX10_mirror_23, ↓fX10_mirror_24, ↓fX10_mirror_27, ↓fX10_mirror_28, ↓fX10_mirror_31, ↓fX10_mirror_34, ↓fX10_mirror_35, ↓fX10_mirror_36, ↓fX10_mirror_37, ↓fX10_mirror_38, ↓fX10_mirror_41, ↓fX10_mirror_42, ↓fX10_mirror_45, ↓fX10_mirror_46, ↓fX10_mirror_49, ↓fX10_mirror_50, ↓fX10_mirror_51, ↓fX10_mirror_54, ↓fX10_mirror_55, ↓fX10_mirror_56, ↓fX10_mirror_59, ↓fX10_mirror_60, ↓fX10_mirror_61, ↓fX10_mirror_63, ↓fX10_mirror_66, ↓fX10_mirror_67, ↓fX10_mirror_69, ↓fX10_mirror_71, ↓fX10_mirror_72, ↓fX10_mirror_73, ↓fX10_mirror_74, ↓fX10_mirror_77, ↓fX10_mirror_80, ↓fX10_mirror_81, ↓fX10_mirror_82, ↓fX10_mirror_84, ↓fX10_mirror_86, ↓fX10_mirror_87, ↓fX10_mirror_88, ↓fX10_mirror_89, ↓fX10_mirror_90, ↓fX10_mirror_93, ↓fX10_mirror_96, ↓fX10_mirror_97, ↓fX10_mirror_100, ↓fX10_mirror_101, ↓fX10_mirror_104, ↓fX10_mirror_106, ↓fX10_mirror_107, ↓fX10_mirror_110, ↓fX10_mirror_113, ↓fX10_mirror_116, ↓fX10_mirror_119, ↓fX10_mirror_120, ↓fX10_mirror_121, ↓fX10_mirror_124, h12, h6, and_self, true_and, and_true, false_and, and_false, not_true_eq_false, not_false_eq_true, or_self, true_or, or_true, false_or, or_false, ite_not, Decidable.not_not, decide_eq_true_eq, Bool.not_true, Bool.not_false, Bool.false_eq_true, Bool.not_eq_true, n10, n20, n21, n30, n31, n32, n40, n41, n42, n43, ↓reduceIte]
      rfl
theorem m_mirror_at (hm : shM E r m) (hs : 0 ≤ s ∧ s ≤ 4) (hl : SL G m s σ) (hW : WF σ) (ha : LAS G m σ) (hw : w = 0 ∨ w = 1) {l p : Int} (hl0 : 1 ≤ l ∧ l < szS σ) (hp : 1 ≤ p ∧ p + l ≤ szS σ) (hyes : pdR (gAS σ) p (p + l - 1)) (hno : ∀ a, 1 ≤ a → a < p → ¬ pdR (gAS σ) a (a + l - 1)) : ∀ (k : Nat) (i : Int), p - i ≤ k → 1 ≤ i → i ≤ p →
    RK MX10_mirror 69 [.ref m, .int (zi s), .int (zi w), .int (zi l), .int (zi i)] [] (0, 0) (E, zg G, zk L, r) Q = Q (E, zg G, zk L, r) (.int (zi (if w = 0 then l else p))) := by
  have m0 := hm.1
  have hz := szS_b hW
  have h12 : G m 12 = szS σ := ha.1
  have base : RK MX10_mirror 69 [.ref m, .int (zi s), .int (zi w), .int (zi l), .int (zi p)] [] (0, 0) (E, zg G, zk L, r) Q = Q (E, zg G, zk L, r) (.int (zi (if w = 0 then l else p))) := by
    have em := fun Q => m_isMirror (L := L) (Q := Q) hm hs hl hW ha (lo := p) (hi := p + l - 1) hp.1 (by omega) (by omega)
    simp only [im_y (show p + l - 1 - p ≤ 600 by omega) hyes] at em
    have h6 : p + l ≤ szS σ := hp.2
    rw [fX10_mirror_69]
    rcases hw with rfl | rfl
    · simp (disch := first | assumption | exact c2_int _ | exact c2_ref _ | exact c2_jk | exact c2_null | omega | exact bI_r _ | exact bI_01 _) only [↓fX10_mirror_0, ↓fX10_mirror_1, ↓fX10_mirror_2, ↓fX10_mirror_3, ↓fX10_mirror_4, ↓fX10_mirror_5, ↓fX10_mirror_8, ↓fX10_mirror_11, ↓fX10_mirror_12, ↓fX10_mirror_15, ↓fX10_mirror_16, ↓fX10_mirror_17, ↓fX10_mirror_20, ↓fX10_mirror_23, ↓fX10_mirror_24, ↓fX10_mirror_27, ↓fX10_mirror_28, ↓fX10_mirror_31, ↓fX10_mirror_34, ↓fX10_mirror_35, ↓fX10_mirror_36, ↓fX10_mirror_37, ↓fX10_mirror_38, ↓fX10_mirror_41, ↓fX10_mirror_42, ↓fX10_mirror_45, ↓fX10_mirror_46, ↓fX10_mirror_49, ↓fX10_mirror_50, ↓fX10_mirror_51, ↓fX10_mirror_54, ↓fX10_mirror_55, ↓fX10_mirror_56, ↓fX10_mirror_59, ↓fX10_mirror_60, ↓fX10_mirror_61, ↓fX10_mirror_62, ↓fX10_mirror_63, ↓fX10_mirror_66, ↓fX10_mirror_67, ↓fX10_mirror_71, ↓fX10_mirror_72, ↓fX10_mirror_73, ↓fX10_mirror_74, ↓fX10_mirror_77, ↓fX10_mirror_80, ↓fX10_mirror_81, ↓fX10_mirror_82, ↓fX10_mirror_84, ↓fX10_mirror_86, ↓fX10_mirror_87, ↓fX10_mirror_88, ↓fX10_mirror_89, ↓fX10_mirror_90, ↓fX10_mirror_93, ↓fX10_mirror_96, ↓fX10_mirror_97, ↓fX10_mirror_100, ↓fX10_mirror_101, ↓fX10_mirror_104, ↓fX10_mirror_106, ↓fX10_mirror_107, ↓fX10_mirror_110, ↓fX10_mirror_113, ↓fX10_mirror_116, ↓fX10_mirror_119, ↓fX10_mirror_120, ↓fX10_mirror_121, ↓fX10_mirror_124, ↓em, h12, h6, and_self, true_and, and_true, false_and, and_false, not_true_eq_false, not_false_eq_true, or_self, true_or, or_true, false_or, or_false, ite_not, Decidable.not_not, decide_eq_true_eq, Bool.not_true, Bool.not_false, Bool.false_eq_true, Bool.not_eq_true, n10, n20, n21, n30, n31, n32, n40, n41, n42, n43, ↓reduceIte]
    · simp (disch := first | assumption | exact c2_int _ | exact c2_ref _ | exact c2_jk | exact c2_null | omega | exact bI_r _ | exact bI_01 _) only [↓fX10_mirror_0, ↓fX10_mirror_1, ↓fX10_mirror_2, ↓fX10_mirror_3, ↓fX10_mirror_4, ↓fX10_mirror_5, ↓fX10_mirror_8, ↓fX10_mirror_11, ↓fX10_mirror_12, ↓fX10_mirror_15, ↓fX10_mirror_16, ↓fX10_mirror_17, ↓fX10_mirror_20, ↓fX10_mirror_23, ↓fX10_mirror_24, ↓fX10_mirror_27, ↓fX10_mirror_28, ↓fX10_mirror_31, ↓fX10_mirror_34, ↓fX10_mirror_35, ↓fX10_mirror_36, ↓fX10_mirror_37, ↓fX10_mirror_38, ↓fX10_mirror_41, ↓fX10_mirror_42, ↓fX10_mirror_45, ↓fX10_mirror_46, ↓fX10_mirror_49, ↓fX10_mirror_50, ↓fX10_mirror_51, ↓fX10_mirror_54, ↓fX10_mirror_55, ↓fX10_mirror_56, ↓fX10_mirror_59, ↓fX10_mirror_60, ↓fX10_mirror_61, ↓fX10_mirror_62, ↓fX10_mirror_63, ↓fX10_mirror_66, ↓fX10_mirror_67, ↓fX10_mirror_71, ↓fX10_mirror_72, ↓fX10_mirror_73, ↓fX10_mirror_74, ↓fX10_mirror_77, ↓fX10_mirror_80, ↓fX10_mirror_81, ↓fX10_mirror_82, ↓fX10_mirror_84, ↓fX10_mirror_86, ↓fX10_mirror_87, ↓fX10_mirror_88, ↓fX10_mirror_89, ↓fX10_mirror_90, ↓fX10_mirror_93, ↓fX10_mirror_96, ↓fX10_mirror_97, ↓fX10_mirror_100, ↓fX10_mirror_101, ↓fX10_mirror_104, ↓fX10_mirror_106, ↓fX10_mirror_107, ↓fX10_mirror_110, ↓fX10_mirror_113, ↓fX10_mirror_116, ↓fX10_mirror_119, ↓fX10_mirror_120, ↓fX10_mirror_121, ↓fX10_mirror_124, ↓em, h12, h6, and_self, true_and, and_true, false_and, and_false, not_true_eq_false, not_false_eq_true, or_self, true_or, or_true, false_or, or_false, ite_not, Decidable.not_not, decide_eq_true_eq, Bool.not_true, Bool.not_false, Bool.false_eq_true, Bool.not_eq_true, n10, n20, n21, n30, n31, n32, n40, n41, n42, n43, ↓reduceIte]
  intro k
  induction k with
  | zero =>
    intro i h1 h2 h3
    have e : i = p := by omega
    rw [e]
    exact base
  | succ k ih =>
    intro i h1 h2 h3
    by_cases c : i = p
    · rw [c]
      exact base
    · have ih' := ih (i + 1) (by omega) (by omega) (by omega)
      have em := fun Q => m_isMirror (L := L) (Q := Q) hm hs hl hW ha (lo := i) (hi := i + l - 1) h2 (by omega) (by omega)
      have ef := hno i h2 (by omega)
      simp only [im_n (show i + l - 1 - i ≤ 600 by omega) ef] at em
      have h6 : i + l ≤ szS σ := by omega
      rw [← ih', fX10_mirror_69]
      simp (disch := first | assumption | exact c2_int _ | exact c2_ref _ | exact c2_jk | exact c2_null | omega | exact bI_r _ | exact bI_01 _) only [↓fX10_mirror_0, ↓fX10_mirror_1, ↓fX10_mirror_2, ↓fX10_mirror_3, ↓fX10_mirror_4, ↓fX10_mirror_5, ↓fX10_mirror_8, ↓fX10_mirror_11, ↓fX10_mirror_12, ↓fX10_mirror_15, ↓fX10_mirror_16, ↓fX10_mirror_17, ↓fX10_mirror_20, ↓fX10_mirror_23, ↓fX10_mirror_24, ↓fX10_mirror_27, ↓fX10_mirror_28, ↓fX10_mirror_31, ↓fX10_mirror_34, ↓fX10_mirror_35, ↓fX10_mirror_36, ↓fX10_mirror_37, ↓fX10_mirror_38, ↓fX10_mirror_41, ↓fX10_mirror_42, ↓fX10_mirror_45, ↓fX10_mirror_46, ↓fX10_mirror_49, ↓fX10_mirror_50, ↓fX10_mirror_51, ↓fX10_mirror_54, ↓fX10_mirror_55, ↓fX10_mirror_56, ↓fX10_mirror_59, ↓fX10_mirror_60, ↓fX10_mirror_61, ↓fX10_mirror_62, ↓fX10_mirror_63, ↓fX10_mirror_66, ↓fX10_mirror_67, ↓fX10_mirror_71, ↓fX10_mirror_72, ↓fX10_mirror_73, ↓fX10_mirror_74, ↓fX10_mirror_77, ↓fX10_mirror_80, ↓fX10_mirror_81, ↓fX10_mirror_82, ↓fX10_mirror_84, ↓fX10_mirror_86, ↓fX10_mirror_87, ↓fX10_mirror_88, ↓fX10_mirror_89, ↓fX10_mirror_90, ↓fX10_mirror_93, ↓fX10_mirror_96, ↓fX10_mirror_97, ↓fX10_mirror_100, ↓fX10_mirror_101, ↓fX10_mirror_104, ↓fX10_mirror_106, ↓fX10_mirror_107, ↓fX10_mirror_110, ↓fX10_mirror_113, ↓fX10_mirror_116, ↓fX10_mirror_119, ↓fX10_mirror_120, ↓fX10_mirror_121, ↓fX10_mirror_124, ↓em, h12, h6, and_self, true_and, and_true, false_and, and_false, not_true_eq_false, not_false_eq_true, or_self, true_or, or_true, false_or, or_false, ite_not, Decidable.not_not, decide_eq_true_eq, Bool.not_true, Bool.not_false, Bool.false_eq_true, Bool.not_eq_true, n10, n20, n21, n30, n31, n32, n40, n41, n42, n43, ↓reduceIte]
theorem m_mirror_loop (hm : shM E r m) (hs : 0 ≤ s ∧ s ≤ 4) (hl : SL G m s σ) (hW : WF σ) (ha : LAS G m σ) (hw : w = 0 ∨ w = 1) {R : Int × Int} (hR : mmI (gAS σ) (szS σ) (2 * szS σ) R) (h2 : 2 ≤ szS σ) : ∀ (k : Nat) (l : Int) (l4 : Value), l - R.1 ≤ k → R.1 ≤ l → l < szS σ →
    RK MX10_mirror 62 [.ref m, .int (zi s), .int (zi w), .int (zi l), l4] [] (0, 0) (E, zg G, zk L, r) Q = Q (E, zg G, zk L, r) (.int (zi (mrA w R))) := by
  have m0 := hm.1
  have hz := szS_b hW
  have h12 : G m 12 = szS σ := ha.1
  obtain ⟨q0, q1⟩ := hR
  have one := q1 1 1 (by omega) (by omega) (by omega) (fun j j1 j2 => by rw [show (1 : Int) + 1 - j = j by omega]) (by omega)
  have q0' : 1 ≤ R.1 ∧ 1 ≤ R.2 ∧ R.2 + R.1 - 1 < szS σ ∧ pdR (gAS σ) R.2 (R.2 + R.1 - 1) := by
    rcases q0 with z | z
    · omega
    · exact ⟨z.1, z.2.1, z.2.2.1, z.2.2.2.1⟩
  obtain ⟨r1, r2, r3, r4⟩ := q0'
  have eA : mrA w R = if w = 0 then R.1 else R.2 := by
    unfold mrA
    rcases hw with rfl | rfl
    · rw [if_neg (by omega), if_pos rfl]
    · rw [if_pos (Or.inl rfl), if_neg (by omega)]
  rw [eA]
  have base : ∀ l4 : Value, RK MX10_mirror 62 [.ref m, .int (zi s), .int (zi w), .int (zi R.1), l4] [] (0, 0) (E, zg G, zk L, r) Q = Q (E, zg G, zk L, r) (.int (zi (if w = 0 then R.1 else R.2))) := by
    intro l4
    have e := m_mirror_at (L := L) (Q := Q) hm hs hl hW ha hw (l := R.1) (p := R.2) ⟨r1, by omega⟩ ⟨r2, by omega⟩ r4 (fun a a1 a2 hp => by
      have := q1 a (a + R.1 - 1) a1 (by omega) (by omega) hp (by omega)
      omega) 600 1 (by omega) (by omega) (by omega)
    have h6 : ¬ R.1 ≤ 0 := by omega
    rw [← e, fX10_mirror_62]
    simp (disch := first | assumption | exact c2_int _ | exact c2_ref _ | exact c2_jk | exact c2_null | omega | exact bI_r _ | exact bI_01 _) only [↓fX10_mirror_0, ↓fX10_mirror_1, ↓fX10_mirror_2, ↓fX10_mirror_3, ↓fX10_mirror_4, ↓fX10_mirror_5, ↓fX10_mirror_8, ↓fX10_mirror_11, ↓fX10_mirror_12, ↓fX10_mirror_15, ↓fX10_mirror_16, ↓fX10_mirror_17, ↓fX10_mirror_20, ↓fX10_mirror_23, ↓fX10_mirror_24, ↓fX10_mirror_27, ↓fX10_mirror_28, ↓fX10_mirror_31, ↓fX10_mirror_34, ↓fX10_mirror_35, ↓fX10_mirror_36, ↓fX10_mirror_37, ↓fX10_mirror_38, ↓fX10_mirror_41, ↓fX10_mirror_42, ↓fX10_mirror_45, ↓fX10_mirror_46, ↓fX10_mirror_49, ↓fX10_mirror_50, ↓fX10_mirror_51, ↓fX10_mirror_54, ↓fX10_mirror_55, ↓fX10_mirror_56, ↓fX10_mirror_59, ↓fX10_mirror_60, ↓fX10_mirror_61, ↓fX10_mirror_62, ↓fX10_mirror_63, ↓fX10_mirror_66, ↓fX10_mirror_67, ↓fX10_mirror_71, ↓fX10_mirror_72, ↓fX10_mirror_73, ↓fX10_mirror_74, ↓fX10_mirror_77, ↓fX10_mirror_80, ↓fX10_mirror_81, ↓fX10_mirror_82, ↓fX10_mirror_84, ↓fX10_mirror_86, ↓fX10_mirror_87, ↓fX10_mirror_88, ↓fX10_mirror_89, ↓fX10_mirror_90, ↓fX10_mirror_93, ↓fX10_mirror_96, ↓fX10_mirror_97, ↓fX10_mirror_100, ↓fX10_mirror_101, ↓fX10_mirror_104, ↓fX10_mirror_106, ↓fX10_mirror_107, ↓fX10_mirror_110, ↓fX10_mirror_113, ↓fX10_mirror_116, ↓fX10_mirror_119, ↓fX10_mirror_120, ↓fX10_mirror_121, ↓fX10_mirror_124, h6, and_self, true_and, and_true, false_and, and_false, not_true_eq_false, not_false_eq_true, or_self, true_or, or_true, false_or, or_false, ite_not, Decidable.not_not, decide_eq_true_eq, Bool.not_true, Bool.not_false, Bool.false_eq_true, Bool.not_eq_true, n10, n20, n21, n30, n31, n32, n40, n41, n42, n43, ↓reduceIte]
  intro k
  induction k with
  | zero =>
    intro l l4 h1 h3 h4
    rw [show l = R.1 by omega]
    exact base l4
  | succ k ih =>
    intro l l4 h1 h3 h4
    by_cases c : l = R.1
    · rw [c]
      exact base l4
    · have e := m_mirror_no (L := L) (Q := Q) hm hs hl hW ha (l := l) ⟨by omega, h4⟩ (fun a a1 a2 hp => by
        have := q1 a (a + l - 1) a1 (by omega) (by omega) hp (by omega)
        omega) (l2 := .int (zi w)) (c2_int _) 600 1 (by omega) (by omega) (by omega)
      have ih' := ih (l - 1) (.int (zi (szS σ - l + 1))) (by omega) (by omega) (by omega)
      have h6 : ¬ l ≤ 0 := by omega
      rw [← ih', ← e, fX10_mirror_62]
      simp (disch := first | assumption | exact c2_int _ | exact c2_ref _ | exact c2_jk | exact c2_null | omega | exact bI_r _ | exact bI_01 _) only [↓fX10_mirror_0, ↓fX10_mirror_1, ↓fX10_mirror_2, ↓fX10_mirror_3, ↓fX10_mirror_4, ↓fX10_mirror_5, ↓fX10_mirror_8, ↓fX10_mirror_11, ↓fX10_mirror_12, ↓fX10_mirror_15, ↓fX10_mirror_16, ↓fX10_mirror_17, ↓fX10_mirror_20, ↓fX10_mirror_23, ↓fX10_mirror_24, ↓fX10_mirror_27, ↓fX10_mirror_28, ↓fX10_mirror_31, ↓fX10_mirror_34, ↓fX10_mirror_35, ↓fX10_mirror_36, ↓fX10_mirror_37, ↓fX10_mirror_38, ↓fX10_mirror_41, ↓fX10_mirror_42, ↓fX10_mirror_45, ↓fX10_mirror_46, ↓fX10_mirror_49, ↓fX10_mirror_50, ↓fX10_mirror_51, ↓fX10_mirror_54, ↓fX10_mirror_55, ↓fX10_mirror_56, ↓fX10_mirror_59, ↓fX10_mirror_60, ↓fX10_mirror_61, ↓fX10_mirror_62, ↓fX10_mirror_63, ↓fX10_mirror_66, ↓fX10_mirror_67, ↓fX10_mirror_71, ↓fX10_mirror_72, ↓fX10_mirror_73, ↓fX10_mirror_74, ↓fX10_mirror_77, ↓fX10_mirror_80, ↓fX10_mirror_81, ↓fX10_mirror_82, ↓fX10_mirror_84, ↓fX10_mirror_86, ↓fX10_mirror_87, ↓fX10_mirror_88, ↓fX10_mirror_89, ↓fX10_mirror_90, ↓fX10_mirror_93, ↓fX10_mirror_96, ↓fX10_mirror_97, ↓fX10_mirror_100, ↓fX10_mirror_101, ↓fX10_mirror_104, ↓fX10_mirror_106, ↓fX10_mirror_107, ↓fX10_mirror_110, ↓fX10_mirror_113, ↓fX10_mirror_116, ↓fX10_mirror_119, ↓fX10_mirror_120, ↓fX10_mirror_121, ↓fX10_mirror_124, h6, and_self, true_and, and_true, false_and, and_false, not_true_eq_false, not_false_eq_true, or_self, true_or, or_true, false_or, or_false, ite_not, Decidable.not_not, decide_eq_true_eq, Bool.not_true, Bool.not_false, Bool.false_eq_true, Bool.not_eq_true, n10, n20, n21, n30, n31, n32, n40, n41, n42, n43, ↓reduceIte]
end BM
section BM
variable {E : AE} {G G1 G2 G' L : Nat → Nat → Int} {r : Nat → Nat → Option Nat} {h : AH} {Q : AH → Value → Prop} {m M n cl : Nat} {σ : Nat → Nat → Int} {P : Int → Bool} {s o y x w i p v lo hi t b d e c f g k : Int} {ln : Nat → Nat} {lv : Nat → Nat → Int}
theorem y_chain (hM : MD E r G m n σ) (hs : I32 s) (hx : I32 x) (hw : I32 w) : ∃ G', lkM G G' m ∧ G' m 0 = (onS (decide ((¬ (0 ≤ w ∧ w ≤ 2)))) n s (ans (chZ (σ s.toNat) x w))).1 ∧ ∀ Q, RK MX10_chain 0 [.ref m, .int (zi s), .int (zi x), .int (zi w), jk, jk, jk, jk, jk] [] (0, 0) (E, zg G, zk L, r) Q = Q (E, zg G', zk L, r) (.int (zi (onS (decide ((¬ (0 ≤ w ∧ w ≤ 2)))) n s (ans (chZ (σ s.toNat) x w))).2)) := by
  have hm := hM.1
  have m0 := hm.1
  have h6 := hM.2.1
  by_cases c1 : ¬ (0 ≤ w ∧ w ≤ 2)
  · have cb : onS (decide ((¬ (0 ≤ w ∧ w ≤ 2)))) n s (ans (chZ (σ s.toNat) x w)) = (1, -1) := if_pos (decide_eq_true (by omega))
    rw [cb]
    exact ⟨iG G m 1, lkM_i, iG_0, fun Q => by simp (disch := first | assumption | exact c2_int _ | exact c2_ref _ | exact c2_jk | exact c2_null | omega | exact bI_r _ | exact bI_01 _) only [↓fX10_chain_0, ↓fX10_chain_1, ↓fX10_chain_2, ↓fX10_chain_3, ↓fX10_chain_4, ↓fX10_chain_7, ↓fX10_chain_10, ↓fX10_chain_13, ↓fX10_chain_14, ↓fX10_chain_17, ↓fX10_chain_18, ↓fX10_chain_19, ↓fX10_chain_22, ↓fX10_chain_25, ↓fX10_chain_26, ↓fX10_chain_29, ↓fX10_chain_30, ↓fX10_chain_33, ↓fX10_chain_36, ↓fX10_chain_37, ↓fX10_chain_38, ↓fX10_chain_39, ↓fX10_chain_40, ↓fX10_chain_41, ↓fX10_chain_44, ↓fX10_chain_47, ↓fX10_chain_48, ↓fX10_chain_49, ↓fX10_chain_52, ↓fX10_chain_53, ↓fX10_chain_54, ↓fX10_chain_55, ↓fX10_chain_58, ↓fX10_chain_59, ↓fX10_chain_61, ↓fX10_chain_63, ↓fX10_chain_66, ↓fX10_chain_69, ↓fX10_chain_70, ↓fX10_chain_73, ↓fX10_chain_75, ↓fX10_chain_76, ↓fX10_chain_76z, ↓fX10_chain_77, ↓fX10_chain_80, ↓fX10_chain_83, ↓fX10_chain_84, ↓fX10_chain_86, ↓fX10_chain_87, ↓fX10_chain_89, ↓fX10_chain_90, ↓fX10_chain_92, ↓fX10_chain_93, ↓fX10_chain_95, ↓fX10_chain_97, ↓fX10_chain_100, ↓fX10_chain_101, ↓fX10_chain_104, ↓fX10_chain_105, ↓fX10_chain_106, ↓fX10_chain_108, ↓fX10_chain_111, ↓fX10_chain_112, ↓fX10_chain_112z, ↓fX10_chain_113, ↓fX10_chain_116, ↓fX10_chain_118, ↓fX10_chain_119, ↓fX10_chain_120, ↓fX10_chain_121, ↓fX10_chain_124, ↓fX10_chain_125, ↓fX10_chain_128, ↓fX10_chain_130, ↓fX10_chain_132, ↓fX10_chain_135, ↓fX10_chain_136, ↓fX10_chain_139, ↓fX10_chain_140, ↓fX10_chain_143, ↓fX10_chain_145, ↓fX10_chain_146, ↓fX10_chain_147, ↓fX10_chain_148, ↓fX10_chain_149, ↓fX10_chain_152, ↓fX10_chain_153, ↓fX10_chain_156, ↓fX10_chain_157, ↓fX10_chain_159, ↓fX10_chain_161, ↓fX10_chain_164, ↓fX10_chain_166, ↓fX10_chain_169, ↓fX10_chain_170, ↓fX10_chain_173, ↓fX10_chain_174, ↓fX10_chain_176, ↓fX10_chain_178, ↓fX10_chain_181, ↓fX10_chain_183, ↓fX10_chain_186, ↓fX10_chain_187, ↓fX10_chain_188, ↓fX10_chain_190, ↓fX10_chain_193, ↓fX10_chain_195, ↓fX10_chain_198, ↓fX10_chain_199, ↓fX10_chain_202, ↓fX10_chain_204, ↓fX10_chain_207, ↓fX10_chain_208, ↓fX10_chain_209, ↓fX10_chain_212, ↓fX10_chain_214, ↓fX10_chain_217, ↓fX10_chain_219, ↓fX10_chain_222, ↓fX10_chain_223, ↓fX10_chain_226, ↓fX10_chain_227, ↓m_isIn, bI_0, ↓m_isN, c1, and_self, true_and, and_true, false_and, and_false, not_true_eq_false, not_false_eq_true, or_self, true_or, or_true, false_or, or_false, ite_not, Decidable.not_not, decide_eq_true_eq, Bool.not_true, Bool.not_false, Bool.false_eq_true, Bool.not_eq_true, n10, n20, n21, n30, n31, n32, n40, n41, n42, n43, ↓reduceIte]⟩
  · have c1 := Decidable.not_not.mp c1
    have cq : (decide ((¬ (0 ≤ w ∧ w ≤ 2)))) = false := decide_eq_false (by omega)
    have cb : onS (decide ((¬ (0 ≤ w ∧ w ≤ 2)))) n s (ans (chZ (σ s.toNat) x w)) = if 0 ≤ s ∧ s < n then (ans (chZ (σ s.toNat) x w)) else (2, -1) := if_neg (by rw [cq]; decide)
    rw [cb]
    by_cases c : 0 ≤ s ∧ s < n
    · rw [if_pos c]
      obtain ⟨hl, hW⟩ := hM.2.2 s.toNat (by omega)
      rw [Int.toNat_of_nonneg c.1] at hl
      have hz := szS_b hW
      have eS := fun Q => m_isS1 (L := L) (Q := Q) hM c
      obtain ⟨G2, hl2, ha, h12, h20, lk2, tr, eN⟩ := m_now (L := L) hm (show 0 ≤ s ∧ s ≤ 4 by omega) hl hW
      have hs4 : 0 ≤ s ∧ s ≤ 4 := by omega
      have po := poZ_pl (x := x) hW
      by_cases z : hasS (σ s.toNat) x = true
      · have eb : bI (0 ≤ w ∧ w ≤ 2) = 1 := bI_p c1
        obtain ⟨p, p1, p2, p3, -⟩ := hasS_p hW z
        have epo : poZ (σ s.toNat) x = p := by rw [← p3]; exact poZ_at hW ⟨p1, p2⟩
        have b1 := bI_p z
        have et : ∀ Q, RK MX10_isThere 0 [.ref m, .int (zi s), .int (zi x), jk] [] (0, 0) (E, zg (iG G m 0), zk L, r) Q = Q (E, zg (iG G m 0), zk L, r) (.int (zi 1)) := fun Q => by rw [m_isThere hm hs4 (SL_i hl) hW hx, b1]
        have lk := lk2
        obtain ⟨H1, u1, u2', u3⟩ := m_chain_clear (L := L) (r := r) hm (x1 := s) (x2 := x) (x3 := w) (l5 := jk) (l6 := jk) (l7 := jk) (l8 := jk) 600 0 G2 (by omega) (by omega) (by omega) (fun j hj => by omega)
        have ha1 : LAS H1 m (σ s.toNat) := LAP_c ha (u1 _ (by omega)) (by rw [u1 m (by omega)])
        have hl1 : SL H1 m s (σ s.toNat) := SL_c hl2 (u1 _ (by omega))
        obtain ⟨H2, v1, v2⟩ := m_chain_loop (L := L) (w := w) (l2 := .int (zi x)) hm hs4 hl1 hW ha1 c1 600 p 0 (fun _ => false) H1 jk x (fun _ _ => rfl) ⟨p1, p2⟩ rfl (by rw [ctN_none]) (fun q q1 q2 => by rw [bI_n (by decide)]; have := ixN_ok (hbS (σ s.toNat)) (σ s.toNat 3).toNat q q1 q2; have w3 := hW.2.2.2.1; exact u2' _ (by omega)) (by omega)
        rw [p3] at v2
        have ec : chZ (σ s.toNat) x w = chA (σ s.toNat) w (chL (nAS (σ s.toNat)) (szS (σ s.toNat)) 600 p x 0 (fun _ => false)) := by rw [chZ_A (by omega)]; unfold chZ0; rw [epo]
        have cb : 0 ≤ chZ (σ s.toNat) x w := by
          rw [ec]
          exact chA_0 hW _ _ _ _ _ (by omega) (by have := hx; rw [← p3]; exact (nAS_0 hW ⟨p1, p2⟩).1)
        rw [ans_y cb, ec]
        have lk3 : lkM G H2 m := (lk2.trans (lkM_h (q := m + 8) (Or.inr (Or.inl rfl)) u1)).trans (lkM_h (q := m + 8) (Or.inr (Or.inl rfl)) v1)
        refine ⟨H2, lk3, by rw [v1 m (by omega), u1 m (by omega), h20], fun Q => ?_⟩
        simp (disch := first | assumption | exact c2_int _ | exact c2_ref _ | exact c2_jk | exact c2_null | omega | exact bI_r _ | exact bI_01 _) only [↓fX10_chain_0, ↓fX10_chain_1, ↓fX10_chain_2, ↓fX10_chain_3, ↓fX10_chain_4, ↓fX10_chain_7, ↓fX10_chain_10, ↓fX10_chain_13, ↓fX10_chain_14, ↓fX10_chain_17, ↓fX10_chain_18, ↓fX10_chain_19, ↓fX10_chain_22, ↓fX10_chain_25, ↓fX10_chain_26, ↓fX10_chain_29, ↓fX10_chain_30, ↓fX10_chain_33, ↓fX10_chain_36, ↓fX10_chain_37, ↓fX10_chain_38, ↓fX10_chain_39, ↓fX10_chain_40, ↓fX10_chain_41, ↓fX10_chain_44, ↓fX10_chain_47, ↓fX10_chain_48, ↓fX10_chain_49, ↓fX10_chain_52, ↓fX10_chain_53, ↓fX10_chain_54, ↓fX10_chain_55, ↓fX10_chain_58, ↓fX10_chain_59, ↓fX10_chain_63, ↓fX10_chain_66, ↓fX10_chain_69, ↓fX10_chain_70, ↓fX10_chain_73, ↓fX10_chain_75, ↓fX10_chain_76, ↓fX10_chain_76z, ↓fX10_chain_77, ↓fX10_chain_80, ↓fX10_chain_84, ↓fX10_chain_86, ↓fX10_chain_87, ↓fX10_chain_89, ↓fX10_chain_90, ↓fX10_chain_92, ↓fX10_chain_93, ↓fX10_chain_95, ↓fX10_chain_97, ↓fX10_chain_100, ↓fX10_chain_101, ↓fX10_chain_104, ↓fX10_chain_105, ↓fX10_chain_106, ↓fX10_chain_108, ↓fX10_chain_111, ↓fX10_chain_112, ↓fX10_chain_112z, ↓fX10_chain_113, ↓fX10_chain_116, ↓fX10_chain_118, ↓fX10_chain_119, ↓fX10_chain_120, ↓fX10_chain_121, ↓fX10_chain_124, ↓fX10_chain_125, ↓fX10_chain_128, ↓fX10_chain_130, ↓fX10_chain_132, ↓fX10_chain_135, ↓fX10_chain_136, ↓fX10_chain_139, ↓fX10_chain_140, ↓fX10_chain_143, ↓fX10_chain_145, ↓fX10_chain_146, ↓fX10_chain_147, ↓fX10_chain_148, ↓fX10_chain_149, ↓fX10_chain_152, ↓fX10_chain_153, ↓fX10_chain_156, ↓fX10_chain_157, ↓fX10_chain_159, ↓fX10_chain_161, ↓fX10_chain_164, ↓fX10_chain_166, ↓fX10_chain_169, ↓fX10_chain_170, ↓fX10_chain_173, ↓fX10_chain_174, ↓fX10_chain_176, ↓fX10_chain_178, ↓fX10_chain_181, ↓fX10_chain_183, ↓fX10_chain_186, ↓fX10_chain_187, ↓fX10_chain_188, ↓fX10_chain_190, ↓fX10_chain_193, ↓fX10_chain_195, ↓fX10_chain_198, ↓fX10_chain_199, ↓fX10_chain_202, ↓fX10_chain_204, ↓fX10_chain_207, ↓fX10_chain_208, ↓fX10_chain_209, ↓fX10_chain_212, ↓fX10_chain_214, ↓fX10_chain_217, ↓fX10_chain_219, ↓fX10_chain_222, ↓fX10_chain_223, ↓fX10_chain_226, ↓fX10_chain_227, ↓m_isIn, bI_0, ↓eS, ↓m_is0, ↓et, ↓eN, ↓u3, eb, c1, and_self, true_and, and_true, false_and, and_false, not_true_eq_false, not_false_eq_true, or_self, true_or, or_true, false_or, or_false, ite_not, Decidable.not_not, decide_eq_true_eq, Bool.not_true, Bool.not_false, Bool.false_eq_true, Bool.not_eq_true, n10, n20, n21, n30, n31, n32, n40, n41, n42, n43, ↓reduceIte]
        rw [fX10_chain_83]
        simp (disch := first | assumption | exact c2_int _ | exact c2_ref _ | exact c2_jk | exact c2_null | omega | exact bI_r _ | exact bI_01 _) only [↓fX10_chain_0, ↓fX10_chain_1, ↓fX10_chain_2, ↓fX10_chain_3, ↓fX10_chain_4, ↓fX10_chain_7, ↓fX10_chain_10, ↓fX10_chain_13, ↓fX10_chain_14, ↓fX10_chain_17, ↓fX10_chain_18, ↓fX10_chain_19, ↓fX10_chain_22, ↓fX10_chain_25, ↓fX10_chain_26, ↓fX10_chain_29, ↓fX10_chain_30, ↓fX10_chain_33, ↓fX10_chain_36, ↓fX10_chain_37, ↓fX10_chain_38, ↓fX10_chain_39, ↓fX10_chain_40, ↓fX10_chain_41, ↓fX10_chain_44, ↓fX10_chain_47, ↓fX10_chain_48, ↓fX10_chain_49, ↓fX10_chain_52, ↓fX10_chain_53, ↓fX10_chain_54, ↓fX10_chain_55, ↓fX10_chain_58, ↓fX10_chain_59, ↓fX10_chain_61, ↓fX10_chain_63, ↓fX10_chain_66, ↓fX10_chain_69, ↓fX10_chain_70, ↓fX10_chain_73, ↓fX10_chain_75, ↓fX10_chain_76, ↓fX10_chain_76z, ↓fX10_chain_77, ↓fX10_chain_80, ↓fX10_chain_83, ↓fX10_chain_84, ↓fX10_chain_86, ↓fX10_chain_87, ↓fX10_chain_89, ↓fX10_chain_90, ↓fX10_chain_92, ↓fX10_chain_93, ↓fX10_chain_97, ↓fX10_chain_100, ↓fX10_chain_101, ↓fX10_chain_104, ↓fX10_chain_105, ↓fX10_chain_106, ↓fX10_chain_108, ↓fX10_chain_111, ↓fX10_chain_112, ↓fX10_chain_112z, ↓fX10_chain_113, ↓fX10_chain_116, ↓fX10_chain_118, ↓fX10_chain_119, ↓fX10_chain_120, ↓fX10_chain_121, ↓fX10_chain_124, ↓fX10_chain_125, ↓fX10_chain_128, ↓fX10_chain_130, ↓fX10_chain_132, ↓fX10_chain_135, ↓fX10_chain_136, ↓fX10_chain_139, ↓fX10_chain_140, ↓fX10_chain_143, ↓fX10_chain_145, ↓fX10_chain_146, ↓fX10_chain_147, ↓fX10_chain_148, ↓fX10_chain_149, ↓fX10_chain_152, ↓fX10_chain_153, ↓fX10_chain_156, ↓fX10_chain_157, ↓fX10_chain_159, ↓fX10_chain_161, ↓fX10_chain_164, ↓fX10_chain_166, ↓fX10_chain_169, ↓fX10_chain_170, ↓fX10_chain_173, ↓fX10_chain_174, ↓fX10_chain_176, ↓fX10_chain_178, ↓fX10_chain_181, ↓fX10_chain_183, ↓fX10_chain_186, ↓fX10_chain_187, ↓fX10_chain_188, ↓fX10_chain_190, ↓fX10_chain_193, ↓fX10_chain_195, ↓fX10_chain_198, ↓fX10_chain_199, ↓fX10_chain_202, ↓fX10_chain_204, ↓fX10_chain_207, ↓fX10_chain_208, ↓fX10_chain_209, ↓fX10_chain_212, ↓fX10_chain_214, ↓fX10_chain_217, ↓fX10_chain_219, ↓fX10_chain_222, ↓fX10_chain_223, ↓fX10_chain_226, ↓fX10_chain_227, ↓m_isIn, bI_0, and_self, true_and, and_true, false_and, and_false, not_true_eq_false, not_false_eq_true, or_self, true_or, or_true, false_or, or_false, ite_not, Decidable.not_not, decide_eq_true_eq, Bool.not_true, Bool.not_false, Bool.false_eq_true, Bool.not_eq_true, n10, n20, n21, n30, n31, n32, n40, n41, n42, n43, ↓reduceIte]
        exact v2 Q
      · have eb : bI (0 ≤ w ∧ w ≤ 2) = 1 := bI_p c1
        rw [if_neg z] at po
        have b1 := bI_n z
        have et : ∀ Q, RK MX10_isThere 0 [.ref m, .int (zi s), .int (zi x), jk] [] (0, 0) (E, zg (iG G m 0), zk L, r) Q = Q (E, zg (iG G m 0), zk L, r) (.int (zi 0)) := fun Q => by rw [m_isThere hm hs4 (SL_i hl) hW hx, b1]
        have ec : chZ (σ s.toNat) x w = -1 := if_pos po
        rw [ec, ans_n]
        refine ⟨u2 (iG G m 0) m 0 5, lkM_i.trans lkM_0, u2_s _ _ _ _, fun Q => ?_⟩
        simp (disch := first | assumption | exact c2_int _ | exact c2_ref _ | exact c2_jk | exact c2_null | omega | exact bI_r _ | exact bI_01 _) only [↓fX10_chain_0, ↓fX10_chain_1, ↓fX10_chain_2, ↓fX10_chain_3, ↓fX10_chain_4, ↓fX10_chain_7, ↓fX10_chain_10, ↓fX10_chain_13, ↓fX10_chain_14, ↓fX10_chain_17, ↓fX10_chain_18, ↓fX10_chain_19, ↓fX10_chain_22, ↓fX10_chain_25, ↓fX10_chain_26, ↓fX10_chain_29, ↓fX10_chain_30, ↓fX10_chain_33, ↓fX10_chain_36, ↓fX10_chain_37, ↓fX10_chain_38, ↓fX10_chain_39, ↓fX10_chain_40, ↓fX10_chain_41, ↓fX10_chain_44, ↓fX10_chain_47, ↓fX10_chain_48, ↓fX10_chain_49, ↓fX10_chain_52, ↓fX10_chain_53, ↓fX10_chain_54, ↓fX10_chain_55, ↓fX10_chain_58, ↓fX10_chain_59, ↓fX10_chain_61, ↓fX10_chain_63, ↓fX10_chain_66, ↓fX10_chain_69, ↓fX10_chain_70, ↓fX10_chain_73, ↓fX10_chain_75, ↓fX10_chain_76, ↓fX10_chain_76z, ↓fX10_chain_77, ↓fX10_chain_80, ↓fX10_chain_83, ↓fX10_chain_84, ↓fX10_chain_86, ↓fX10_chain_87, ↓fX10_chain_89, ↓fX10_chain_90, ↓fX10_chain_92, ↓fX10_chain_93, ↓fX10_chain_95, ↓fX10_chain_97, ↓fX10_chain_100, ↓fX10_chain_101, ↓fX10_chain_104, ↓fX10_chain_105, ↓fX10_chain_106, ↓fX10_chain_108, ↓fX10_chain_111, ↓fX10_chain_112, ↓fX10_chain_112z, ↓fX10_chain_113, ↓fX10_chain_116, ↓fX10_chain_118, ↓fX10_chain_119, ↓fX10_chain_120, ↓fX10_chain_121, ↓fX10_chain_124, ↓fX10_chain_125, ↓fX10_chain_128, ↓fX10_chain_130, ↓fX10_chain_132, ↓fX10_chain_135, ↓fX10_chain_136, ↓fX10_chain_139, ↓fX10_chain_140, ↓fX10_chain_143, ↓fX10_chain_145, ↓fX10_chain_146, ↓fX10_chain_147, ↓fX10_chain_148, ↓fX10_chain_149, ↓fX10_chain_152, ↓fX10_chain_153, ↓fX10_chain_156, ↓fX10_chain_157, ↓fX10_chain_159, ↓fX10_chain_161, ↓fX10_chain_164, ↓fX10_chain_166, ↓fX10_chain_169, ↓fX10_chain_170, ↓fX10_chain_173, ↓fX10_chain_174, ↓fX10_chain_176, ↓fX10_chain_178, ↓fX10_chain_181, ↓fX10_chain_183, ↓fX10_chain_186, ↓fX10_chain_187, ↓fX10_chain_188, ↓fX10_chain_190, ↓fX10_chain_193, ↓fX10_chain_195, ↓fX10_chain_198, ↓fX10_chain_199, ↓fX10_chain_202, ↓fX10_chain_204, ↓fX10_chain_207, ↓fX10_chain_208, ↓fX10_chain_209, ↓fX10_chain_212, ↓fX10_chain_214, ↓fX10_chain_217, ↓fX10_chain_219, ↓fX10_chain_222, ↓fX10_chain_223, ↓fX10_chain_226, ↓fX10_chain_227, ↓m_isIn, bI_0, ↓eS, ↓m_is0, ↓et, ↓m_refuse, eb, c1, and_self, true_and, and_true, false_and, and_false, not_true_eq_false, not_false_eq_true, or_self, true_or, or_true, false_or, or_false, ite_not, Decidable.not_not, decide_eq_true_eq, Bool.not_true, Bool.not_false, Bool.false_eq_true, Bool.not_eq_true, n10, n20, n21, n30, n31, n32, n40, n41, n42, n43, ↓reduceIte]
    · rw [if_neg c]
      have eS := fun Q => m_isS0 (L := L) (Q := Q) hM hs c
      exact ⟨iG G m 2, lkM_i, iG_0, fun Q => by simp (disch := first | assumption | exact c2_int _ | exact c2_ref _ | exact c2_jk | exact c2_null | omega | exact bI_r _ | exact bI_01 _) only [↓fX10_chain_0, ↓fX10_chain_1, ↓fX10_chain_2, ↓fX10_chain_3, ↓fX10_chain_4, ↓fX10_chain_7, ↓fX10_chain_10, ↓fX10_chain_13, ↓fX10_chain_14, ↓fX10_chain_17, ↓fX10_chain_18, ↓fX10_chain_19, ↓fX10_chain_22, ↓fX10_chain_25, ↓fX10_chain_26, ↓fX10_chain_29, ↓fX10_chain_30, ↓fX10_chain_33, ↓fX10_chain_36, ↓fX10_chain_37, ↓fX10_chain_38, ↓fX10_chain_39, ↓fX10_chain_40, ↓fX10_chain_41, ↓fX10_chain_44, ↓fX10_chain_47, ↓fX10_chain_48, ↓fX10_chain_49, ↓fX10_chain_52, ↓fX10_chain_53, ↓fX10_chain_54, ↓fX10_chain_55, ↓fX10_chain_58, ↓fX10_chain_59, ↓fX10_chain_61, ↓fX10_chain_63, ↓fX10_chain_66, ↓fX10_chain_69, ↓fX10_chain_70, ↓fX10_chain_73, ↓fX10_chain_75, ↓fX10_chain_76, ↓fX10_chain_76z, ↓fX10_chain_77, ↓fX10_chain_80, ↓fX10_chain_83, ↓fX10_chain_84, ↓fX10_chain_86, ↓fX10_chain_87, ↓fX10_chain_89, ↓fX10_chain_90, ↓fX10_chain_92, ↓fX10_chain_93, ↓fX10_chain_95, ↓fX10_chain_97, ↓fX10_chain_100, ↓fX10_chain_101, ↓fX10_chain_104, ↓fX10_chain_105, ↓fX10_chain_106, ↓fX10_chain_108, ↓fX10_chain_111, ↓fX10_chain_112, ↓fX10_chain_112z, ↓fX10_chain_113, ↓fX10_chain_116, ↓fX10_chain_118, ↓fX10_chain_119, ↓fX10_chain_120, ↓fX10_chain_121, ↓fX10_chain_124, ↓fX10_chain_125, ↓fX10_chain_128, ↓fX10_chain_130, ↓fX10_chain_132, ↓fX10_chain_135, ↓fX10_chain_136, ↓fX10_chain_139, ↓fX10_chain_140, ↓fX10_chain_143, ↓fX10_chain_145, ↓fX10_chain_146, ↓fX10_chain_147, ↓fX10_chain_148, ↓fX10_chain_149, ↓fX10_chain_152, ↓fX10_chain_153, ↓fX10_chain_156, ↓fX10_chain_157, ↓fX10_chain_159, ↓fX10_chain_161, ↓fX10_chain_164, ↓fX10_chain_166, ↓fX10_chain_169, ↓fX10_chain_170, ↓fX10_chain_173, ↓fX10_chain_174, ↓fX10_chain_176, ↓fX10_chain_178, ↓fX10_chain_181, ↓fX10_chain_183, ↓fX10_chain_186, ↓fX10_chain_187, ↓fX10_chain_188, ↓fX10_chain_190, ↓fX10_chain_193, ↓fX10_chain_195, ↓fX10_chain_198, ↓fX10_chain_199, ↓fX10_chain_202, ↓fX10_chain_204, ↓fX10_chain_207, ↓fX10_chain_208, ↓fX10_chain_209, ↓fX10_chain_212, ↓fX10_chain_214, ↓fX10_chain_217, ↓fX10_chain_219, ↓fX10_chain_222, ↓fX10_chain_223, ↓fX10_chain_226, ↓fX10_chain_227, ↓m_isIn, bI_0, ↓eS, ↓m_isN, c1, and_self, true_and, and_true, false_and, and_false, not_true_eq_false, not_false_eq_true, or_self, true_or, or_true, false_or, or_false, ite_not, Decidable.not_not, decide_eq_true_eq, Bool.not_true, Bool.not_false, Bool.false_eq_true, Bool.not_eq_true, n10, n20, n21, n30, n31, n32, n40, n41, n42, n43, ↓reduceIte]⟩
theorem y_mirror (hM : MD E r G m n σ) (hs : I32 s) (hw : I32 w) : ∃ G', lkM G G' m ∧ G' m 0 = (onS (decide ((¬ (0 ≤ w ∧ w ≤ 1)))) n s (ans (mrZ (σ s.toNat) w))).1 ∧ ∀ Q, RK MX10_mirror 0 [.ref m, .int (zi s), .int (zi w), jk, jk] [] (0, 0) (E, zg G, zk L, r) Q = Q (E, zg G', zk L, r) (.int (zi (onS (decide ((¬ (0 ≤ w ∧ w ≤ 1)))) n s (ans (mrZ (σ s.toNat) w))).2)) := by
  have hm := hM.1
  have m0 := hm.1
  have h6 := hM.2.1
  by_cases c1 : ¬ (0 ≤ w ∧ w ≤ 1)
  · have cb : onS (decide ((¬ (0 ≤ w ∧ w ≤ 1)))) n s (ans (mrZ (σ s.toNat) w)) = (1, -1) := if_pos (decide_eq_true (by omega))
    rw [cb]
    exact ⟨iG G m 1, lkM_i, iG_0, fun Q => by simp (disch := first | assumption | exact c2_int _ | exact c2_ref _ | exact c2_jk | exact c2_null | omega | exact bI_r _ | exact bI_01 _) only [↓fX10_mirror_0, ↓fX10_mirror_1, ↓fX10_mirror_2, ↓fX10_mirror_3, ↓fX10_mirror_4, ↓fX10_mirror_5, ↓fX10_mirror_8, ↓fX10_mirror_11, ↓fX10_mirror_12, ↓fX10_mirror_15, ↓fX10_mirror_16, ↓fX10_mirror_17, ↓fX10_mirror_20, ↓fX10_mirror_23, ↓fX10_mirror_24, ↓fX10_mirror_27, ↓fX10_mirror_28, ↓fX10_mirror_31, ↓fX10_mirror_34, ↓fX10_mirror_35, ↓fX10_mirror_36, ↓fX10_mirror_37, ↓fX10_mirror_38, ↓fX10_mirror_41, ↓fX10_mirror_42, ↓fX10_mirror_45, ↓fX10_mirror_46, ↓fX10_mirror_49, ↓fX10_mirror_50, ↓fX10_mirror_51, ↓fX10_mirror_54, ↓fX10_mirror_55, ↓fX10_mirror_56, ↓fX10_mirror_59, ↓fX10_mirror_60, ↓fX10_mirror_61, ↓fX10_mirror_62, ↓fX10_mirror_63, ↓fX10_mirror_66, ↓fX10_mirror_67, ↓fX10_mirror_69, ↓fX10_mirror_71, ↓fX10_mirror_72, ↓fX10_mirror_73, ↓fX10_mirror_74, ↓fX10_mirror_77, ↓fX10_mirror_80, ↓fX10_mirror_81, ↓fX10_mirror_82, ↓fX10_mirror_84, ↓fX10_mirror_86, ↓fX10_mirror_87, ↓fX10_mirror_88, ↓fX10_mirror_89, ↓fX10_mirror_90, ↓fX10_mirror_93, ↓fX10_mirror_96, ↓fX10_mirror_97, ↓fX10_mirror_100, ↓fX10_mirror_101, ↓fX10_mirror_104, ↓fX10_mirror_106, ↓fX10_mirror_107, ↓fX10_mirror_110, ↓fX10_mirror_113, ↓fX10_mirror_116, ↓fX10_mirror_119, ↓fX10_mirror_120, ↓fX10_mirror_121, ↓fX10_mirror_124, ↓m_isIn, bI_0, ↓m_isN, c1, and_self, true_and, and_true, false_and, and_false, not_true_eq_false, not_false_eq_true, or_self, true_or, or_true, false_or, or_false, ite_not, Decidable.not_not, decide_eq_true_eq, Bool.not_true, Bool.not_false, Bool.false_eq_true, Bool.not_eq_true, n10, n20, n21, n30, n31, n32, n40, n41, n42, n43, ↓reduceIte]⟩
  · have c1 := Decidable.not_not.mp c1
    have cq : (decide ((¬ (0 ≤ w ∧ w ≤ 1)))) = false := decide_eq_false (by omega)
    have cb : onS (decide ((¬ (0 ≤ w ∧ w ≤ 1)))) n s (ans (mrZ (σ s.toNat) w)) = if 0 ≤ s ∧ s < n then (ans (mrZ (σ s.toNat) w)) else (2, -1) := if_neg (by rw [cq]; decide)
    rw [cb]
    by_cases c : 0 ≤ s ∧ s < n
    · rw [if_pos c]
      obtain ⟨hl, hW⟩ := hM.2.2 s.toNat (by omega)
      rw [Int.toNat_of_nonneg c.1] at hl
      have hz := szS_b hW
      have eS := fun Q => m_isS1 (L := L) (Q := Q) hM c
      obtain ⟨G2, hl2, ha, h12, h20, lk2, tr, eN⟩ := m_now (L := L) hm (show 0 ≤ s ∧ s ≤ 4 by omega) hl hW
      have hs4 : 0 ≤ s ∧ s ≤ 4 := by omega
      have eb : bI (0 ≤ w ∧ w ≤ 1) = 1 := bI_p c1
      have I := mmZ_I hW
      by_cases z : szS (σ s.toNat) = 1
      · have ec : mrZ (σ s.toNat) w = -1 := by
          rcases I.1 with q | q
          · unfold mrZ mrA
            rw [if_pos (Or.inr q.2)]
            exact q.2
          · omega
        rw [ec, ans_n]
        refine ⟨u2 G2 m 0 5, (lk2.trans lkM_0), u2_s _ _ _ _, fun Q => ?_⟩
        simp (disch := first | assumption | exact c2_int _ | exact c2_ref _ | exact c2_jk | exact c2_null | omega | exact bI_r _ | exact bI_01 _) only [↓fX10_mirror_0, ↓fX10_mirror_1, ↓fX10_mirror_2, ↓fX10_mirror_3, ↓fX10_mirror_4, ↓fX10_mirror_5, ↓fX10_mirror_8, ↓fX10_mirror_11, ↓fX10_mirror_12, ↓fX10_mirror_15, ↓fX10_mirror_16, ↓fX10_mirror_17, ↓fX10_mirror_20, ↓fX10_mirror_23, ↓fX10_mirror_24, ↓fX10_mirror_27, ↓fX10_mirror_28, ↓fX10_mirror_31, ↓fX10_mirror_34, ↓fX10_mirror_35, ↓fX10_mirror_36, ↓fX10_mirror_37, ↓fX10_mirror_38, ↓fX10_mirror_41, ↓fX10_mirror_42, ↓fX10_mirror_45, ↓fX10_mirror_46, ↓fX10_mirror_49, ↓fX10_mirror_50, ↓fX10_mirror_51, ↓fX10_mirror_54, ↓fX10_mirror_55, ↓fX10_mirror_56, ↓fX10_mirror_59, ↓fX10_mirror_60, ↓fX10_mirror_61, ↓fX10_mirror_62, ↓fX10_mirror_63, ↓fX10_mirror_66, ↓fX10_mirror_67, ↓fX10_mirror_69, ↓fX10_mirror_71, ↓fX10_mirror_72, ↓fX10_mirror_73, ↓fX10_mirror_74, ↓fX10_mirror_77, ↓fX10_mirror_80, ↓fX10_mirror_81, ↓fX10_mirror_82, ↓fX10_mirror_84, ↓fX10_mirror_86, ↓fX10_mirror_87, ↓fX10_mirror_88, ↓fX10_mirror_89, ↓fX10_mirror_90, ↓fX10_mirror_93, ↓fX10_mirror_96, ↓fX10_mirror_97, ↓fX10_mirror_100, ↓fX10_mirror_101, ↓fX10_mirror_104, ↓fX10_mirror_106, ↓fX10_mirror_107, ↓fX10_mirror_110, ↓fX10_mirror_113, ↓fX10_mirror_116, ↓fX10_mirror_119, ↓fX10_mirror_120, ↓fX10_mirror_121, ↓fX10_mirror_124, ↓m_isIn, bI_0, ↓eS, ↓m_is0, ↓eN, h12, eb, z, ↓m_refuse, c1, and_self, true_and, and_true, false_and, and_false, not_true_eq_false, not_false_eq_true, or_self, true_or, or_true, false_or, or_false, ite_not, Decidable.not_not, decide_eq_true_eq, Bool.not_true, Bool.not_false, Bool.false_eq_true, Bool.not_eq_true, n10, n20, n21, n30, n31, n32, n40, n41, n42, n43, ↓reduceIte]
      · have lp := fun l4 Q => m_mirror_loop (L := L) (w := w) (Q := Q) hm hs4 hl2 hW ha (by omega) I (by omega) 600 (szS (σ s.toNat) - 1) l4 (by rcases I.1 with q | q <;> omega) (by rcases I.1 with q | q <;> omega) (by omega)
        have cb : 0 ≤ mrZ (σ s.toNat) w := by
          have one := I.2 1 1 (by omega) (by omega) (by omega) (fun j j1 j2 => by rw [show (1 : Int) + 1 - j = j by omega]) (by omega)
          unfold mrZ mrA
          rcases I.1 with q | q
          · omega
          · split <;> omega
        rw [ans_y cb]
        refine ⟨G2, lk2, h20, fun Q => ?_⟩
        simp (disch := first | assumption | exact c2_int _ | exact c2_ref _ | exact c2_jk | exact c2_null | omega | exact bI_r _ | exact bI_01 _) only [↓fX10_mirror_0, ↓fX10_mirror_1, ↓fX10_mirror_2, ↓fX10_mirror_3, ↓fX10_mirror_4, ↓fX10_mirror_5, ↓fX10_mirror_8, ↓fX10_mirror_11, ↓fX10_mirror_12, ↓fX10_mirror_15, ↓fX10_mirror_16, ↓fX10_mirror_17, ↓fX10_mirror_20, ↓fX10_mirror_23, ↓fX10_mirror_24, ↓fX10_mirror_27, ↓fX10_mirror_28, ↓fX10_mirror_31, ↓fX10_mirror_34, ↓fX10_mirror_35, ↓fX10_mirror_36, ↓fX10_mirror_37, ↓fX10_mirror_38, ↓fX10_mirror_41, ↓fX10_mirror_42, ↓fX10_mirror_45, ↓fX10_mirror_46, ↓fX10_mirror_49, ↓fX10_mirror_50, ↓fX10_mirror_51, ↓fX10_mirror_54, ↓fX10_mirror_55, ↓fX10_mirror_56, ↓fX10_mirror_59, ↓fX10_mirror_60, ↓fX10_mirror_61, ↓fX10_mirror_63, ↓fX10_mirror_66, ↓fX10_mirror_67, ↓fX10_mirror_69, ↓fX10_mirror_71, ↓fX10_mirror_72, ↓fX10_mirror_73, ↓fX10_mirror_74, ↓fX10_mirror_77, ↓fX10_mirror_80, ↓fX10_mirror_81, ↓fX10_mirror_82, ↓fX10_mirror_84, ↓fX10_mirror_86, ↓fX10_mirror_87, ↓fX10_mirror_88, ↓fX10_mirror_89, ↓fX10_mirror_90, ↓fX10_mirror_93, ↓fX10_mirror_96, ↓fX10_mirror_97, ↓fX10_mirror_100, ↓fX10_mirror_101, ↓fX10_mirror_104, ↓fX10_mirror_106, ↓fX10_mirror_107, ↓fX10_mirror_110, ↓fX10_mirror_113, ↓fX10_mirror_116, ↓fX10_mirror_119, ↓fX10_mirror_120, ↓fX10_mirror_121, ↓fX10_mirror_124, ↓m_isIn, bI_0, ↓eS, ↓m_is0, ↓eN, ↓lp, h12, eb, z, c1, and_self, true_and, and_true, false_and, and_false, not_true_eq_false, not_false_eq_true, or_self, true_or, or_true, false_or, or_false, ite_not, Decidable.not_not, decide_eq_true_eq, Bool.not_true, Bool.not_false, Bool.false_eq_true, Bool.not_eq_true, n10, n20, n21, n30, n31, n32, n40, n41, n42, n43, ↓reduceIte]
        rfl
    · rw [if_neg c]
      have eS := fun Q => m_isS0 (L := L) (Q := Q) hM hs c
      exact ⟨iG G m 2, lkM_i, iG_0, fun Q => by simp (disch := first | assumption | exact c2_int _ | exact c2_ref _ | exact c2_jk | exact c2_null | omega | exact bI_r _ | exact bI_01 _) only [↓fX10_mirror_0, ↓fX10_mirror_1, ↓fX10_mirror_2, ↓fX10_mirror_3, ↓fX10_mirror_4, ↓fX10_mirror_5, ↓fX10_mirror_8, ↓fX10_mirror_11, ↓fX10_mirror_12, ↓fX10_mirror_15, ↓fX10_mirror_16, ↓fX10_mirror_17, ↓fX10_mirror_20, ↓fX10_mirror_23, ↓fX10_mirror_24, ↓fX10_mirror_27, ↓fX10_mirror_28, ↓fX10_mirror_31, ↓fX10_mirror_34, ↓fX10_mirror_35, ↓fX10_mirror_36, ↓fX10_mirror_37, ↓fX10_mirror_38, ↓fX10_mirror_41, ↓fX10_mirror_42, ↓fX10_mirror_45, ↓fX10_mirror_46, ↓fX10_mirror_49, ↓fX10_mirror_50, ↓fX10_mirror_51, ↓fX10_mirror_54, ↓fX10_mirror_55, ↓fX10_mirror_56, ↓fX10_mirror_59, ↓fX10_mirror_60, ↓fX10_mirror_61, ↓fX10_mirror_62, ↓fX10_mirror_63, ↓fX10_mirror_66, ↓fX10_mirror_67, ↓fX10_mirror_69, ↓fX10_mirror_71, ↓fX10_mirror_72, ↓fX10_mirror_73, ↓fX10_mirror_74, ↓fX10_mirror_77, ↓fX10_mirror_80, ↓fX10_mirror_81, ↓fX10_mirror_82, ↓fX10_mirror_84, ↓fX10_mirror_86, ↓fX10_mirror_87, ↓fX10_mirror_88, ↓fX10_mirror_89, ↓fX10_mirror_90, ↓fX10_mirror_93, ↓fX10_mirror_96, ↓fX10_mirror_97, ↓fX10_mirror_100, ↓fX10_mirror_101, ↓fX10_mirror_104, ↓fX10_mirror_106, ↓fX10_mirror_107, ↓fX10_mirror_110, ↓fX10_mirror_113, ↓fX10_mirror_116, ↓fX10_mirror_119, ↓fX10_mirror_120, ↓fX10_mirror_121, ↓fX10_mirror_124, ↓m_isIn, bI_0, ↓eS, ↓m_isN, c1, and_self, true_and, and_true, false_and, and_false, not_true_eq_false, not_false_eq_true, or_self, true_or, or_true, false_or, or_false, ite_not, Decidable.not_not, decide_eq_true_eq, Bool.not_true, Bool.not_false, Bool.false_eq_true, Bool.not_eq_true, n10, n20, n21, n30, n31, n32, n40, n41, n42, n43, ↓reduceIte]⟩
end BM
