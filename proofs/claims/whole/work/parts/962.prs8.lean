/-! The reference's reader: a law whole. -/
def fxS (B : Int → Int) (n : Int) (T : TkT) : StT := match rdFix B n T with
  | .error e => .error e
  | .ok (_, _, T3) => .ok T3
theorem fxS_s (B : Int → Int) (n : Int) (T : TkT) : nbS B n (nxS B n (mustS (nbS B n (.ok T) 2 99) (wdI B (nbS B n (.ok T) 2 99) 9) 2)) 1 60 = fxS B n T ∧ (∀ g m T3, rdFix B n T = .ok (g, m, T3) → nbV B n (.ok T) 2 99 = g ∧ nbV B n (nxS B n (mustS (nbS B n (.ok T) 2 99) (wdI B (nbS B n (.ok T) 2 99) 9) 2)) 1 60 = m ∧ ∃ T2, nxS B n (mustS (nbS B n (.ok T) 2 99) (wdI B (nbS B n (.ok T) 2 99) 9) 2) = .ok T2) := by
  have e1 : nbS B n (.ok T) 2 99 = match rdNum B n 2 99 T with
    | .error e => .error e
    | .ok (_, T') => .ok T' := rfl
  have e2 : nbV B n (.ok T) 2 99 = match rdNum B n 2 99 T with
    | .error _ => 2
    | .ok (v, _) => v := rfl
  unfold fxS rdFix
  rw [e1, e2]
  cases q1 : rdNum B n 2 99 T with
  | error e => exact ⟨rfl, fun g m T3 h => (by cases h)⟩
  | ok p =>
    obtain ⟨v, T1⟩ := p
    dsimp only
    have e3 : wdI B (.ok T1) 9 = bI (isT B T1 (wdL 147) = true) := rfl
    rw [e3]
    unfold rdWord
    by_cases c : isT B T1 (wdL 147) = true
    · rw [if_pos c, bI_p c]
      have e4 : nxS B n (mustS (.ok T1) 1 2) = .ok (nxT B n T1.2.2.1) := rfl
      rw [e4]
      have e5 : nbS B n (.ok (nxT B n T1.2.2.1)) 1 60 = match rdNum B n 1 60 (nxT B n T1.2.2.1) with
        | .error e => .error e
        | .ok (_, T') => .ok T' := rfl
      have e6 : nbV B n (.ok (nxT B n T1.2.2.1)) 1 60 = match rdNum B n 1 60 (nxT B n T1.2.2.1) with
        | .error _ => 1
        | .ok (v, _) => v := rfl
      rw [e5, e6]
      dsimp only
      cases q2 : rdNum B n 1 60 (nxT B n T1.2.2.1) with
      | error e => exact ⟨rfl, fun g m T3 h => (by cases h)⟩
      | ok p2 =>
        obtain ⟨v2, T2⟩ := p2
        refine ⟨rfl, fun g m T3 h => ?_⟩
        cases h
        exact ⟨rfl, rfl, _, rfl⟩
    · rw [if_neg c, bI_n c]
      exact ⟨rfl, fun g m T3 h => (by cases h)⟩
section BM
variable {E : AE} {G G1 G2 G' L L' L1 L2 : Nat → Nat → Int} {r : Nat → Nat → Option Nat} {h : AH} {Q : AH → Value → Prop} {m M c cs b0 : Nat} {B : Int → Int} {T : TkT} {st : StT} {f g C : Nat → Int} {s e y x w i p v lo hi t b d n ki : Int}
theorem wdI_01 (B : Int → Int) (st : StT) (i : Nat) : wdI B st i = 0 ∨ wdI B st i = 1 := by
  cases st with
  | error e => exact Or.inl rfl
  | ok T => exact bI_01 _
theorem wdI_2 {i : Nat} (h : wdI B st i = 1) : ∀ T, st = .ok T → T.1 = 2 ∨ T.1 = 3 ∨ T.1 = 4 := fun T hT => by
  subst hT
  by_cases q : isT B T (wdL (wix i)) = true
  · unfold isT at q
    rw [decide_eq_true_eq] at q
    exact Or.inl q.1
  · have e : wdI B (.ok T) i = 0 := bI_n q
    omega
/-- a fixed gap, so often -/
theorem rl_fixed (hm : shM E r m) (hK : kWd L m) (hb0 : b0 ≤ 5472) (hS : rdS G L m B n (.ok T)) (hC : G (m + 2) = lwF b0 4 0 (fun _ => 0) C) :
    ∃ G' L', prV G L G' L' m ∧ rdS G' L' m B n (fxS B n T) ∧ (∀ g mm T', rdFix B n T = .ok (g, mm, T') → G' (m + 2) = lwF b0 4 0 (fun j => if j = 0 then g else if j = 1 then mm else 0) C) ∧ ∀ Q, RK MX10_readsLaw 79 [.ref m, .int (zi (b0 : Int)), .int (zi 4), .int (zi 4)] [] (0, 0) (E, zg G, zk L, r) Q = Q (E, zg G', zk L', r) .null := by
  have m0 := hm.1
  obtain ⟨ka2, la2, ra2⟩ := hm.2.2.1
  obtain ⟨p1, p2⟩ := fxS_s B n T
  obtain ⟨G1, L1, f1, s1, e1⟩ := m_takesNumber (lo := 2) (hi := 99) hm hS (by decide) (by decide)
  let G2 : Nat → Nat → Int := u2 G1 (m + 2) (b0 + 8) (nbV B n (.ok T) 2 99)
  have s2 : rdS G2 L1 m B n (nbS B n (.ok T) 2 99) := rdS_2 s1
  have hK1 : kWd L1 m := kWd_c hK f1
  have e2 : ∀ Q, RK MX10_isWord 0 [.ref m, .int (zi 9)] [] (0, 0) (E, zg G2, zk L1, r) Q = Q (E, zg G2, zk L1, r) (.int (zi (wdI B (nbS B n (.ok T) 2 99) 9))) := fun Q => m_isWord hm hK1 s2 (i := 9) (by decide)
  obtain ⟨G3, L3, f3, s3, e3⟩ := m_takes hm s2 (wdI_01 B _ 9) (fun z => wdI_2 z)
  have g3 := fun Q => m_good (Q := Q) hm s3
  obtain ⟨G4, L4, f4, s4, e4⟩ := m_takesNumber (lo := 1) (hi := 60) hm s3 (by decide) (by decide)
  have i8 : ((b0 : Int) + 8).toNat = b0 + 8 := by omega
  have i9 : ((b0 : Int) + 8 + 1).toNat = b0 + 9 := by omega
  have eG : u2 G1 (m + 2) (b0 + 8) (nbV B n (.ok T) 2 99) = G2 := rfl
  have fr3 : prV G L G3 L3 m := ((prV_W f1).trans prV_2).trans (prV_W f3)
  have z45 : ¬ (4 : Int) = 5 := by decide
  have d3 : G3 (m + 2) = fun q => if q = b0 + 8 then nbV B n (.ok T) 2 99 else lwF b0 4 0 (fun _ => 0) C q := by
    rw [f3.1 _ (by omega)]
    funext q
    show (if m + 2 = m + 2 ∧ q = b0 + 8 then _ else G1 (m + 2) q) = _
    rw [f1.1 _ (by omega), hC]
    simp only [true_and]
  rw [p1] at s4
  have hgd : gdI (nxS B n (mustS (nbS B n (.ok T) 2 99) (wdI B (nbS B n (.ok T) 2 99) 9) 2)) = 0 ∨ gdI (nxS B n (mustS (nbS B n (.ok T) 2 99) (wdI B (nbS B n (.ok T) 2 99) 9) 2)) = 1 := by
    cases nxS B n (mustS (nbS B n (.ok T) 2 99) (wdI B (nbS B n (.ok T) 2 99) 9) 2) with
    | error e => exact Or.inl rfl
    | ok T => exact Or.inr rfl
  rcases hgd with hg | hg
  · have hst : fxS B n T = nxS B n (mustS (nbS B n (.ok T) 2 99) (wdI B (nbS B n (.ok T) 2 99) 9) 2) := by
      rw [← p1]
      cases q : nxS B n (mustS (nbS B n (.ok T) 2 99) (wdI B (nbS B n (.ok T) 2 99) 9) 2) with
      | error e => rfl
      | ok T2 =>
        rw [q] at hg
        exact absurd hg (by show ¬ (1 : Int) = 0; decide)
    rw [hg] at g3
    refine ⟨G3, L3, fr3, by rw [hst]; exact s3, fun g mm T' h => ?_, fun Q => ?_⟩
    · obtain ⟨-, -, T2, h2⟩ := p2 g mm T' h
      rw [h2] at hg
      exact absurd hg (by show ¬ (1 : Int) = 0; decide)
    · simp (disch := first | assumption | exact c2_int _ | exact c2_ref _ | exact c2_jk | exact c2_null | omega | exact bI_r _ | exact bI_01 _) only [↓fX10_readsLaw_0, ↓fX10_readsLaw_1, ↓fX10_readsLaw_2, ↓fX10_readsLaw_3, ↓fX10_readsLaw_4, ↓fX10_readsLaw_5, ↓fX10_readsLaw_6, ↓fX10_readsLaw_9, ↓fX10_readsLaw_10, ↓fX10_readsLaw_11, ↓fX10_readsLaw_12, ↓fX10_readsLaw_13, ↓fX10_readsLaw_16, ↓fX10_readsLaw_19, ↓fX10_readsLaw_20, ↓fX10_readsLaw_21, ↓fX10_readsLaw_24, ↓fX10_readsLaw_27, ↓fX10_readsLaw_28, ↓fX10_readsLaw_30, ↓fX10_readsLaw_33, ↓fX10_readsLaw_36, ↓fX10_readsLaw_37, ↓fX10_readsLaw_38, ↓fX10_readsLaw_39, ↓fX10_readsLaw_41, ↓fX10_readsLaw_44, ↓fX10_readsLaw_47, ↓fX10_readsLaw_48, ↓fX10_readsLaw_49, ↓fX10_readsLaw_50, ↓fX10_readsLaw_51, ↓fX10_readsLaw_54, ↓fX10_readsLaw_55, ↓fX10_readsLaw_58, ↓fX10_readsLaw_59, ↓fX10_readsLaw_62, ↓fX10_readsLaw_63, ↓fX10_readsLaw_66, ↓fX10_readsLaw_69, ↓fX10_readsLaw_70, ↓fX10_readsLaw_71, ↓fX10_readsLaw_74, ↓fX10_readsLaw_75, ↓fX10_readsLaw_76, ↓fX10_readsLaw_77, ↓fX10_readsLaw_78, ↓fX10_readsLaw_79, ↓fX10_readsLaw_80, ↓fX10_readsLaw_81, ↓fX10_readsLaw_84, ↓fX10_readsLaw_85, ↓fX10_readsLaw_88, ↓fX10_readsLaw_89, ↓fX10_readsLaw_91, ↓fX10_readsLaw_92, ↓fX10_readsLaw_93, ↓fX10_readsLaw_94, ↓fX10_readsLaw_96, ↓fX10_readsLaw_99, ↓fX10_readsLaw_100, ↓fX10_readsLaw_101, ↓fX10_readsLaw_102, ↓fX10_readsLaw_104, ↓fX10_readsLaw_107, ↓fX10_readsLaw_110, ↓fX10_readsLaw_111, ↓fX10_readsLaw_114, ↓fX10_readsLaw_117, ↓fX10_readsLaw_118, ↓fX10_readsLaw_121, ↓fX10_readsLaw_122, ↓fX10_readsLaw_124, ↓fX10_readsLaw_125, ↓fX10_readsLaw_126, ↓fX10_readsLaw_127, ↓fX10_readsLaw_128, ↓fX10_readsLaw_129, ↓fX10_readsLaw_131, ↓fX10_readsLaw_134, ↓fX10_readsLaw_135, ↓fX10_readsLaw_136, ↓fX10_readsLaw_137, ↓fX10_readsLaw_140, ↓fX10_readsLaw_141, ↓fX10_readsLaw_144, ↓fX10_readsLaw_147, ↓fX10_readsLaw_148, ↓fX10_readsLaw_151, ↓fX10_readsLaw_152, ↓fX10_readsLaw_154, ↓fX10_readsLaw_155, ↓fX10_readsLaw_156, ↓fX10_readsLaw_159, ↓fX10_readsLaw_160, ↓fX10_readsLaw_163, ↓fX10_readsLaw_164, ↓fX10_readsLaw_167, ↓fX10_readsLaw_168, ↓fX10_readsLaw_169, ↓fX10_readsLaw_172, ↓fX10_readsLaw_173, ↓fX10_readsLaw_176, ↓fX10_readsLaw_177, ↓fX10_readsLaw_180, ↓fX10_readsLaw_181, ↓fX10_readsLaw_182, ↓fX10_readsLaw_185, ↓fX10_readsLaw_186, ↓fX10_readsLaw_187, ↓fX10_readsLaw_190, ↓fX10_readsLaw_191, ↓fX10_readsLaw_194, ↓fX10_readsLaw_197, ↓fX10_readsLaw_200, ↓fX10_readsLaw_201, ↓fX10_readsLaw_204, ↓fX10_readsLaw_205, ↓fX10_readsLaw_206, ↓fX10_readsLaw_209, ↓fX10_readsLaw_210, ↓fX10_readsLaw_212, ↓fX10_readsLaw_213, ↓fX10_readsLaw_214, ↓fX10_readsLaw_216, ↓fX10_readsLaw_219, ↓fX10_readsLaw_220, ↓fX10_readsLaw_223, ↓fX10_readsLaw_224, ↓fX10_readsLaw_225, ↓fX10_readsLaw_228, ↓fX10_readsLaw_229, ↓fX10_readsLaw_232, ↓fX10_readsLaw_235, ↓fX10_readsLaw_236, ↓fX10_readsLaw_237, ↓fX10_readsLaw_240, ↓fX10_readsLaw_241, ↓fX10_readsLaw_243, ↓fX10_readsLaw_244, ↓fX10_readsLaw_245, ↓fX10_readsLaw_248, ↓fX10_readsLaw_249, ↓fX10_readsLaw_251, ↓fX10_readsLaw_252, ↓fX10_readsLaw_253, ↓fX10_readsLaw_254, ↓fX10_readsLaw_255, ↓fX10_readsLaw_258, ↓fX10_readsLaw_259, ↓fX10_readsLaw_260, ↓fX10_readsLaw_263, ↓fX10_readsLaw_264, ↓fX10_readsLaw_266, ↓fX10_readsLaw_267, ↓fX10_readsLaw_268, ↓fX10_readsLaw_269, ↓fX10_readsLaw_270, ↓fX10_readsLaw_271, ↓fX10_readsLaw_272, ↓fX10_readsLaw_273, ↓fX10_readsLaw_276, ↓fX10_readsLaw_279, ↓e1, i8, eG, ↓e2, ↓e3, ↓g3, z45, and_self, true_and, and_true, false_and, and_false, not_true_eq_false, not_false_eq_true, or_self, true_or, or_true, false_or, or_false, ite_not, Decidable.not_not, decide_eq_true_eq, Bool.not_true, Bool.not_false, Bool.false_eq_true, Bool.not_eq_true, n10, n20, n21, n30, n31, n32, n40, n41, n42, n43, ↓reduceIte]
  · rw [hg] at g3
    refine ⟨u2 G4 (m + 2) (b0 + 9) (nbV B n (nxS B n (mustS (nbS B n (.ok T) 2 99) (wdI B (nbS B n (.ok T) 2 99) 9) 2)) 1 60), L4, (fr3.trans (prV_W f4)).trans prV_2, rdS_2 s4, fun g mm T' h => ?_, fun Q => ?_⟩
    · obtain ⟨v1, v2, -⟩ := p2 g mm T' h
      rw [v2]
      rw [v1] at d3
      funext q
      show (if m + 2 = m + 2 ∧ q = b0 + 9 then mm else G4 (m + 2) q) = _
      rw [f4.1 _ (by omega), d3]
      simp only [true_and]
      unfold lwF
      by_cases c1 : q = b0 + 9
      · rw [if_pos c1, if_neg (by omega), if_neg (by omega), if_pos (by omega)]
        dsimp only
        rw [if_neg (by omega), if_pos (by omega)]
      · rw [if_neg c1]
        by_cases c2 : q = b0 + 8
        · rw [if_pos c2, if_neg (by omega), if_neg (by omega), if_pos (by omega)]
          dsimp only
          rw [if_pos (by omega)]
        · rw [if_neg c2]
          by_cases c3 : q = b0
          · rw [if_pos c3, if_pos c3]
          · rw [if_neg c3, if_neg c3]
            by_cases c4 : q = b0 + 7
            · rw [if_pos c4, if_pos c4]
            · rw [if_neg c4, if_neg c4]
              by_cases c5 : b0 + 8 ≤ q ∧ q < b0 + 20
              · rw [if_pos c5, if_pos c5]
                dsimp only
                rw [if_neg (by omega), if_neg (by omega)]
              · rw [if_neg c5, if_neg c5]
    · simp (disch := first | assumption | exact c2_int _ | exact c2_ref _ | exact c2_jk | exact c2_null | omega | exact bI_r _ | exact bI_01 _) only [↓fX10_readsLaw_0, ↓fX10_readsLaw_1, ↓fX10_readsLaw_2, ↓fX10_readsLaw_3, ↓fX10_readsLaw_4, ↓fX10_readsLaw_5, ↓fX10_readsLaw_6, ↓fX10_readsLaw_9, ↓fX10_readsLaw_10, ↓fX10_readsLaw_11, ↓fX10_readsLaw_12, ↓fX10_readsLaw_13, ↓fX10_readsLaw_16, ↓fX10_readsLaw_19, ↓fX10_readsLaw_20, ↓fX10_readsLaw_21, ↓fX10_readsLaw_24, ↓fX10_readsLaw_27, ↓fX10_readsLaw_28, ↓fX10_readsLaw_30, ↓fX10_readsLaw_33, ↓fX10_readsLaw_36, ↓fX10_readsLaw_37, ↓fX10_readsLaw_38, ↓fX10_readsLaw_39, ↓fX10_readsLaw_41, ↓fX10_readsLaw_44, ↓fX10_readsLaw_47, ↓fX10_readsLaw_48, ↓fX10_readsLaw_49, ↓fX10_readsLaw_50, ↓fX10_readsLaw_51, ↓fX10_readsLaw_54, ↓fX10_readsLaw_55, ↓fX10_readsLaw_58, ↓fX10_readsLaw_59, ↓fX10_readsLaw_62, ↓fX10_readsLaw_63, ↓fX10_readsLaw_66, ↓fX10_readsLaw_69, ↓fX10_readsLaw_70, ↓fX10_readsLaw_71, ↓fX10_readsLaw_74, ↓fX10_readsLaw_75, ↓fX10_readsLaw_76, ↓fX10_readsLaw_77, ↓fX10_readsLaw_78, ↓fX10_readsLaw_79, ↓fX10_readsLaw_80, ↓fX10_readsLaw_81, ↓fX10_readsLaw_84, ↓fX10_readsLaw_85, ↓fX10_readsLaw_88, ↓fX10_readsLaw_89, ↓fX10_readsLaw_91, ↓fX10_readsLaw_92, ↓fX10_readsLaw_93, ↓fX10_readsLaw_94, ↓fX10_readsLaw_96, ↓fX10_readsLaw_99, ↓fX10_readsLaw_100, ↓fX10_readsLaw_101, ↓fX10_readsLaw_102, ↓fX10_readsLaw_104, ↓fX10_readsLaw_107, ↓fX10_readsLaw_110, ↓fX10_readsLaw_111, ↓fX10_readsLaw_114, ↓fX10_readsLaw_117, ↓fX10_readsLaw_118, ↓fX10_readsLaw_121, ↓fX10_readsLaw_122, ↓fX10_readsLaw_124, ↓fX10_readsLaw_125, ↓fX10_readsLaw_126, ↓fX10_readsLaw_127, ↓fX10_readsLaw_128, ↓fX10_readsLaw_129, ↓fX10_readsLaw_131, ↓fX10_readsLaw_134, ↓fX10_readsLaw_135, ↓fX10_readsLaw_136, ↓fX10_readsLaw_137, ↓fX10_readsLaw_140, ↓fX10_readsLaw_141, ↓fX10_readsLaw_144, ↓fX10_readsLaw_147, ↓fX10_readsLaw_148, ↓fX10_readsLaw_151, ↓fX10_readsLaw_152, ↓fX10_readsLaw_154, ↓fX10_readsLaw_155, ↓fX10_readsLaw_156, ↓fX10_readsLaw_159, ↓fX10_readsLaw_160, ↓fX10_readsLaw_163, ↓fX10_readsLaw_164, ↓fX10_readsLaw_167, ↓fX10_readsLaw_168, ↓fX10_readsLaw_169, ↓fX10_readsLaw_172, ↓fX10_readsLaw_173, ↓fX10_readsLaw_176, ↓fX10_readsLaw_177, ↓fX10_readsLaw_180, ↓fX10_readsLaw_181, ↓fX10_readsLaw_182, ↓fX10_readsLaw_185, ↓fX10_readsLaw_186, ↓fX10_readsLaw_187, ↓fX10_readsLaw_190, ↓fX10_readsLaw_191, ↓fX10_readsLaw_194, ↓fX10_readsLaw_197, ↓fX10_readsLaw_200, ↓fX10_readsLaw_201, ↓fX10_readsLaw_204, ↓fX10_readsLaw_205, ↓fX10_readsLaw_206, ↓fX10_readsLaw_209, ↓fX10_readsLaw_210, ↓fX10_readsLaw_212, ↓fX10_readsLaw_213, ↓fX10_readsLaw_214, ↓fX10_readsLaw_216, ↓fX10_readsLaw_219, ↓fX10_readsLaw_220, ↓fX10_readsLaw_223, ↓fX10_readsLaw_224, ↓fX10_readsLaw_225, ↓fX10_readsLaw_228, ↓fX10_readsLaw_229, ↓fX10_readsLaw_232, ↓fX10_readsLaw_235, ↓fX10_readsLaw_236, ↓fX10_readsLaw_237, ↓fX10_readsLaw_240, ↓fX10_readsLaw_241, ↓fX10_readsLaw_243, ↓fX10_readsLaw_244, ↓fX10_readsLaw_245, ↓fX10_readsLaw_248, ↓fX10_readsLaw_249, ↓fX10_readsLaw_251, ↓fX10_readsLaw_252, ↓fX10_readsLaw_253, ↓fX10_readsLaw_254, ↓fX10_readsLaw_255, ↓fX10_readsLaw_258, ↓fX10_readsLaw_259, ↓fX10_readsLaw_260, ↓fX10_readsLaw_263, ↓fX10_readsLaw_264, ↓fX10_readsLaw_266, ↓fX10_readsLaw_267, ↓fX10_readsLaw_268, ↓fX10_readsLaw_269, ↓fX10_readsLaw_270, ↓fX10_readsLaw_271, ↓fX10_readsLaw_272, ↓fX10_readsLaw_273, ↓fX10_readsLaw_276, ↓fX10_readsLaw_279, ↓e1, i8, eG, ↓e2, ↓e3, ↓g3, ↓e4, i9, z45, and_self, true_and, and_true, false_and, and_false, not_true_eq_false, not_false_eq_true, or_self, true_or, or_true, false_or, or_false, ite_not, Decidable.not_not, decide_eq_true_eq, Bool.not_true, Bool.not_false, Bool.false_eq_true, Bool.not_eq_true, n10, n20, n21, n30, n31, n32, n40, n41, n42, n43, ↓reduceIte]
def lawR (B : Int → Int) (n : Int) (T : TkT) : StT := if lawT B T = -1 then .error (unK T, T) else lawS B n (lawT B T) (nxT B n T.2.2.1)
theorem m_readsLaw (hm : shM E r m) (hK : kWd L m) (hb0 : b0 ≤ 5472) (hS : rdS G L m B n (.ok T)) (hC : G (m + 2) = C) (hz : ∀ q, q = b0 + 7 ∨ (b0 + 8 ≤ q ∧ q < b0 + 20) → C q = 0) :
    ∃ G' L', prV G L G' L' m ∧ rdS G' L' m B n (lawR B n T) ∧ (∀ cn g T', lawT B T ≠ -1 → rdLaw B n (lawT B T) (nxT B n T.2.2.1) = .ok (cn, g, T') → G' (m + 2) = lwF b0 (lawT B T) cn g C) ∧ ∀ Q, RK MX10_readsLaw 0 [.ref m, .int (zi (b0 : Int)), jk, jk] [] (0, 0) (E, zg G, zk L, r) Q = Q (E, zg G', zk L', r) .null := by
  have m0 := hm.1
  obtain ⟨ka2, la2, ra2⟩ := hm.2.2.1
  have hlb := lawT_b (B := B) (T := T)
  have h2 : lawT B T ≠ -1 → T.1 = 2 := by
    intro h
    have hh : isT B T (wdL 135) = true ∨ isT B T (wdL 137) = true ∨ isT B T (wdL 139) = true ∨ isT B T (wdL 141) = true ∨ isT B T (wdL 143) = true ∨ isT B T (wdL 145) = true := by
      unfold lawT at h
      repeat' split at h
      all_goals simp_all
    have u : ∀ w, isT B T w = true → T.1 = 2 := fun w hw => by
      unfold isT at hw
      rw [decide_eq_true_eq] at hw
      exact hw.1
    rcases hh with z | z | z | z | z | z
    all_goals exact u _ z
  by_cases c : lawT B T = -1
  · obtain ⟨G1, L1, f1, s1, e1⟩ := m_takes (b := 0) hm hS (Or.inl rfl) (fun z => absurd z (by decide))
    have es : nxS B n (mustS (.ok T) 0 2) = .error (unK T, T) := rfl
    rw [es] at s1
    have g1 : ∀ Q, RK MX10_good 0 [.ref m] [] (0, 0) (E, zg G1, zk L1, r) Q = Q (E, zg G1, zk L1, r) (.int (zi 0)) := fun Q => m_good hm s1
    have er : lawR B n T = .error (unK T, T) := if_pos c
    have zn : (-1 : Int) < 0 := by decide
    refine ⟨G1, L1, prV_W f1, by rw [er]; exact s1, fun cn g T' h => absurd c h, fun Q => ?_⟩
    rw [rl_word hm hK hS, c]
    simp (disch := first | assumption | exact c2_int _ | exact c2_ref _ | exact c2_jk | exact c2_null | omega | exact bI_r _ | exact bI_01 _) only [↓fX10_readsLaw_0, ↓fX10_readsLaw_1, ↓fX10_readsLaw_2, ↓fX10_readsLaw_3, ↓fX10_readsLaw_4, ↓fX10_readsLaw_5, ↓fX10_readsLaw_6, ↓fX10_readsLaw_9, ↓fX10_readsLaw_10, ↓fX10_readsLaw_11, ↓fX10_readsLaw_12, ↓fX10_readsLaw_13, ↓fX10_readsLaw_16, ↓fX10_readsLaw_19, ↓fX10_readsLaw_20, ↓fX10_readsLaw_21, ↓fX10_readsLaw_24, ↓fX10_readsLaw_27, ↓fX10_readsLaw_28, ↓fX10_readsLaw_30, ↓fX10_readsLaw_33, ↓fX10_readsLaw_36, ↓fX10_readsLaw_37, ↓fX10_readsLaw_38, ↓fX10_readsLaw_39, ↓fX10_readsLaw_41, ↓fX10_readsLaw_44, ↓fX10_readsLaw_47, ↓fX10_readsLaw_48, ↓fX10_readsLaw_49, ↓fX10_readsLaw_50, ↓fX10_readsLaw_51, ↓fX10_readsLaw_54, ↓fX10_readsLaw_55, ↓fX10_readsLaw_58, ↓fX10_readsLaw_59, ↓fX10_readsLaw_62, ↓fX10_readsLaw_63, ↓fX10_readsLaw_66, ↓fX10_readsLaw_69, ↓fX10_readsLaw_70, ↓fX10_readsLaw_71, ↓fX10_readsLaw_74, ↓fX10_readsLaw_75, ↓fX10_readsLaw_76, ↓fX10_readsLaw_77, ↓fX10_readsLaw_78, ↓fX10_readsLaw_79, ↓fX10_readsLaw_80, ↓fX10_readsLaw_81, ↓fX10_readsLaw_84, ↓fX10_readsLaw_85, ↓fX10_readsLaw_88, ↓fX10_readsLaw_89, ↓fX10_readsLaw_91, ↓fX10_readsLaw_92, ↓fX10_readsLaw_93, ↓fX10_readsLaw_94, ↓fX10_readsLaw_96, ↓fX10_readsLaw_99, ↓fX10_readsLaw_100, ↓fX10_readsLaw_101, ↓fX10_readsLaw_102, ↓fX10_readsLaw_104, ↓fX10_readsLaw_107, ↓fX10_readsLaw_110, ↓fX10_readsLaw_111, ↓fX10_readsLaw_114, ↓fX10_readsLaw_117, ↓fX10_readsLaw_118, ↓fX10_readsLaw_121, ↓fX10_readsLaw_122, ↓fX10_readsLaw_124, ↓fX10_readsLaw_125, ↓fX10_readsLaw_126, ↓fX10_readsLaw_127, ↓fX10_readsLaw_128, ↓fX10_readsLaw_129, ↓fX10_readsLaw_131, ↓fX10_readsLaw_134, ↓fX10_readsLaw_135, ↓fX10_readsLaw_136, ↓fX10_readsLaw_137, ↓fX10_readsLaw_140, ↓fX10_readsLaw_141, ↓fX10_readsLaw_144, ↓fX10_readsLaw_147, ↓fX10_readsLaw_148, ↓fX10_readsLaw_151, ↓fX10_readsLaw_152, ↓fX10_readsLaw_154, ↓fX10_readsLaw_155, ↓fX10_readsLaw_156, ↓fX10_readsLaw_159, ↓fX10_readsLaw_160, ↓fX10_readsLaw_163, ↓fX10_readsLaw_164, ↓fX10_readsLaw_167, ↓fX10_readsLaw_168, ↓fX10_readsLaw_169, ↓fX10_readsLaw_172, ↓fX10_readsLaw_173, ↓fX10_readsLaw_176, ↓fX10_readsLaw_177, ↓fX10_readsLaw_180, ↓fX10_readsLaw_181, ↓fX10_readsLaw_182, ↓fX10_readsLaw_185, ↓fX10_readsLaw_186, ↓fX10_readsLaw_187, ↓fX10_readsLaw_190, ↓fX10_readsLaw_191, ↓fX10_readsLaw_194, ↓fX10_readsLaw_197, ↓fX10_readsLaw_200, ↓fX10_readsLaw_201, ↓fX10_readsLaw_204, ↓fX10_readsLaw_205, ↓fX10_readsLaw_206, ↓fX10_readsLaw_209, ↓fX10_readsLaw_210, ↓fX10_readsLaw_212, ↓fX10_readsLaw_213, ↓fX10_readsLaw_214, ↓fX10_readsLaw_216, ↓fX10_readsLaw_219, ↓fX10_readsLaw_220, ↓fX10_readsLaw_223, ↓fX10_readsLaw_224, ↓fX10_readsLaw_225, ↓fX10_readsLaw_228, ↓fX10_readsLaw_229, ↓fX10_readsLaw_232, ↓fX10_readsLaw_235, ↓fX10_readsLaw_236, ↓fX10_readsLaw_237, ↓fX10_readsLaw_240, ↓fX10_readsLaw_241, ↓fX10_readsLaw_243, ↓fX10_readsLaw_244, ↓fX10_readsLaw_245, ↓fX10_readsLaw_248, ↓fX10_readsLaw_249, ↓fX10_readsLaw_251, ↓fX10_readsLaw_252, ↓fX10_readsLaw_253, ↓fX10_readsLaw_254, ↓fX10_readsLaw_255, ↓fX10_readsLaw_258, ↓fX10_readsLaw_259, ↓fX10_readsLaw_260, ↓fX10_readsLaw_263, ↓fX10_readsLaw_264, ↓fX10_readsLaw_266, ↓fX10_readsLaw_267, ↓fX10_readsLaw_268, ↓fX10_readsLaw_269, ↓fX10_readsLaw_270, ↓fX10_readsLaw_271, ↓fX10_readsLaw_272, ↓fX10_readsLaw_273, ↓fX10_readsLaw_276, ↓fX10_readsLaw_279, zn, ↓e1, ↓g1, and_self, true_and, and_true, false_and, and_false, not_true_eq_false, not_false_eq_true, or_self, true_or, or_true, false_or, or_false, ite_not, Decidable.not_not, decide_eq_true_eq, Bool.not_true, Bool.not_false, Bool.false_eq_true, Bool.not_eq_true, n10, n20, n21, n30, n31, n32, n40, n41, n42, n43, ↓reduceIte]
  · obtain ⟨G1, L1, f1, s1, e1⟩ := m_takes (b := 1) hm hS (Or.inr rfl) (fun _ T' h => by cases h; exact Or.inl (h2 c))
    have es : nxS B n (mustS (.ok T) 1 2) = .ok (nxT B n T.2.2.1) := rfl
    rw [es] at s1
    have g1 : ∀ Q, RK MX10_good 0 [.ref m] [] (0, 0) (E, zg G1, zk L1, r) Q = Q (E, zg G1, zk L1, r) (.int (zi 1)) := fun Q => m_good hm s1
    have hK1 : kWd L1 m := kWd_c hK f1
    have er : lawR B n T = lawS B n (lawT B T) (nxT B n T.2.2.1) := if_neg c
    rw [er]
    generalize hT9 : nxT B n T.2.2.1 = T9 at s1 er ⊢
    generalize hki : lawT B T = kk at hlb c er ⊢
    have zn : ¬ kk < 0 := by omega
    let G2 : Nat → Nat → Int := u2 G1 (m + 2) b0 kk
    have s2 : rdS G2 L1 m B n (.ok T9) := rdS_2 s1
    have hC2 : G2 (m + 2) = lwF b0 kk 0 (fun _ => 0) C := by
      funext q
      show (if m + 2 = m + 2 ∧ q = b0 then kk else G1 (m + 2) q) = _
      rw [f1.1 _ (by omega), hC]
      simp only [true_and]
      unfold lwF
      by_cases c1 : q = b0
      · rw [if_pos c1, if_pos c1]
      · rw [if_neg c1, if_neg c1]
        by_cases c2 : q = b0 + 7
        · rw [if_pos c2]
          exact hz q (Or.inl c2)
        · rw [if_neg c2]
          by_cases c3 : b0 + 8 ≤ q ∧ q < b0 + 20
          · rw [if_pos c3]
            exact hz q (Or.inr c3)
          · rw [if_neg c3]
    have i0 : ((b0 : Int) + 0).toNat = b0 := by omega
    have i0' : ((b0 : Int)).toNat = b0 := by omega
    have eG : u2 G1 (m + 2) b0 kk = G2 := rfl
    have fr2 : prV G L G2 L1 m := (prV_W f1).trans prV_2
    have start : ∀ Q, RK MX10_readsLaw 0 [.ref m, .int (zi (b0 : Int)), jk, jk] [] (0, 0) (E, zg G, zk L, r) Q = RK MX10_readsLaw 79 [.ref m, .int (zi (b0 : Int)), .int (zi kk), .int (zi 4)] [] (0, 0) (E, zg G2, zk L1, r) Q := fun Q => by
      rw [rl_word hm hK hS, hki]
      simp (disch := first | assumption | exact c2_int _ | exact c2_ref _ | exact c2_jk | exact c2_null | omega | exact bI_r _ | exact bI_01 _) only [↓fX10_readsLaw_0, ↓fX10_readsLaw_1, ↓fX10_readsLaw_2, ↓fX10_readsLaw_3, ↓fX10_readsLaw_4, ↓fX10_readsLaw_5, ↓fX10_readsLaw_6, ↓fX10_readsLaw_9, ↓fX10_readsLaw_10, ↓fX10_readsLaw_11, ↓fX10_readsLaw_12, ↓fX10_readsLaw_13, ↓fX10_readsLaw_16, ↓fX10_readsLaw_19, ↓fX10_readsLaw_20, ↓fX10_readsLaw_21, ↓fX10_readsLaw_24, ↓fX10_readsLaw_27, ↓fX10_readsLaw_28, ↓fX10_readsLaw_30, ↓fX10_readsLaw_33, ↓fX10_readsLaw_36, ↓fX10_readsLaw_37, ↓fX10_readsLaw_38, ↓fX10_readsLaw_39, ↓fX10_readsLaw_41, ↓fX10_readsLaw_44, ↓fX10_readsLaw_47, ↓fX10_readsLaw_48, ↓fX10_readsLaw_49, ↓fX10_readsLaw_50, ↓fX10_readsLaw_51, ↓fX10_readsLaw_54, ↓fX10_readsLaw_55, ↓fX10_readsLaw_58, ↓fX10_readsLaw_59, ↓fX10_readsLaw_62, ↓fX10_readsLaw_63, ↓fX10_readsLaw_66, ↓fX10_readsLaw_69, ↓fX10_readsLaw_70, ↓fX10_readsLaw_71, ↓fX10_readsLaw_74, ↓fX10_readsLaw_75, ↓fX10_readsLaw_76, ↓fX10_readsLaw_77, ↓fX10_readsLaw_78, ↓fX10_readsLaw_80, ↓fX10_readsLaw_81, ↓fX10_readsLaw_84, ↓fX10_readsLaw_85, ↓fX10_readsLaw_88, ↓fX10_readsLaw_89, ↓fX10_readsLaw_91, ↓fX10_readsLaw_92, ↓fX10_readsLaw_93, ↓fX10_readsLaw_94, ↓fX10_readsLaw_96, ↓fX10_readsLaw_99, ↓fX10_readsLaw_100, ↓fX10_readsLaw_101, ↓fX10_readsLaw_102, ↓fX10_readsLaw_104, ↓fX10_readsLaw_107, ↓fX10_readsLaw_110, ↓fX10_readsLaw_111, ↓fX10_readsLaw_114, ↓fX10_readsLaw_117, ↓fX10_readsLaw_118, ↓fX10_readsLaw_121, ↓fX10_readsLaw_122, ↓fX10_readsLaw_124, ↓fX10_readsLaw_125, ↓fX10_readsLaw_126, ↓fX10_readsLaw_127, ↓fX10_readsLaw_128, ↓fX10_readsLaw_129, ↓fX10_readsLaw_131, ↓fX10_readsLaw_134, ↓fX10_readsLaw_135, ↓fX10_readsLaw_136, ↓fX10_readsLaw_137, ↓fX10_readsLaw_140, ↓fX10_readsLaw_141, ↓fX10_readsLaw_144, ↓fX10_readsLaw_147, ↓fX10_readsLaw_148, ↓fX10_readsLaw_151, ↓fX10_readsLaw_152, ↓fX10_readsLaw_154, ↓fX10_readsLaw_155, ↓fX10_readsLaw_156, ↓fX10_readsLaw_159, ↓fX10_readsLaw_160, ↓fX10_readsLaw_163, ↓fX10_readsLaw_164, ↓fX10_readsLaw_167, ↓fX10_readsLaw_168, ↓fX10_readsLaw_169, ↓fX10_readsLaw_172, ↓fX10_readsLaw_173, ↓fX10_readsLaw_176, ↓fX10_readsLaw_177, ↓fX10_readsLaw_180, ↓fX10_readsLaw_181, ↓fX10_readsLaw_182, ↓fX10_readsLaw_185, ↓fX10_readsLaw_186, ↓fX10_readsLaw_187, ↓fX10_readsLaw_190, ↓fX10_readsLaw_191, ↓fX10_readsLaw_194, ↓fX10_readsLaw_197, ↓fX10_readsLaw_200, ↓fX10_readsLaw_201, ↓fX10_readsLaw_204, ↓fX10_readsLaw_205, ↓fX10_readsLaw_206, ↓fX10_readsLaw_209, ↓fX10_readsLaw_210, ↓fX10_readsLaw_212, ↓fX10_readsLaw_213, ↓fX10_readsLaw_214, ↓fX10_readsLaw_216, ↓fX10_readsLaw_219, ↓fX10_readsLaw_220, ↓fX10_readsLaw_223, ↓fX10_readsLaw_224, ↓fX10_readsLaw_225, ↓fX10_readsLaw_228, ↓fX10_readsLaw_229, ↓fX10_readsLaw_232, ↓fX10_readsLaw_235, ↓fX10_readsLaw_236, ↓fX10_readsLaw_237, ↓fX10_readsLaw_240, ↓fX10_readsLaw_241, ↓fX10_readsLaw_243, ↓fX10_readsLaw_244, ↓fX10_readsLaw_245, ↓fX10_readsLaw_248, ↓fX10_readsLaw_249, ↓fX10_readsLaw_251, ↓fX10_readsLaw_252, ↓fX10_readsLaw_253, ↓fX10_readsLaw_254, ↓fX10_readsLaw_255, ↓fX10_readsLaw_258, ↓fX10_readsLaw_259, ↓fX10_readsLaw_260, ↓fX10_readsLaw_263, ↓fX10_readsLaw_264, ↓fX10_readsLaw_266, ↓fX10_readsLaw_267, ↓fX10_readsLaw_268, ↓fX10_readsLaw_269, ↓fX10_readsLaw_270, ↓fX10_readsLaw_271, ↓fX10_readsLaw_272, ↓fX10_readsLaw_273, ↓fX10_readsLaw_276, ↓fX10_readsLaw_279, zn, ↓e1, ↓g1, i0, i0', Int.add_zero, eG, and_self, true_and, and_true, false_and, and_false, not_true_eq_false, not_false_eq_true, or_self, true_or, or_true, false_or, or_false, ite_not, Decidable.not_not, decide_eq_true_eq, Bool.not_true, Bool.not_false, Bool.false_eq_true, Bool.not_eq_true, n10, n20, n21, n30, n31, n32, n40, n41, n42, n43, ↓reduceIte]
    by_cases c4 : kk = 4
    · subst c4
      obtain ⟨G3, L3, f3, s3, v3, e3⟩ := rl_fixed hm hK1 hb0 s2 hC2
      have el : lawS B n 4 T9 = fxS B n T9 := by
        unfold lawS rdLaw fxS
        rw [if_pos rfl]
        cases rdFix B n T9 with
        | error e => rfl
        | ok p => rfl
      refine ⟨G3, L3, fr2.trans f3, by rw [el]; exact s3, fun cn g T' _ h => ?_, fun Q => by rw [start Q, e3 Q]⟩
      unfold rdLaw at h
      rw [if_pos rfl] at h
      cases q : rdFix B n T9 with
      | error e => rw [q] at h; cases h
      | ok p =>
        obtain ⟨gg, mm, T3⟩ := p
        rw [q] at h
        cases h
        exact v3 _ _ _ q
    · by_cases c5 : kk = 5
      · subst c5
        obtain ⟨G3, L3, f3, s3, v3, e3⟩ := rl_told (C := C) hm hb0 13 0 (fun _ => 0) T9 G2 L1 rfl (by decide) s2 hC2
        have el : lawS B n 5 T9 = tlS2 B n 13 0 (fun _ => 0) T9 := by
          unfold lawS rdLaw tlS2
          rw [if_neg (by decide), if_pos rfl]
          cases rdTL B n 13 0 (fun _ => 0) T9 with
          | error e => rfl
          | ok p => rfl
        have z54 : ¬ (5 : Int) = 4 := by decide
        refine ⟨G3, L3, fr2.trans f3, by rw [el]; exact s3, fun cn g T' _ h => ?_, fun Q => ?_⟩
        · unfold rdLaw at h
          rw [if_neg (by decide), if_pos rfl] at h
          cases q : rdTL B n 13 0 (fun _ => 0) T9 with
          | error e => rw [q] at h; cases h
          | ok p =>
            obtain ⟨gg, mm, T3⟩ := p
            rw [q] at h
            cases h
            exact v3 _ _ _ q
        · rw [start Q, ← e3 Q]
          simp (disch := first | assumption | exact c2_int _ | exact c2_ref _ | exact c2_jk | exact c2_null | omega | exact bI_r _ | exact bI_01 _) only [↓fX10_readsLaw_0, ↓fX10_readsLaw_1, ↓fX10_readsLaw_2, ↓fX10_readsLaw_3, ↓fX10_readsLaw_4, ↓fX10_readsLaw_5, ↓fX10_readsLaw_6, ↓fX10_readsLaw_9, ↓fX10_readsLaw_10, ↓fX10_readsLaw_11, ↓fX10_readsLaw_12, ↓fX10_readsLaw_13, ↓fX10_readsLaw_16, ↓fX10_readsLaw_19, ↓fX10_readsLaw_20, ↓fX10_readsLaw_21, ↓fX10_readsLaw_24, ↓fX10_readsLaw_27, ↓fX10_readsLaw_28, ↓fX10_readsLaw_30, ↓fX10_readsLaw_33, ↓fX10_readsLaw_36, ↓fX10_readsLaw_37, ↓fX10_readsLaw_38, ↓fX10_readsLaw_39, ↓fX10_readsLaw_41, ↓fX10_readsLaw_44, ↓fX10_readsLaw_47, ↓fX10_readsLaw_48, ↓fX10_readsLaw_49, ↓fX10_readsLaw_50, ↓fX10_readsLaw_51, ↓fX10_readsLaw_54, ↓fX10_readsLaw_55, ↓fX10_readsLaw_58, ↓fX10_readsLaw_59, ↓fX10_readsLaw_62, ↓fX10_readsLaw_63, ↓fX10_readsLaw_66, ↓fX10_readsLaw_69, ↓fX10_readsLaw_70, ↓fX10_readsLaw_71, ↓fX10_readsLaw_74, ↓fX10_readsLaw_75, ↓fX10_readsLaw_76, ↓fX10_readsLaw_77, ↓fX10_readsLaw_78, ↓fX10_readsLaw_79, ↓fX10_readsLaw_80, ↓fX10_readsLaw_81, ↓fX10_readsLaw_84, ↓fX10_readsLaw_85, ↓fX10_readsLaw_88, ↓fX10_readsLaw_89, ↓fX10_readsLaw_91, ↓fX10_readsLaw_92, ↓fX10_readsLaw_93, ↓fX10_readsLaw_94, ↓fX10_readsLaw_96, ↓fX10_readsLaw_99, ↓fX10_readsLaw_100, ↓fX10_readsLaw_101, ↓fX10_readsLaw_102, ↓fX10_readsLaw_104, ↓fX10_readsLaw_107, ↓fX10_readsLaw_110, ↓fX10_readsLaw_111, ↓fX10_readsLaw_114, ↓fX10_readsLaw_117, ↓fX10_readsLaw_118, ↓fX10_readsLaw_121, ↓fX10_readsLaw_122, ↓fX10_readsLaw_124, ↓fX10_readsLaw_125, ↓fX10_readsLaw_126, ↓fX10_readsLaw_127, ↓fX10_readsLaw_128, ↓fX10_readsLaw_129, ↓fX10_readsLaw_131, ↓fX10_readsLaw_134, ↓fX10_readsLaw_135, ↓fX10_readsLaw_136, ↓fX10_readsLaw_137, ↓fX10_readsLaw_141, ↓fX10_readsLaw_144, ↓fX10_readsLaw_147, ↓fX10_readsLaw_148, ↓fX10_readsLaw_151, ↓fX10_readsLaw_152, ↓fX10_readsLaw_154, ↓fX10_readsLaw_155, ↓fX10_readsLaw_156, ↓fX10_readsLaw_159, ↓fX10_readsLaw_160, ↓fX10_readsLaw_163, ↓fX10_readsLaw_164, ↓fX10_readsLaw_167, ↓fX10_readsLaw_168, ↓fX10_readsLaw_169, ↓fX10_readsLaw_172, ↓fX10_readsLaw_173, ↓fX10_readsLaw_176, ↓fX10_readsLaw_177, ↓fX10_readsLaw_180, ↓fX10_readsLaw_181, ↓fX10_readsLaw_182, ↓fX10_readsLaw_185, ↓fX10_readsLaw_186, ↓fX10_readsLaw_187, ↓fX10_readsLaw_190, ↓fX10_readsLaw_191, ↓fX10_readsLaw_194, ↓fX10_readsLaw_197, ↓fX10_readsLaw_200, ↓fX10_readsLaw_201, ↓fX10_readsLaw_204, ↓fX10_readsLaw_205, ↓fX10_readsLaw_206, ↓fX10_readsLaw_209, ↓fX10_readsLaw_210, ↓fX10_readsLaw_212, ↓fX10_readsLaw_213, ↓fX10_readsLaw_214, ↓fX10_readsLaw_216, ↓fX10_readsLaw_219, ↓fX10_readsLaw_220, ↓fX10_readsLaw_223, ↓fX10_readsLaw_224, ↓fX10_readsLaw_225, ↓fX10_readsLaw_228, ↓fX10_readsLaw_229, ↓fX10_readsLaw_232, ↓fX10_readsLaw_235, ↓fX10_readsLaw_236, ↓fX10_readsLaw_237, ↓fX10_readsLaw_240, ↓fX10_readsLaw_241, ↓fX10_readsLaw_243, ↓fX10_readsLaw_244, ↓fX10_readsLaw_245, ↓fX10_readsLaw_248, ↓fX10_readsLaw_249, ↓fX10_readsLaw_251, ↓fX10_readsLaw_252, ↓fX10_readsLaw_253, ↓fX10_readsLaw_254, ↓fX10_readsLaw_255, ↓fX10_readsLaw_258, ↓fX10_readsLaw_259, ↓fX10_readsLaw_260, ↓fX10_readsLaw_263, ↓fX10_readsLaw_264, ↓fX10_readsLaw_266, ↓fX10_readsLaw_267, ↓fX10_readsLaw_268, ↓fX10_readsLaw_269, ↓fX10_readsLaw_270, ↓fX10_readsLaw_271, ↓fX10_readsLaw_272, ↓fX10_readsLaw_273, ↓fX10_readsLaw_276, ↓fX10_readsLaw_279, z54, and_self, true_and, and_true, false_and, and_false, not_true_eq_false, not_false_eq_true, or_self, true_or, or_true, false_or, or_false, ite_not, Decidable.not_not, decide_eq_true_eq, Bool.not_true, Bool.not_false, Bool.false_eq_true, Bool.not_eq_true, n10, n20, n21, n30, n31, n32, n40, n41, n42, n43, ↓reduceIte]
      · have el : lawS B n kk T9 = .ok T9 := by
          unfold lawS rdLaw
          rw [if_neg c4, if_neg c5]
        refine ⟨G2, L1, fr2, by rw [el]; exact s2, fun cn g T' _ h => ?_, fun Q => ?_⟩
        · unfold rdLaw at h
          rw [if_neg c4, if_neg c5] at h
          cases h
          exact hC2
        · rw [start Q]
          simp (disch := first | assumption | exact c2_int _ | exact c2_ref _ | exact c2_jk | exact c2_null | omega | exact bI_r _ | exact bI_01 _) only [↓fX10_readsLaw_0, ↓fX10_readsLaw_1, ↓fX10_readsLaw_2, ↓fX10_readsLaw_3, ↓fX10_readsLaw_4, ↓fX10_readsLaw_5, ↓fX10_readsLaw_6, ↓fX10_readsLaw_9, ↓fX10_readsLaw_10, ↓fX10_readsLaw_11, ↓fX10_readsLaw_12, ↓fX10_readsLaw_13, ↓fX10_readsLaw_16, ↓fX10_readsLaw_19, ↓fX10_readsLaw_20, ↓fX10_readsLaw_21, ↓fX10_readsLaw_24, ↓fX10_readsLaw_27, ↓fX10_readsLaw_28, ↓fX10_readsLaw_30, ↓fX10_readsLaw_33, ↓fX10_readsLaw_36, ↓fX10_readsLaw_37, ↓fX10_readsLaw_38, ↓fX10_readsLaw_39, ↓fX10_readsLaw_41, ↓fX10_readsLaw_44, ↓fX10_readsLaw_47, ↓fX10_readsLaw_48, ↓fX10_readsLaw_49, ↓fX10_readsLaw_50, ↓fX10_readsLaw_51, ↓fX10_readsLaw_54, ↓fX10_readsLaw_55, ↓fX10_readsLaw_58, ↓fX10_readsLaw_59, ↓fX10_readsLaw_62, ↓fX10_readsLaw_63, ↓fX10_readsLaw_66, ↓fX10_readsLaw_69, ↓fX10_readsLaw_70, ↓fX10_readsLaw_71, ↓fX10_readsLaw_74, ↓fX10_readsLaw_75, ↓fX10_readsLaw_76, ↓fX10_readsLaw_77, ↓fX10_readsLaw_78, ↓fX10_readsLaw_79, ↓fX10_readsLaw_80, ↓fX10_readsLaw_81, ↓fX10_readsLaw_84, ↓fX10_readsLaw_85, ↓fX10_readsLaw_88, ↓fX10_readsLaw_89, ↓fX10_readsLaw_91, ↓fX10_readsLaw_92, ↓fX10_readsLaw_93, ↓fX10_readsLaw_94, ↓fX10_readsLaw_96, ↓fX10_readsLaw_99, ↓fX10_readsLaw_100, ↓fX10_readsLaw_101, ↓fX10_readsLaw_102, ↓fX10_readsLaw_104, ↓fX10_readsLaw_107, ↓fX10_readsLaw_110, ↓fX10_readsLaw_111, ↓fX10_readsLaw_114, ↓fX10_readsLaw_117, ↓fX10_readsLaw_118, ↓fX10_readsLaw_121, ↓fX10_readsLaw_122, ↓fX10_readsLaw_124, ↓fX10_readsLaw_125, ↓fX10_readsLaw_126, ↓fX10_readsLaw_127, ↓fX10_readsLaw_128, ↓fX10_readsLaw_129, ↓fX10_readsLaw_131, ↓fX10_readsLaw_134, ↓fX10_readsLaw_135, ↓fX10_readsLaw_136, ↓fX10_readsLaw_137, ↓fX10_readsLaw_140, ↓fX10_readsLaw_141, ↓fX10_readsLaw_144, ↓fX10_readsLaw_147, ↓fX10_readsLaw_148, ↓fX10_readsLaw_151, ↓fX10_readsLaw_152, ↓fX10_readsLaw_154, ↓fX10_readsLaw_155, ↓fX10_readsLaw_156, ↓fX10_readsLaw_159, ↓fX10_readsLaw_160, ↓fX10_readsLaw_163, ↓fX10_readsLaw_164, ↓fX10_readsLaw_167, ↓fX10_readsLaw_168, ↓fX10_readsLaw_169, ↓fX10_readsLaw_172, ↓fX10_readsLaw_173, ↓fX10_readsLaw_176, ↓fX10_readsLaw_177, ↓fX10_readsLaw_180, ↓fX10_readsLaw_181, ↓fX10_readsLaw_182, ↓fX10_readsLaw_185, ↓fX10_readsLaw_186, ↓fX10_readsLaw_187, ↓fX10_readsLaw_190, ↓fX10_readsLaw_191, ↓fX10_readsLaw_194, ↓fX10_readsLaw_197, ↓fX10_readsLaw_200, ↓fX10_readsLaw_201, ↓fX10_readsLaw_204, ↓fX10_readsLaw_205, ↓fX10_readsLaw_206, ↓fX10_readsLaw_209, ↓fX10_readsLaw_210, ↓fX10_readsLaw_212, ↓fX10_readsLaw_213, ↓fX10_readsLaw_214, ↓fX10_readsLaw_216, ↓fX10_readsLaw_219, ↓fX10_readsLaw_220, ↓fX10_readsLaw_223, ↓fX10_readsLaw_224, ↓fX10_readsLaw_225, ↓fX10_readsLaw_228, ↓fX10_readsLaw_229, ↓fX10_readsLaw_232, ↓fX10_readsLaw_235, ↓fX10_readsLaw_236, ↓fX10_readsLaw_237, ↓fX10_readsLaw_240, ↓fX10_readsLaw_241, ↓fX10_readsLaw_243, ↓fX10_readsLaw_244, ↓fX10_readsLaw_245, ↓fX10_readsLaw_248, ↓fX10_readsLaw_249, ↓fX10_readsLaw_251, ↓fX10_readsLaw_252, ↓fX10_readsLaw_253, ↓fX10_readsLaw_254, ↓fX10_readsLaw_255, ↓fX10_readsLaw_258, ↓fX10_readsLaw_259, ↓fX10_readsLaw_260, ↓fX10_readsLaw_263, ↓fX10_readsLaw_264, ↓fX10_readsLaw_266, ↓fX10_readsLaw_267, ↓fX10_readsLaw_268, ↓fX10_readsLaw_269, ↓fX10_readsLaw_270, ↓fX10_readsLaw_271, ↓fX10_readsLaw_272, ↓fX10_readsLaw_273, ↓fX10_readsLaw_276, ↓fX10_readsLaw_279, c4, c5, and_self, true_and, and_true, false_and, and_false, not_true_eq_false, not_false_eq_true, or_self, true_or, or_true, false_or, or_false, ite_not, Decidable.not_not, decide_eq_true_eq, Bool.not_true, Bool.not_false, Bool.false_eq_true, Bool.not_eq_true, n10, n20, n21, n30, n31, n32, n40, n41, n42, n43, ↓reduceIte]
end BM
