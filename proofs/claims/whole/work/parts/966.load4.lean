/-! load out of the reference: the whole. -/
def ldF (G L G' L' : Nat → Nat → Int) (m : Nat) : Prop := (∀ x, x ≠ m → x ≠ m + 1 → x ≠ m + 2 → x ≠ m + 5 → x ≠ m + 6 → G' x = G x) ∧ G' m 16 = G m 16 ∧ (0 ≤ G' m 26 ∧ G' m 26 ≤ 9999) ∧ (0 ≤ L' m 30 ∧ L' m 30 < 1000000000000000) ∧ kWd L' m ∧ ∀ x, x ≠ m → x ≠ m + 12 → L' x = L x
def ldG (G : Nat → Nat → Int) (m : Nat) (n : Int) : Nat → Nat → Int := u2 (u2 (u2 (u2 (u2 (u2 (iG G m 0) m 27 n) m 24 0) m 21 0) m 28 0) m 29 0) m 32 0
section BM
variable {E : AE} {G G1 G2 G' L L' L1 L2 : Nat → Nat → Int} {r : Nat → Nat → Option Nat} {h : AH} {Q : AH → Value → Prop} {m M c cs cl cl0 a n0 : Nat} {B : Int → Int} {T : TkT} {st : StT} {C : Nat → Int} {s e y x w i p v lo hi t b d n ki k : Int} {σ σ0 : Nat → Nat → Int} {ln ln0 : Nat → Nat} {lv lv0 : Nat → Nat → Int} {N : Nat → Nat} {Sg : Nat → Nat → Nat → Int}
theorem z_load0 (hm : shM E r m) (hk : I32 k) (h18 : 0 ≤ G m 18 ∧ G m 18 ≤ 600) (hb : k < 0 ∨ G m 18 < k) : RK MX10_load 0 [.ref m, .int (zi k), jk] [] (0, 0) (E, zg G, zk L, r) Q = Q (E, zg (iG G m 1), zk L, r) (.int (zi (-1))) := by
  have m0 := hm.1
  have c : ¬ (0 ≤ k ∧ k ≤ G m 18) := by omega
  have c' : bI (0 ≤ k ∧ k ≤ G m 18) = 0 := bI_n c
  simp (disch := first | assumption | exact c2_int _ | exact c2_ref _ | exact c2_jk | exact c2_null | omega | exact bI_r _ | exact bI_01 _) only [↓fX10_load_0, ↓fX10_load_1, ↓fX10_load_2, ↓fX10_load_3, ↓fX10_load_4, ↓fX10_load_5, ↓fX10_load_8, ↓fX10_load_9, ↓fX10_load_12, ↓fX10_load_15, ↓fX10_load_16, ↓fX10_load_19, ↓fX10_load_20, ↓fX10_load_23, ↓fX10_load_26, ↓fX10_load_27, ↓fX10_load_28, ↓fX10_load_29, ↓fX10_load_30, ↓fX10_load_33, ↓fX10_load_34, ↓fX10_load_35, ↓fX10_load_38, ↓fX10_load_39, ↓fX10_load_40, ↓fX10_load_43, ↓fX10_load_44, ↓fX10_load_45, ↓fX10_load_48, ↓fX10_load_49, ↓fX10_load_50, ↓fX10_load_53, ↓fX10_load_54, ↓fX10_load_55, ↓fX10_load_58, ↓fX10_load_59, ↓fX10_load_60, ↓fX10_load_61, ↓fX10_load_64, ↓fX10_load_67, ↓fX10_load_68, ↓fX10_load_71, ↓fX10_load_72, ↓fX10_load_73, ↓fX10_load_74, ↓fX10_load_77, ↓fX10_load_80, ↓fX10_load_81, ↓fX10_load_84, ↓fX10_load_85, ↓fX10_load_88, ↓fX10_load_91, ↓fX10_load_92, ↓fX10_load_95, ↓fX10_load_98, ↓fX10_load_99, ↓fX10_load_100, ↓fX10_load_103, ↓fX10_load_106, ↓fX10_load_107, ↓fX10_load_110, ↓fX10_load_113, ↓fX10_load_114, ↓fX10_load_116, ↓fX10_load_119, ↓fX10_load_122, ↓fX10_load_123, ↓fX10_load_126, ↓fX10_load_129, ↓fX10_load_130, ↓fX10_load_131, ↓fX10_load_132, ↓fX10_load_135, ↓fX10_load_136, ↓fX10_load_137, ↓fX10_load_140, ↓fX10_load_141, ↓fX10_load_144, ↓fX10_load_145, ↓fX10_load_148, ↓fX10_load_149, ↓fX10_load_152, ↓fX10_load_155, ↓fX10_load_156, ↓fX10_load_157, ↓fX10_load_160, ↓fX10_load_161, ↓fX10_load_162, ↓fX10_load_165, ↓fX10_load_168, ↓fX10_load_169, ↓fX10_load_170, ↓fX10_load_173, ↓fX10_load_176, ↓fX10_load_177, ↓fX10_load_180, ↓fX10_load_183, ↓fX10_load_184, ↓fX10_load_187, ↓fX10_load_188, ↓fX10_load_191, ↓fX10_load_194, ↓fX10_load_195, ↓fX10_load_197, ↓fX10_load_200, ↓fX10_load_201, ↓fX10_load_202, ↓fX10_load_203, ↓fX10_load_204, ↓fX10_load_207, ↓fX10_load_210, ↓fX10_load_211, ↓fX10_load_214, ↓fX10_load_215, ↓fX10_load_216, ↓fX10_load_219, ↓fX10_load_220, ↓fX10_load_221, ↓fX10_load_222, ↓fX10_load_225, ↓fX10_load_228, ↓fX10_load_229, ↓fX10_load_230, ↓fX10_load_231, ↓fX10_load_232, ↓fX10_load_235, ↓fX10_load_236, ↓fX10_load_239, ↓fX10_load_240, ↓fX10_load_243, ↓fX10_load_244, ↓fX10_load_245, ↓fX10_load_248, ↓fX10_load_249, ↓fX10_load_250, ↓fX10_load_251, ↓fX10_load_254, ↓fX10_load_257, ↓fX10_load_258, ↓fX10_load_259, ↓fX10_load_262, ↓fX10_load_265, ↓fX10_load_266, ↓fX10_load_267, ↓fX10_load_270, ↓fX10_load_273, ↓fX10_load_274, ↓fX10_load_275, ↓fX10_load_278, ↓fX10_load_279, ↓fX10_load_282, ↓m_isIn, ↓m_isN, c', and_self, true_and, and_true, false_and, and_false, not_true_eq_false, not_false_eq_true, or_self, true_or, or_true, false_or, or_false, ite_not, Decidable.not_not, decide_eq_true_eq, Bool.not_true, Bool.not_false, Bool.false_eq_true, Bool.not_eq_true, n10, n20, n21, n30, n31, n32, n40, n41, n42, n43, ↓reduceIte]
theorem ldG_q {q : Nat} (h : q ≠ m) : ldG G m n q = G q := by
  unfold ldG
  rw [u2_a _ _ _ _ h, u2_a _ _ _ _ h, u2_a _ _ _ _ h, u2_a _ _ _ _ h, u2_a _ _ _ _ h, u2_a _ _ _ _ h, iG_q h]
theorem ldG_j (j : Nat) : ldG G m n m j = if j = 32 then 0 else if j = 29 then 0 else if j = 28 then 0 else if j = 21 then 0 else if j = 24 then 0 else if j = 27 then n else if j = 0 then 0 else if j = 1 then 0 else G m j := by
  unfold ldG iG u2
  simp only [true_and]
theorem z_load (hM : MD E r G m n0 σ0) (hP : PM G m a N Sg) (hL : LM G m cl0 ln0 lv0) (hK : kWd L m) (h26 : 0 ≤ G m 26 ∧ G m 26 ≤ 9999) (h30 : 0 ≤ L m 30 ∧ L m 30 < 1000000000000000) (hT : tpR G m B n) (hk : 0 ≤ n ∧ n ≤ G m 18) (h18 : G m 18 ≤ 600) (f g : Nat → Int) :
    (∃ cs cl σ ln lv G' L', rdAll B n f g = .ok (cs, cl, σ, ln, lv) ∧ ldF G L G' L' m ∧ (G' m 0 = 0 ∧ G' m 18 = 0 ∧ G' m 19 = 0 ∧ G' m 20 = -1) ∧ ((∀ t, t < cs → WF (σ t)) → MD E r G' m cs σ) ∧ PM G' m 0 N Sg ∧ ((∀ t, t < cl → (1 ≤ ln t ∧ ln t ≤ 10) ∧ ∀ j, j < ln t → 0 ≤ lv t j ∧ lv t j ≤ 9999) → LM G' m cl ln lv) ∧ ∀ Q, RK MX10_load 0 [.ref m, .int (zi n), jk] [] (0, 0) (E, zg G, zk L, r) Q = Q (E, zg G', zk L', r) (.int (zi (cs : Int)))) ∨
    (∃ (kf : Int) (T' : TkT) (G' L' : Nat → Nat → Int), rdAll B n f g = .error (kf, T') ∧ ldF G L G' L' m ∧ (G' m 0 = 9 ∧ G' m 18 = 0 ∧ G' m 19 = kf ∧ G' m 20 = T'.2.1) ∧ MD E r G' m n0 σ0 ∧ PM G' m a N Sg ∧ LM G' m cl0 ln0 lv0 ∧ ∀ Q, RK MX10_load 0 [.ref m, .int (zi n), jk] [] (0, 0) (E, zg G, zk L, r) Q = Q (E, zg G', zk L', r) (.int (zi (-1)))) := by
  have hm := hM.1
  have m0 := hm.1
  obtain ⟨K, hK7⟩ : ∃ K : Nat, K = 7296 := ⟨_, rfl⟩
  obtain ⟨K3, hK3⟩ : ∃ K : Nat, K = 33 := ⟨_, rfl⟩
  have lp1 := fun Q => load_l1 (G := ldG G m n) (L := L) (Q := Q) hm hK7 (c2_int (zi n)) K 0 (by omega) (by omega)
  rw [zr_0] at lp1
  let G3 : Nat → Nat → Int := zrG (ldG G m n) (m + 2) K
  have q3 : ∀ x, x ≠ m → x ≠ m + 2 → G3 x = G x := fun x a b => (zr_q b).trans (ldG_q a)
  have j3 : ∀ j, G3 m j = ldG G m n m j := fun j => by
    show zrG _ _ _ m j = _
    rw [zr_q (by omega)]
  have z3 : ∀ q, q < 7296 → G3 (m + 2) q = 0 := fun q hq => by
    show zrG _ _ _ _ q = _
    rw [zr_i, if_pos (by omega)]
  have hT3 : tpR G3 m B n := tpR_c hT (q3 _ (by omega) (by omega))
  have j26 : G3 m 26 = G m 26 := by rw [j3, ldG_j]; rfl
  have j27 : G3 m 27 = n := by rw [j3, ldG_j]; rfl
  have j24 : G3 m 24 = 0 := by rw [j3, ldG_j]; rfl
  have j21 : G3 m 21 = 0 := by rw [j3, ldG_j]; rfl
  have j28 : G3 m 28 = 0 := by rw [j3, ldG_j]; rfl
  have j29 : G3 m 29 = 0 := by rw [j3, ldG_j]; rfl
  have j32 : G3 m 32 = 0 := by rw [j3, ldG_j]; rfl
  have j16 : G3 m 16 = G m 16 := by rw [j3, ldG_j]; rfl
  have j6 : G3 m 6 = G m 6 := by rw [j3, ldG_j]; rfl
  have j7 : G3 m 7 = G m 7 := by rw [j3, ldG_j]; rfl
  have j8 : G3 m 8 = G m 8 := by rw [j3, ldG_j]; rfl
  have j0 : G3 m 0 = 0 := by rw [j3, ldG_j]; rfl
  have he : 0 ≤ (0 : Int) ∧ (0 : Int) ≤ n := ⟨Int.le_refl _, hk.1⟩
  obtain ⟨G4, L4, f4, tk4, e4⟩ := m_reads (L := L) hm hT3 j27 j24 he (by rw [j26]; exact h26) h30
  have hr := nxT_TR0 hT3 he
  have s4 : rdS G4 L4 m B n (.ok (nxT B n 0)) := by
    refine ⟨tpR_c hT3 (f4.1 _ (by omega)), (f4.2.1 27 (by decide)).trans j27, tk4.2.2.2.2.1, tk4.2.2.2.2.2.1, ?_, (f4.2.1 21 (by decide)).trans j21, tk4, hr⟩
    rw [tk4.2.1]
    exact (srM_b hr.1).1
  have go := nxT_go B n 0
  have hN4 : nmR G4 L4 m B f g (0 + 0) := ⟨by rw [f4.2.1 32 (by decide), j32]; rfl, fun i hi => absurd hi (by omega)⟩
  have hh4 : RHM G4 m 0 0 (fun _ _ => 0) (fun _ => 0) (fun _ _ => 0) := by
    refine ⟨⟨by rw [f4.2.1 28 (by decide), j28]; rfl, by omega⟩, ⟨by rw [f4.2.1 29 (by decide), j29]; rfl, by omega⟩, fun t ht => absurd ht (by omega), fun q _ hq => ?_, fun t ht => absurd ht (by omega)⟩
    rw [f4.1 _ (by omega)]
    exact z3 q hq
  have hK4 : kWd L4 m := kWd_c hK (prW_F f4)
  have kn : (0 ≤ n ∧ n ≤ G m 18) = True := eq_true hk
  have hn6 : n ≤ 600 := by omega
  have st1 : ∀ Q, RK MX10_load 0 [.ref m, .int (zi n), jk] [] (0, 0) (E, zg G, zk L, r) Q = RK MX10_load 84 [.ref m, .int (zi n), .int (zi (K : Int))] [] (0, 0) (E, zg G4, zk L4, r) Q := fun Q => by
    have c' : bI (0 ≤ n ∧ n ≤ G m 18) = 1 := bI_p hk
    have lp1' : RK MX10_load 60 [.ref m, .int (zi n), .int (zi 0)] [] (0, 0) (E, zg (ldG G m n), zk L, r) Q = RK MX10_load 80 [.ref m, .int (zi n), .int (zi (K : Int))] [] (0, 0) (E, zg G3, zk L, r) Q := lp1 Q
    have eG : u2 (u2 (u2 (u2 (u2 (u2 (iG G m 0) m 27 n) m 24 0) m 21 0) m 28 0) m 29 0) m 32 0 = ldG G m n := rfl
    have z10 : ¬ (1 : Int) = 0 := by decide
    clear hK7 hK3
    simp (disch := first | assumption | exact c2_int _ | exact c2_ref _ | exact c2_jk | exact c2_null | omega | exact bI_r _ | exact bI_01 _) only [↓fX10_load_0, ↓fX10_load_1, ↓fX10_load_2, ↓fX10_load_3, ↓fX10_load_4, ↓fX10_load_5, ↓fX10_load_8, ↓fX10_load_9, ↓fX10_load_12, ↓fX10_load_15, ↓fX10_load_16, ↓fX10_load_19, ↓fX10_load_20, ↓fX10_load_23, ↓fX10_load_26, ↓fX10_load_27, ↓fX10_load_28, ↓fX10_load_29, ↓fX10_load_30, ↓fX10_load_33, ↓fX10_load_34, ↓fX10_load_35, ↓fX10_load_38, ↓fX10_load_39, ↓fX10_load_40, ↓fX10_load_43, ↓fX10_load_44, ↓fX10_load_45, ↓fX10_load_48, ↓fX10_load_49, ↓fX10_load_50, ↓fX10_load_53, ↓fX10_load_54, ↓fX10_load_55, ↓fX10_load_58, ↓fX10_load_59, ↓fX10_load_61, ↓fX10_load_64, ↓fX10_load_67, ↓fX10_load_68, ↓fX10_load_71, ↓fX10_load_72, ↓fX10_load_73, ↓fX10_load_74, ↓fX10_load_77, ↓fX10_load_81, ↓fX10_load_85, ↓fX10_load_88, ↓fX10_load_91, ↓fX10_load_92, ↓fX10_load_95, ↓fX10_load_98, ↓fX10_load_99, ↓fX10_load_100, ↓fX10_load_103, ↓fX10_load_106, ↓fX10_load_107, ↓fX10_load_110, ↓fX10_load_113, ↓fX10_load_114, ↓fX10_load_116, ↓fX10_load_119, ↓fX10_load_122, ↓fX10_load_123, ↓fX10_load_126, ↓fX10_load_129, ↓fX10_load_130, ↓fX10_load_131, ↓fX10_load_132, ↓fX10_load_135, ↓fX10_load_136, ↓fX10_load_137, ↓fX10_load_140, ↓fX10_load_141, ↓fX10_load_144, ↓fX10_load_145, ↓fX10_load_148, ↓fX10_load_149, ↓fX10_load_152, ↓fX10_load_155, ↓fX10_load_156, ↓fX10_load_157, ↓fX10_load_160, ↓fX10_load_161, ↓fX10_load_162, ↓fX10_load_165, ↓fX10_load_168, ↓fX10_load_169, ↓fX10_load_170, ↓fX10_load_173, ↓fX10_load_176, ↓fX10_load_177, ↓fX10_load_180, ↓fX10_load_183, ↓fX10_load_184, ↓fX10_load_187, ↓fX10_load_188, ↓fX10_load_191, ↓fX10_load_194, ↓fX10_load_195, ↓fX10_load_197, ↓fX10_load_200, ↓fX10_load_201, ↓fX10_load_202, ↓fX10_load_203, ↓fX10_load_204, ↓fX10_load_207, ↓fX10_load_210, ↓fX10_load_211, ↓fX10_load_214, ↓fX10_load_215, ↓fX10_load_216, ↓fX10_load_219, ↓fX10_load_220, ↓fX10_load_221, ↓fX10_load_222, ↓fX10_load_225, ↓fX10_load_228, ↓fX10_load_229, ↓fX10_load_230, ↓fX10_load_231, ↓fX10_load_232, ↓fX10_load_235, ↓fX10_load_236, ↓fX10_load_239, ↓fX10_load_240, ↓fX10_load_243, ↓fX10_load_244, ↓fX10_load_245, ↓fX10_load_248, ↓fX10_load_249, ↓fX10_load_250, ↓fX10_load_251, ↓fX10_load_254, ↓fX10_load_257, ↓fX10_load_258, ↓fX10_load_259, ↓fX10_load_262, ↓fX10_load_265, ↓fX10_load_266, ↓fX10_load_267, ↓fX10_load_270, ↓fX10_load_273, ↓fX10_load_274, ↓fX10_load_275, ↓fX10_load_278, ↓fX10_load_279, ↓fX10_load_282, ↓m_isIn, ↓m_is0, c', eG, z10, and_self, true_and, and_true, false_and, and_false, not_true_eq_false, not_false_eq_true, or_self, true_or, or_true, false_or, or_false, ite_not, Decidable.not_not, decide_eq_true_eq, Bool.not_true, Bool.not_false, Bool.false_eq_true, Bool.not_eq_true, n10, n20, n21, n30, n31, n32, n40, n41, n42, n43, ↓reduceIte]
    rw [lp1', fX10_load_80]
    simp (disch := first | assumption | exact c2_int _ | exact c2_ref _ | exact c2_jk | exact c2_null | omega | exact bI_r _ | exact bI_01 _) only [↓fX10_load_0, ↓fX10_load_1, ↓fX10_load_2, ↓fX10_load_3, ↓fX10_load_4, ↓fX10_load_5, ↓fX10_load_8, ↓fX10_load_9, ↓fX10_load_12, ↓fX10_load_15, ↓fX10_load_16, ↓fX10_load_19, ↓fX10_load_20, ↓fX10_load_23, ↓fX10_load_26, ↓fX10_load_27, ↓fX10_load_28, ↓fX10_load_29, ↓fX10_load_30, ↓fX10_load_33, ↓fX10_load_34, ↓fX10_load_35, ↓fX10_load_38, ↓fX10_load_39, ↓fX10_load_40, ↓fX10_load_43, ↓fX10_load_44, ↓fX10_load_45, ↓fX10_load_48, ↓fX10_load_49, ↓fX10_load_50, ↓fX10_load_53, ↓fX10_load_54, ↓fX10_load_55, ↓fX10_load_58, ↓fX10_load_59, ↓fX10_load_61, ↓fX10_load_64, ↓fX10_load_67, ↓fX10_load_68, ↓fX10_load_71, ↓fX10_load_72, ↓fX10_load_73, ↓fX10_load_74, ↓fX10_load_77, ↓fX10_load_81, ↓fX10_load_85, ↓fX10_load_88, ↓fX10_load_91, ↓fX10_load_92, ↓fX10_load_95, ↓fX10_load_98, ↓fX10_load_99, ↓fX10_load_100, ↓fX10_load_103, ↓fX10_load_106, ↓fX10_load_107, ↓fX10_load_110, ↓fX10_load_113, ↓fX10_load_114, ↓fX10_load_116, ↓fX10_load_119, ↓fX10_load_122, ↓fX10_load_123, ↓fX10_load_126, ↓fX10_load_129, ↓fX10_load_130, ↓fX10_load_131, ↓fX10_load_132, ↓fX10_load_135, ↓fX10_load_136, ↓fX10_load_137, ↓fX10_load_140, ↓fX10_load_141, ↓fX10_load_144, ↓fX10_load_145, ↓fX10_load_148, ↓fX10_load_149, ↓fX10_load_152, ↓fX10_load_155, ↓fX10_load_156, ↓fX10_load_157, ↓fX10_load_160, ↓fX10_load_161, ↓fX10_load_162, ↓fX10_load_165, ↓fX10_load_168, ↓fX10_load_169, ↓fX10_load_170, ↓fX10_load_173, ↓fX10_load_176, ↓fX10_load_177, ↓fX10_load_180, ↓fX10_load_183, ↓fX10_load_184, ↓fX10_load_187, ↓fX10_load_188, ↓fX10_load_191, ↓fX10_load_194, ↓fX10_load_195, ↓fX10_load_197, ↓fX10_load_200, ↓fX10_load_201, ↓fX10_load_202, ↓fX10_load_203, ↓fX10_load_204, ↓fX10_load_207, ↓fX10_load_210, ↓fX10_load_211, ↓fX10_load_214, ↓fX10_load_215, ↓fX10_load_216, ↓fX10_load_219, ↓fX10_load_220, ↓fX10_load_221, ↓fX10_load_222, ↓fX10_load_225, ↓fX10_load_228, ↓fX10_load_229, ↓fX10_load_230, ↓fX10_load_231, ↓fX10_load_232, ↓fX10_load_235, ↓fX10_load_236, ↓fX10_load_239, ↓fX10_load_240, ↓fX10_load_243, ↓fX10_load_244, ↓fX10_load_245, ↓fX10_load_248, ↓fX10_load_249, ↓fX10_load_250, ↓fX10_load_251, ↓fX10_load_254, ↓fX10_load_257, ↓fX10_load_258, ↓fX10_load_259, ↓fX10_load_262, ↓fX10_load_265, ↓fX10_load_266, ↓fX10_load_267, ↓fX10_load_270, ↓fX10_load_273, ↓fX10_load_274, ↓fX10_load_275, ↓fX10_load_278, ↓fX10_load_279, ↓fX10_load_282, ↓e4, and_self, true_and, and_true, false_and, and_false, not_true_eq_false, not_false_eq_true, or_self, true_or, or_true, false_or, or_false, ite_not, Decidable.not_not, decide_eq_true_eq, Bool.not_true, Bool.not_false, Bool.false_eq_true, Bool.not_eq_true, n10, n20, n21, n30, n31, n32, n40, n41, n42, n43, ↓reduceIte]
  have lp := ld_text (B := B) (n := n) hm (c2_int (zi n)) (c2_int (zi (K : Int))) 602 f g 0 0 (fun _ _ => 0) (fun _ => 0) (fun _ _ => 0) (nxT B n 0) G4 L4 hK4 s4 hN4 hh4 go.2 (by have := go.1; omega)
  have q4 : ∀ x, x ≠ m → x ≠ m + 2 → G4 x = G x := fun x a b => (f4.1 x a).trans (q3 x a b)
  rcases lp with ⟨cs, cl, σ, ln, lv, G5, L5, T5, b1, b2, b3, b4, b5⟩ | ⟨e, G5, L5, b1, b2, b3, b4⟩
  · obtain ⟨t1, t2, t3, t4, t4b, t6, t7, t8⟩ := id b3
    obtain ⟨⟨hc1, hc2⟩, ⟨hc3, hc4⟩, hs, hz, hls⟩ := b4
    let G6 : Nat → Nat → Int := u2 (u2 (u2 G5 m 18 0) m 19 0) m 20 (-1)
    have q6 : ∀ x, x ≠ m → G6 x = G5 x := fun x hx => (u2_a _ _ _ _ hx).trans ((u2_a _ _ _ _ hx).trans (u2_a _ _ _ _ hx))
    have i6 : ∀ j, j ≠ 18 → j ≠ 19 → j ≠ 20 → G6 m j = G5 m j := fun j a b c => (u2_i _ _ _ _ c).trans ((u2_i _ _ _ _ b).trans (u2_i _ _ _ _ a))
    have lp2 := fun Q => load_l2 (G := G6) (L := L5) (Q := Q) hm hK7 (c2_int (zi n)) K 0 (by omega) (by omega)
    rw [cp_0] at lp2
    let G7 : Nat → Nat → Int := cpG1 G6 (m + 1) (m + 2) 0 0 K
    have q7 : ∀ x, x ≠ m + 1 → G7 x = G6 x := fun x hx => cpG1_q hx
    have i7 : ∀ j, j < 7296 → G7 (m + 1) j = G5 (m + 2) j := fun j hj => by
      show cpG1 _ _ _ _ _ _ _ j = _
      rw [cpG1_i, if_pos (by omega), q6 _ (by omega), show 0 + (j - 0) = j by omega]
    have lp3 := fun Q => load_l3 (G := G7) (L := L5) (Q := Q) hm hK3 (c2_int (zi n)) K3 0 (by omega) (by omega)
    rw [cp_0] at lp3
    let G8 : Nat → Nat → Int := cpG1 G7 (m + 5) (m + 6) 0 0 K3
    have q8 : ∀ x, x ≠ m + 5 → G8 x = G7 x := fun x hx => cpG1_q hx
    have i8 : ∀ j, j < 33 → G8 (m + 5) j = G5 (m + 6) j := fun j hj => by
      show cpG1 _ _ _ _ _ _ _ j = _
      rw [cpG1_i, if_pos (by omega), q7 _ (by omega), q6 _ (by omega), show 0 + (j - 0) = j by omega]
    let G9 : Nat → Nat → Int := u2 (u2 (u2 G8 m 6 (cs : Int)) m 8 (cl : Int)) m 7 0
    have q9 : ∀ x, x ≠ m → G9 x = G8 x := fun x hx => (u2_a _ _ _ _ hx).trans ((u2_a _ _ _ _ hx).trans (u2_a _ _ _ _ hx))
    have i9 : ∀ j, j ≠ 6 → j ≠ 8 → j ≠ 7 → G9 m j = G6 m j := fun j a b c => by
      show u2 (u2 (u2 G8 m 6 _) m 8 _) m 7 0 m j = _
      rw [u2_i _ _ _ _ c, u2_i _ _ _ _ b, u2_i _ _ _ _ a, q8 m (by omega), q7 m (by omega)]
    have i96 : G9 m 6 = cs := by
      show u2 (u2 (u2 G8 m 6 _) m 8 _) m 7 0 m 6 = _
      rw [u2_i _ _ _ _ (by decide), u2_i _ _ _ _ (by decide), u2_s]
    have i98 : G9 m 8 = cl := by
      show u2 (u2 (u2 G8 m 6 _) m 8 _) m 7 0 m 8 = _
      rw [u2_i _ _ _ _ (by decide), u2_s]
    have i97 : G9 m 7 = 0 := u2_s _ _ _ _
    have a1 : ∀ j, G9 (m + 1) j = G7 (m + 1) j := fun j => by rw [q9 _ (by omega), q8 _ (by omega)]
    have a5 : ∀ j, G9 (m + 5) j = G8 (m + 5) j := fun j => by rw [q9 _ (by omega)]
    refine Or.inl ⟨cs, cl, σ, ln, lv, G9, L5, b1, ⟨fun x x0 x1 x2 x5 x6 => ?_, ?_, ?_, ?_, ?_, ?_⟩, ⟨?_, ?_, ?_, ?_⟩, fun hW => ⟨hm, ⟨i96, hc2⟩, fun t ht => ⟨fun j hj => ?_, hW t ht⟩⟩, ⟨⟨i97, by omega⟩, fun c hc => absurd hc (by omega)⟩, fun hB => ⟨⟨i98, hc4⟩, fun t ht => ?_⟩, fun Q => ?_⟩
    · rw [q9 x x0, q8 x x5, q7 x x1, q6 x x0, b2.1 x x0 x2 x6, q4 x x0 x2]
    · rw [i9 16 (by decide) (by decide) (by decide), i6 16 (by decide) (by decide) (by decide), b2.2.1 16 (by decide) (by decide) (by decide) (by decide), f4.2.1 16 (by decide), j16]
    · rw [i9 26 (by decide) (by decide) (by decide), i6 26 (by decide) (by decide) (by decide)]
      exact t3
    · exact t4
    · exact kWd_Q hK4 b2
    · intro x hx hx2
      rw [b2.2.2.1 x hx hx2, f4.2.2.1 x hx]
    · rw [i9 0 (by decide) (by decide) (by decide), i6 0 (by decide) (by decide) (by decide), b2.2.1 0 (by decide) (by decide) (by decide) (by decide), f4.2.1 0 (by decide), j0]
    · rw [i9 18 (by decide) (by decide) (by decide)]
      show u2 (u2 (u2 G5 m 18 0) m 19 0) m 20 (-1) m 18 = 0
      rw [u2_i _ _ _ _ (by decide), u2_i _ _ _ _ (by decide), u2_s]
    · rw [i9 19 (by decide) (by decide) (by decide)]
      show u2 (u2 (u2 G5 m 18 0) m 19 0) m 20 (-1) m 19 = 0
      rw [u2_i _ _ _ _ (by decide), u2_s]
    · rw [i9 20 (by decide) (by decide) (by decide)]
      exact u2_s _ _ _ _
    · rw [a1, i7 _ (by omega), show (1824 * (t : Int) + (j : Int)).toNat = 1824 * t + j by omega]
      exact hs t ht j hj
    · obtain ⟨u1, u2', u3⟩ := hls t ht
      obtain ⟨u4, u5⟩ := hB t ht
      refine ⟨u4, ?_, fun j hj => ⟨?_, u5 j hj⟩⟩
      · rw [a5, i8 _ (by omega)]
        exact u2'
      · rw [a5, i8 _ (by omega)]
        exact u3 j hj
    · rw [st1 Q, b5 Q, fX10_load_155]
      have lp2' : RK MX10_load 203 [.ref m, .int (zi n), .int (zi 0)] [] (0, 0) (E, zg G6, zk L5, r) Q = RK MX10_load 228 [.ref m, .int (zi n), .int (zi (K : Int))] [] (0, 0) (E, zg G7, zk L5, r) Q := lp2 Q
      have lp3' : RK MX10_load 230 [.ref m, .int (zi n), .int (zi 0)] [] (0, 0) (E, zg G7, zk L5, r) Q = RK MX10_load 257 [.ref m, .int (zi n), .int (zi (K3 : Int))] [] (0, 0) (E, zg G8, zk L5, r) Q := lp3 Q
      have x21 : u2 G5 m 18 0 m 21 = 0 := (u2_i _ _ _ _ (by decide)).trans t6
      have x21' : u2 (u2 G5 m 18 0) m 19 0 m 21 = 0 := (u2_i _ _ _ _ (by decide)).trans x21
      have x21'' : G6 m 21 = 0 := (i6 21 (by decide) (by decide) (by decide)).trans t6
      have eG6 : u2 (u2 (u2 G5 m 18 0) m 19 0) m 20 (-1) = G6 := rfl
      have z00 : ¬ (0 : Int) < 0 := by decide
      have z01 : (0 : Int) ≤ 0 := by decide
      have y28 : G8 m 28 = cs := by rw [q8 m (by omega), q7 m (by omega), i6 28 (by decide) (by decide) (by decide), hc1]
      have y29 : u2 G8 m 6 (cs : Int) m 29 = cl := by rw [u2_i _ _ _ _ (by decide), q8 m (by omega), q7 m (by omega), i6 29 (by decide) (by decide) (by decide), hc3]
      have eG9 : u2 (u2 (u2 G8 m 6 (cs : Int)) m 8 (cl : Int)) m 7 0 = G9 := rfl
      clear hK7 hK3
      simp (disch := first | assumption | exact c2_int _ | exact c2_ref _ | exact c2_jk | exact c2_null | omega | exact bI_r _ | exact bI_01 _) only [↓fX10_load_0, ↓fX10_load_1, ↓fX10_load_2, ↓fX10_load_3, ↓fX10_load_4, ↓fX10_load_5, ↓fX10_load_8, ↓fX10_load_9, ↓fX10_load_12, ↓fX10_load_15, ↓fX10_load_16, ↓fX10_load_19, ↓fX10_load_20, ↓fX10_load_23, ↓fX10_load_26, ↓fX10_load_27, ↓fX10_load_28, ↓fX10_load_29, ↓fX10_load_30, ↓fX10_load_33, ↓fX10_load_34, ↓fX10_load_35, ↓fX10_load_38, ↓fX10_load_39, ↓fX10_load_40, ↓fX10_load_43, ↓fX10_load_44, ↓fX10_load_45, ↓fX10_load_48, ↓fX10_load_49, ↓fX10_load_50, ↓fX10_load_53, ↓fX10_load_54, ↓fX10_load_55, ↓fX10_load_58, ↓fX10_load_59, ↓fX10_load_60, ↓fX10_load_61, ↓fX10_load_64, ↓fX10_load_67, ↓fX10_load_68, ↓fX10_load_71, ↓fX10_load_72, ↓fX10_load_73, ↓fX10_load_74, ↓fX10_load_77, ↓fX10_load_80, ↓fX10_load_81, ↓fX10_load_84, ↓fX10_load_85, ↓fX10_load_88, ↓fX10_load_91, ↓fX10_load_92, ↓fX10_load_95, ↓fX10_load_98, ↓fX10_load_99, ↓fX10_load_100, ↓fX10_load_103, ↓fX10_load_106, ↓fX10_load_107, ↓fX10_load_110, ↓fX10_load_113, ↓fX10_load_114, ↓fX10_load_116, ↓fX10_load_119, ↓fX10_load_122, ↓fX10_load_123, ↓fX10_load_126, ↓fX10_load_129, ↓fX10_load_130, ↓fX10_load_131, ↓fX10_load_132, ↓fX10_load_135, ↓fX10_load_136, ↓fX10_load_137, ↓fX10_load_140, ↓fX10_load_141, ↓fX10_load_144, ↓fX10_load_145, ↓fX10_load_148, ↓fX10_load_149, ↓fX10_load_152, ↓fX10_load_156, ↓fX10_load_157, ↓fX10_load_160, ↓fX10_load_161, ↓fX10_load_162, ↓fX10_load_165, ↓fX10_load_168, ↓fX10_load_169, ↓fX10_load_170, ↓fX10_load_173, ↓fX10_load_176, ↓fX10_load_177, ↓fX10_load_180, ↓fX10_load_183, ↓fX10_load_184, ↓fX10_load_187, ↓fX10_load_188, ↓fX10_load_191, ↓fX10_load_194, ↓fX10_load_195, ↓fX10_load_197, ↓fX10_load_200, ↓fX10_load_201, ↓fX10_load_202, ↓fX10_load_204, ↓fX10_load_207, ↓fX10_load_210, ↓fX10_load_211, ↓fX10_load_214, ↓fX10_load_215, ↓fX10_load_216, ↓fX10_load_219, ↓fX10_load_220, ↓fX10_load_221, ↓fX10_load_222, ↓fX10_load_225, ↓fX10_load_229, ↓fX10_load_230, ↓fX10_load_231, ↓fX10_load_232, ↓fX10_load_235, ↓fX10_load_236, ↓fX10_load_239, ↓fX10_load_240, ↓fX10_load_243, ↓fX10_load_244, ↓fX10_load_245, ↓fX10_load_248, ↓fX10_load_249, ↓fX10_load_250, ↓fX10_load_251, ↓fX10_load_254, ↓fX10_load_258, ↓fX10_load_259, ↓fX10_load_262, ↓fX10_load_265, ↓fX10_load_266, ↓fX10_load_267, ↓fX10_load_270, ↓fX10_load_273, ↓fX10_load_274, ↓fX10_load_275, ↓fX10_load_278, ↓fX10_load_279, ↓fX10_load_282, x21, x21', x21'', eG6, z00, z01, and_self, true_and, and_true, false_and, and_false, not_true_eq_false, not_false_eq_true, or_self, true_or, or_true, false_or, or_false, ite_not, Decidable.not_not, decide_eq_true_eq, Bool.not_true, Bool.not_false, Bool.false_eq_true, Bool.not_eq_true, n10, n20, n21, n30, n31, n32, n40, n41, n42, n43, ↓reduceIte]
      rw [lp2', fX10_load_228]
      simp (disch := first | assumption | exact c2_int _ | exact c2_ref _ | exact c2_jk | exact c2_null | omega | exact bI_r _ | exact bI_01 _) only [↓fX10_load_0, ↓fX10_load_1, ↓fX10_load_2, ↓fX10_load_3, ↓fX10_load_4, ↓fX10_load_5, ↓fX10_load_8, ↓fX10_load_9, ↓fX10_load_12, ↓fX10_load_15, ↓fX10_load_16, ↓fX10_load_19, ↓fX10_load_20, ↓fX10_load_23, ↓fX10_load_26, ↓fX10_load_27, ↓fX10_load_28, ↓fX10_load_29, ↓fX10_load_30, ↓fX10_load_33, ↓fX10_load_34, ↓fX10_load_35, ↓fX10_load_38, ↓fX10_load_39, ↓fX10_load_40, ↓fX10_load_43, ↓fX10_load_44, ↓fX10_load_45, ↓fX10_load_48, ↓fX10_load_49, ↓fX10_load_50, ↓fX10_load_53, ↓fX10_load_54, ↓fX10_load_55, ↓fX10_load_58, ↓fX10_load_59, ↓fX10_load_60, ↓fX10_load_61, ↓fX10_load_64, ↓fX10_load_67, ↓fX10_load_68, ↓fX10_load_71, ↓fX10_load_72, ↓fX10_load_73, ↓fX10_load_74, ↓fX10_load_77, ↓fX10_load_80, ↓fX10_load_81, ↓fX10_load_84, ↓fX10_load_85, ↓fX10_load_88, ↓fX10_load_91, ↓fX10_load_92, ↓fX10_load_95, ↓fX10_load_98, ↓fX10_load_99, ↓fX10_load_100, ↓fX10_load_103, ↓fX10_load_106, ↓fX10_load_107, ↓fX10_load_110, ↓fX10_load_113, ↓fX10_load_114, ↓fX10_load_116, ↓fX10_load_119, ↓fX10_load_122, ↓fX10_load_123, ↓fX10_load_126, ↓fX10_load_129, ↓fX10_load_130, ↓fX10_load_131, ↓fX10_load_132, ↓fX10_load_135, ↓fX10_load_136, ↓fX10_load_137, ↓fX10_load_140, ↓fX10_load_141, ↓fX10_load_144, ↓fX10_load_145, ↓fX10_load_148, ↓fX10_load_149, ↓fX10_load_152, ↓fX10_load_156, ↓fX10_load_157, ↓fX10_load_160, ↓fX10_load_161, ↓fX10_load_162, ↓fX10_load_165, ↓fX10_load_168, ↓fX10_load_169, ↓fX10_load_170, ↓fX10_load_173, ↓fX10_load_176, ↓fX10_load_177, ↓fX10_load_180, ↓fX10_load_183, ↓fX10_load_184, ↓fX10_load_187, ↓fX10_load_188, ↓fX10_load_191, ↓fX10_load_194, ↓fX10_load_195, ↓fX10_load_197, ↓fX10_load_200, ↓fX10_load_201, ↓fX10_load_202, ↓fX10_load_204, ↓fX10_load_207, ↓fX10_load_210, ↓fX10_load_211, ↓fX10_load_214, ↓fX10_load_215, ↓fX10_load_216, ↓fX10_load_219, ↓fX10_load_220, ↓fX10_load_221, ↓fX10_load_222, ↓fX10_load_225, ↓fX10_load_229, ↓fX10_load_231, ↓fX10_load_232, ↓fX10_load_235, ↓fX10_load_236, ↓fX10_load_239, ↓fX10_load_240, ↓fX10_load_243, ↓fX10_load_244, ↓fX10_load_245, ↓fX10_load_248, ↓fX10_load_249, ↓fX10_load_250, ↓fX10_load_251, ↓fX10_load_254, ↓fX10_load_258, ↓fX10_load_259, ↓fX10_load_262, ↓fX10_load_265, ↓fX10_load_266, ↓fX10_load_267, ↓fX10_load_270, ↓fX10_load_273, ↓fX10_load_274, ↓fX10_load_275, ↓fX10_load_278, ↓fX10_load_279, ↓fX10_load_282, and_self, true_and, and_true, false_and, and_false, not_true_eq_false, not_false_eq_true, or_self, true_or, or_true, false_or, or_false, ite_not, Decidable.not_not, decide_eq_true_eq, Bool.not_true, Bool.not_false, Bool.false_eq_true, Bool.not_eq_true, n10, n20, n21, n30, n31, n32, n40, n41, n42, n43, ↓reduceIte]
      rw [lp3', fX10_load_257]
      simp (disch := first | assumption | exact c2_int _ | exact c2_ref _ | exact c2_jk | exact c2_null | omega | exact bI_r _ | exact bI_01 _) only [↓fX10_load_0, ↓fX10_load_1, ↓fX10_load_2, ↓fX10_load_3, ↓fX10_load_4, ↓fX10_load_5, ↓fX10_load_8, ↓fX10_load_9, ↓fX10_load_12, ↓fX10_load_15, ↓fX10_load_16, ↓fX10_load_19, ↓fX10_load_20, ↓fX10_load_23, ↓fX10_load_26, ↓fX10_load_27, ↓fX10_load_28, ↓fX10_load_29, ↓fX10_load_30, ↓fX10_load_33, ↓fX10_load_34, ↓fX10_load_35, ↓fX10_load_38, ↓fX10_load_39, ↓fX10_load_40, ↓fX10_load_43, ↓fX10_load_44, ↓fX10_load_45, ↓fX10_load_48, ↓fX10_load_49, ↓fX10_load_50, ↓fX10_load_53, ↓fX10_load_54, ↓fX10_load_55, ↓fX10_load_58, ↓fX10_load_59, ↓fX10_load_60, ↓fX10_load_61, ↓fX10_load_64, ↓fX10_load_67, ↓fX10_load_68, ↓fX10_load_71, ↓fX10_load_72, ↓fX10_load_73, ↓fX10_load_74, ↓fX10_load_77, ↓fX10_load_80, ↓fX10_load_81, ↓fX10_load_84, ↓fX10_load_85, ↓fX10_load_88, ↓fX10_load_91, ↓fX10_load_92, ↓fX10_load_95, ↓fX10_load_98, ↓fX10_load_99, ↓fX10_load_100, ↓fX10_load_103, ↓fX10_load_106, ↓fX10_load_107, ↓fX10_load_110, ↓fX10_load_113, ↓fX10_load_114, ↓fX10_load_116, ↓fX10_load_119, ↓fX10_load_122, ↓fX10_load_123, ↓fX10_load_126, ↓fX10_load_129, ↓fX10_load_130, ↓fX10_load_131, ↓fX10_load_132, ↓fX10_load_135, ↓fX10_load_136, ↓fX10_load_137, ↓fX10_load_140, ↓fX10_load_141, ↓fX10_load_144, ↓fX10_load_145, ↓fX10_load_148, ↓fX10_load_149, ↓fX10_load_152, ↓fX10_load_156, ↓fX10_load_157, ↓fX10_load_160, ↓fX10_load_161, ↓fX10_load_162, ↓fX10_load_165, ↓fX10_load_168, ↓fX10_load_169, ↓fX10_load_170, ↓fX10_load_173, ↓fX10_load_176, ↓fX10_load_177, ↓fX10_load_180, ↓fX10_load_183, ↓fX10_load_184, ↓fX10_load_187, ↓fX10_load_188, ↓fX10_load_191, ↓fX10_load_194, ↓fX10_load_195, ↓fX10_load_197, ↓fX10_load_200, ↓fX10_load_201, ↓fX10_load_202, ↓fX10_load_204, ↓fX10_load_207, ↓fX10_load_210, ↓fX10_load_211, ↓fX10_load_214, ↓fX10_load_215, ↓fX10_load_216, ↓fX10_load_219, ↓fX10_load_220, ↓fX10_load_221, ↓fX10_load_222, ↓fX10_load_225, ↓fX10_load_229, ↓fX10_load_231, ↓fX10_load_232, ↓fX10_load_235, ↓fX10_load_236, ↓fX10_load_239, ↓fX10_load_240, ↓fX10_load_243, ↓fX10_load_244, ↓fX10_load_245, ↓fX10_load_248, ↓fX10_load_249, ↓fX10_load_250, ↓fX10_load_251, ↓fX10_load_254, ↓fX10_load_258, ↓fX10_load_259, ↓fX10_load_262, ↓fX10_load_265, ↓fX10_load_266, ↓fX10_load_267, ↓fX10_load_270, ↓fX10_load_273, ↓fX10_load_274, ↓fX10_load_275, ↓fX10_load_278, ↓fX10_load_279, ↓fX10_load_282, y28, y29, eG9, i96, and_self, true_and, and_true, false_and, and_false, not_true_eq_false, not_false_eq_true, or_self, true_or, or_true, false_or, or_false, ite_not, Decidable.not_not, decide_eq_true_eq, Bool.not_true, Bool.not_false, Bool.false_eq_true, Bool.not_eq_true, n10, n20, n21, n30, n31, n32, n40, n41, n42, n43, ↓reduceIte]
  · obtain ⟨kf, T'⟩ := e
    obtain ⟨t1, t2, t3, t4, t4b, t6, t7, t8⟩ := id b3
    let G6 : Nat → Nat → Int := u2 (u2 (u2 G5 m 18 0) m 19 kf) m 20 T'.2.1
    let G9 : Nat → Nat → Int := u2 G6 m 0 9
    have q9 : ∀ x, x ≠ m → G9 x = G5 x := fun x hx => (u2_a _ _ _ _ hx).trans ((u2_a _ _ _ _ hx).trans ((u2_a _ _ _ _ hx).trans (u2_a _ _ _ _ hx)))
    have i9 : ∀ j, j ≠ 18 → j ≠ 19 → j ≠ 20 → j ≠ 0 → G9 m j = G5 m j := fun j a b c d => (u2_i _ _ _ _ d).trans ((u2_i _ _ _ _ c).trans ((u2_i _ _ _ _ b).trans (u2_i _ _ _ _ a)))
    have q95 : ∀ x, x ≠ m → x ≠ m + 2 → x ≠ m + 6 → G9 x = G x := fun x a b c => (q9 x a).trans ((b2.1 x a b c).trans (q4 x a b))
    have i95 : ∀ j, ¬ (18 ≤ j ∧ j ≤ 29) → j ≠ 0 → j ≠ 1 → j ≠ 32 → G9 m j = G m j := fun j a b c d => by
      rw [i9 j (by omega) (by omega) (by omega) b, b2.2.1 j (by omega) (by omega) (by omega) d, f4.2.1 j (by omega), j3, ldG_j, if_neg d, if_neg (by omega), if_neg (by omega), if_neg (by omega), if_neg (by omega), if_neg (by omega), if_neg b, if_neg c]
    refine Or.inr ⟨kf, T', G9, L5, b1, ⟨fun x x0 x1 x2 x5 x6 => q95 x x0 x2 x6, i95 16 (by decide) (by decide) (by decide) (by decide), ?_, t4, kWd_Q hK4 b2, fun x hx hx2 => ?_⟩, ⟨u2_s _ _ _ _, ?_, ?_, ?_⟩, ⟨hm, by rw [i95 6 (by decide) (by decide) (by decide) (by decide)]; exact hM.2.1, fun t ht => ⟨fun j hj => ?_, (hM.2.2 t ht).2⟩⟩, PM_c hP (q95 _ (by omega) (by omega) (by omega)) (q95 _ (by omega) (by omega) (by omega)) (i95 7 (by decide) (by decide) (by decide) (by decide)), ⟨by rw [i95 8 (by decide) (by decide) (by decide) (by decide)]; exact hL.1, fun t ht => ?_⟩, fun Q => ?_⟩
    · rw [i9 26 (by decide) (by decide) (by decide) (by decide)]
      exact t3
    · rw [b2.2.2.1 x hx hx2, f4.2.2.1 x hx]
    · show u2 (u2 (u2 (u2 G5 m 18 0) m 19 kf) m 20 T'.2.1) m 0 9 m 18 = 0
      rw [u2_i _ _ _ _ (by decide), u2_i _ _ _ _ (by decide), u2_i _ _ _ _ (by decide), u2_s]
    · show u2 (u2 (u2 (u2 G5 m 18 0) m 19 kf) m 20 T'.2.1) m 0 9 m 19 = kf
      rw [u2_i _ _ _ _ (by decide), u2_i _ _ _ _ (by decide), u2_s]
    · show u2 (u2 (u2 (u2 G5 m 18 0) m 19 kf) m 20 T'.2.1) m 0 9 m 20 = T'.2.1
      rw [u2_i _ _ _ _ (by decide), u2_s]
    · rw [q95 _ (by omega) (by omega) (by omega)]
      exact (hM.2.2 t ht).1 j hj
    · rw [q95 _ (by omega) (by omega) (by omega)]
      exact hL.2 t ht
    · rw [st1 Q, b4 Q, fX10_load_155]
      have x21 : u2 G5 m 18 0 m 21 = kf := (u2_i _ _ _ _ (by decide)).trans t7
      have x21' : u2 (u2 G5 m 18 0) m 19 kf m 21 = kf := (u2_i _ _ _ _ (by decide)).trans x21
      have x22' : u2 (u2 G5 m 18 0) m 19 kf m 22 = T'.2.1 := (u2_i _ _ _ _ (by decide)).trans ((u2_i _ _ _ _ (by decide)).trans t8)
      have x21'' : G6 m 21 = kf := (u2_i _ _ _ _ (by decide)).trans x21'
      have eG6 : u2 (u2 (u2 G5 m 18 0) m 19 kf) m 20 T'.2.1 = G6 := rfl
      have eG9 : u2 G6 m 0 9 = G9 := rfl
      have z00 : ¬ kf ≤ 0 := by omega
      have z01 : 0 < kf := by omega
      clear hK7 hK3
      simp (disch := first | assumption | exact c2_int _ | exact c2_ref _ | exact c2_jk | exact c2_null | omega | exact bI_r _ | exact bI_01 _) only [↓fX10_load_0, ↓fX10_load_1, ↓fX10_load_2, ↓fX10_load_3, ↓fX10_load_4, ↓fX10_load_5, ↓fX10_load_8, ↓fX10_load_9, ↓fX10_load_12, ↓fX10_load_15, ↓fX10_load_16, ↓fX10_load_19, ↓fX10_load_20, ↓fX10_load_23, ↓fX10_load_26, ↓fX10_load_27, ↓fX10_load_28, ↓fX10_load_29, ↓fX10_load_30, ↓fX10_load_33, ↓fX10_load_34, ↓fX10_load_35, ↓fX10_load_38, ↓fX10_load_39, ↓fX10_load_40, ↓fX10_load_43, ↓fX10_load_44, ↓fX10_load_45, ↓fX10_load_48, ↓fX10_load_49, ↓fX10_load_50, ↓fX10_load_53, ↓fX10_load_54, ↓fX10_load_55, ↓fX10_load_58, ↓fX10_load_59, ↓fX10_load_60, ↓fX10_load_61, ↓fX10_load_64, ↓fX10_load_67, ↓fX10_load_68, ↓fX10_load_71, ↓fX10_load_72, ↓fX10_load_73, ↓fX10_load_74, ↓fX10_load_77, ↓fX10_load_80, ↓fX10_load_81, ↓fX10_load_84, ↓fX10_load_85, ↓fX10_load_88, ↓fX10_load_91, ↓fX10_load_92, ↓fX10_load_95, ↓fX10_load_98, ↓fX10_load_99, ↓fX10_load_100, ↓fX10_load_103, ↓fX10_load_106, ↓fX10_load_107, ↓fX10_load_110, ↓fX10_load_113, ↓fX10_load_114, ↓fX10_load_116, ↓fX10_load_119, ↓fX10_load_122, ↓fX10_load_123, ↓fX10_load_126, ↓fX10_load_129, ↓fX10_load_130, ↓fX10_load_131, ↓fX10_load_132, ↓fX10_load_135, ↓fX10_load_136, ↓fX10_load_137, ↓fX10_load_140, ↓fX10_load_141, ↓fX10_load_144, ↓fX10_load_145, ↓fX10_load_148, ↓fX10_load_149, ↓fX10_load_152, ↓fX10_load_156, ↓fX10_load_157, ↓fX10_load_160, ↓fX10_load_161, ↓fX10_load_162, ↓fX10_load_165, ↓fX10_load_168, ↓fX10_load_169, ↓fX10_load_170, ↓fX10_load_173, ↓fX10_load_176, ↓fX10_load_177, ↓fX10_load_180, ↓fX10_load_183, ↓fX10_load_184, ↓fX10_load_187, ↓fX10_load_188, ↓fX10_load_191, ↓fX10_load_194, ↓fX10_load_195, ↓fX10_load_197, ↓fX10_load_200, ↓fX10_load_201, ↓fX10_load_202, ↓fX10_load_203, ↓fX10_load_204, ↓fX10_load_207, ↓fX10_load_210, ↓fX10_load_211, ↓fX10_load_214, ↓fX10_load_215, ↓fX10_load_216, ↓fX10_load_219, ↓fX10_load_220, ↓fX10_load_221, ↓fX10_load_222, ↓fX10_load_225, ↓fX10_load_228, ↓fX10_load_229, ↓fX10_load_230, ↓fX10_load_231, ↓fX10_load_232, ↓fX10_load_235, ↓fX10_load_236, ↓fX10_load_239, ↓fX10_load_240, ↓fX10_load_243, ↓fX10_load_244, ↓fX10_load_245, ↓fX10_load_248, ↓fX10_load_249, ↓fX10_load_250, ↓fX10_load_251, ↓fX10_load_254, ↓fX10_load_257, ↓fX10_load_258, ↓fX10_load_259, ↓fX10_load_262, ↓fX10_load_265, ↓fX10_load_266, ↓fX10_load_267, ↓fX10_load_270, ↓fX10_load_273, ↓fX10_load_274, ↓fX10_load_275, ↓fX10_load_278, ↓fX10_load_279, ↓fX10_load_282, x21, x21', x21'', x22', eG6, z00, z01, ↓m_refuse hm, eG9, and_self, true_and, and_true, false_and, and_false, not_true_eq_false, not_false_eq_true, or_self, true_or, or_true, false_or, or_false, ite_not, Decidable.not_not, decide_eq_true_eq, Bool.not_true, Bool.not_false, Bool.false_eq_true, Bool.not_eq_true, n10, n20, n21, n30, n31, n32, n40, n41, n42, n43, ↓reduceIte]
end BM
