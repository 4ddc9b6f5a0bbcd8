/-! The reference's reader: a list's line. -/
/-- a list's cells -/
def lsF (b0 i : Nat) (g : Nat → Int) (C : Nat → Int) : Nat → Int := fun q => if q = b0 then (i : Int) else if b0 + 1 ≤ q ∧ q < b0 + 1 + i then g (q - b0 - 1) else C q
def prY (G L G' L' : Nat → Nat → Int) (m : Nat) : Prop := (∀ x, x ≠ m → x ≠ m + 6 → G' x = G x) ∧ (∀ j, ¬ (21 ≤ j ∧ j ≤ 26) → G' m j = G m j) ∧ (∀ x, x ≠ m → L' x = L x) ∧ ∀ j, j ≠ 30 → L' m j = L m j
def llS (B : Int → Int) (n : Int) (k i : Nat) (g : Nat → Int) (le_ : Int) (T : TkT) : StT := match rdLL B n k i g le_ T with
  | .error e => .error e
  | .ok (_, _, T3) => .ok T3
def hdL1 (B : Int → Int) (n : Int) (cl : Nat) (T : TkT) : StT := nxS B n (mustS (.ok T) (if cl < 3 then 1 else 0) 5)
def lsS (B : Int → Int) (n : Int) (f g : Nat → Int) (c cl : Nat) (T : TkT) : StT := match nmT B n f g c (hdL1 B n cl T) with
  | .error e => .error e
  | .ok T2 => llS B n 11 0 (fun _ => 0) 0 T2
def lsP (B : Int → Int) (n : Int) (f g : Nat → Int) (c cl : Nat) (T : TkT) (x : Except ER (Nat × (Nat → Int) × TkT)) : Prop := match x with
  | .error e => fiS B n (lsS B n f g c cl T) = .error e
  | .ok (i, g', T4) => fiS B n (lsS B n f g c cl T) = .ok T4 ∧ cl < 3 ∧ ∃ T2 T3, nmT B n f g c (hdL1 B n cl T) = .ok T2 ∧ rdLL B n 11 0 (fun _ => 0) 0 T2 = .ok (i, g', T3)
theorem ls_pure (B : Int → Int) (n : Int) (f g : Nat → Int) (c cl : Nat) (T : TkT) : lsP B n f g c cl T (rdList B n f g c cl T) := by
  unfold rdList
  by_cases h4 : 3 ≤ cl
  · rw [if_pos h4]
    have e1 : hdL1 B n cl T = .error (5, T) := by
      unfold hdL1
      rw [if_neg (by omega)]
      rfl
    show fiS B n (lsS B n f g c cl T) = .error (5, T)
    unfold lsS
    rw [e1]
    rfl
  · rw [if_neg h4]
    have e1 : hdL1 B n cl T = .ok (nxT B n T.2.2.1) := by
      unfold hdL1
      rw [if_pos (by omega)]
      rfl
    have e2 : nmT B n f g c (hdL1 B n cl T) = rdName B n f g c (nxT B n T.2.2.1) := by rw [e1]; rfl
    cases q1 : rdName B n f g c (nxT B n T.2.2.1) with
    | error e =>
      show fiS B n (lsS B n f g c cl T) = .error e
      unfold lsS
      rw [e2, q1]
      rfl
    | ok T2 =>
      rw [q1] at e2
      dsimp only
      have e3 : lsS B n f g c cl T = llS B n 11 0 (fun _ => 0) 0 T2 := by
        unfold lsS
        rw [e2]
      unfold llS at e3
      cases q2 : rdLL B n 11 0 (fun _ => 0) 0 T2 with
      | error e =>
        rw [q2] at e3
        show fiS B n (lsS B n f g c cl T) = .error e
        rw [e3]
        rfl
      | ok p =>
        obtain ⟨i, g', T3⟩ := p
        rw [q2] at e3
        dsimp only at e3 ⊢
        have e4 : fiS B n (lsS B n f g c cl T) = rdSign B n T3 := by
          rw [e3]
          exact fiS_ok B n T3
        cases q3 : rdSign B n T3 with
        | error e =>
          rw [q3] at e4
          exact e4
        | ok T4 =>
          rw [q3] at e4
          exact ⟨e4, by omega, T2, T3, e2, q2⟩
section BM
variable {E : AE} {G G1 G2 G' L L' L1 L2 : Nat → Nat → Int} {r : Nat → Nat → Option Nat} {h : AH} {Q : AH → Value → Prop} {m M c cl b0 : Nat} {B : Int → Int} {T : TkT} {st : StT} {f g C : Nat → Int} {s e y x w i p v lo hi t b d n ki : Int}
theorem prY.rf (G L : Nat → Nat → Int) (m : Nat) : prY G L G L m := ⟨fun _ _ _ => rfl, fun _ _ => rfl, fun _ _ => rfl, fun _ _ => rfl⟩
theorem prY.trans (h1 : prY G L G1 L1 m) (h2 : prY G1 L1 G2 L2 m) : prY G L G2 L2 m := ⟨fun x a b => (h2.1 x a b).trans (h1.1 x a b), fun j a => (h2.2.1 j a).trans (h1.2.1 j a), fun x a => (h2.2.2.1 x a).trans (h1.2.2.1 x a), fun j a => (h2.2.2.2 j a).trans (h1.2.2.2 j a)⟩
theorem prY_W (h : prW G L G1 L1 m) : prY G L G1 L1 m := ⟨fun x a _ => h.1 x a, h.2.1, h.2.2.1, h.2.2.2⟩
theorem prQ_Y (h : prY G L G1 L1 m) : prQ G L G1 L1 m := ⟨fun x a _ b => h.1 x a b, fun j a _ _ _ => h.2.1 j a, fun x a _ => h.2.2.1 x a, h.2.2.2⟩
theorem prY_6 {q : Nat} : prY G L (u2 G (m + 6) q v) L m := ⟨fun x a b => u2_a _ _ _ _ b, fun j a => by rw [u2_a _ _ _ _ (by omega)], fun _ _ => rfl, fun _ _ => rfl⟩
theorem rdS_6 {q : Nat} (hS : rdS G L m B n st) : rdS (u2 G (m + 6) q v) L m B n st := rdS_c hS (fun j _ _ => by rw [u2_a _ _ _ _ (by omega)]) (u2_a _ _ _ _ (by omega)) rfl
theorem lsF_up {i : Nat} : (fun q => if q = b0 + (i + 1) then v else if q = b0 then (i : Int) + 1 else lsF b0 i g C q) = lsF b0 (i + 1) (upN g i v) C := by
  funext q
  unfold lsF upN
  by_cases c1 : q = b0 + (i + 1)
  · rw [if_pos c1, if_neg (by omega), if_pos (by omega), if_pos (by omega)]
  · rw [if_neg c1]
    by_cases c2 : q = b0
    · rw [if_pos c2, if_pos c2]
      omega
    · rw [if_neg c2, if_neg c2, if_neg c2]
      by_cases c4 : b0 + 1 ≤ q ∧ q < b0 + 1 + i
      · rw [if_pos c4, if_pos (by omega), if_neg (by omega)]
      · rw [if_neg c4, if_neg (by omega)]
/-- number after number, each above the last -/
theorem rl_list (hm : shM E r m) (hb0 : b0 ≤ 22) : ∀ (k i : Nat) (g : Nat → Int) (u : Int) (T : TkT) (G L : Nat → Nat → Int), i + k = 11 → i ≤ 10 → (-1 ≤ u ∧ u ≤ 9999) → rdS G L m B n (.ok T) → G (m + 6) = lsF b0 i g C → (0 ≤ G m 29 ∧ G m 29 ≤ 3) →
    ∃ G' L', prY G L G' L' m ∧ rdS G' L' m B n (llS B n k i g (u + 1) T) ∧ ((∃ c' g' T', rdLL B n k i g (u + 1) T = .ok (c', g', T') ∧ c' ≤ 10 ∧ G' (m + 6) = lsF b0 c' g' C ∧ ∀ Q, RK MX10_readsList 51 [.ref m, .int (zi (b0 : Int)), .int (zi u)] [] (0, 0) (E, zg G, zk L, r) Q = Q (E, zg (u2 G' m 29 (G' m 29 + 1)), zk L', r) .null) ∨ ∃ e, rdLL B n k i g (u + 1) T = .error e ∧ ∀ Q, RK MX10_readsList 51 [.ref m, .int (zi (b0 : Int)), .int (zi u)] [] (0, 0) (E, zg G, zk L, r) Q = Q (E, zg G', zk L', r) .null) := by
  have m0 := hm.1
  obtain ⟨ka6, la6, ra6⟩ := hm.2.2.2.2.2.2.1
  intro k
  induction k with
  | zero => intro i g u T G L h1 h2; omega
  | succ k ih =>
    intro i g u T G L h1 h2 hu hS hC h29
    obtain ⟨t1, t2, t3, t4, t4b, t6, t7, t8⟩ := id hS
    have sb := srM_b t8.1
    have e25 := t7.2.1
    have g1 : ∀ Q, RK MX10_good 0 [.ref m] [] (0, 0) (E, zg G, zk L, r) Q = Q (E, zg G, zk L, r) (.int (zi 1)) := fun Q => m_good hm hS
    have i0 : ((b0 : Int)).toNat = b0 := by omega
    have a7 : G (m + 6) b0 = i := by
      rw [hC]
      unfold lsF
      rw [if_pos rfl]
    by_cases c0 : 0 < i ∧ ¬ T.1 = 3
    · have er : rdLL B n (k + 1) i g (u + 1) T = .ok (i, g, T) := by rw [rdLL, if_pos c0]
      have es : llS B n (k + 1) i g (u + 1) T = .ok T := by
        unfold llS
        rw [er]
      have z1 : ¬ (i : Int) = 0 := by omega
      have z2 : ¬ G m 25 = 2 := by rw [e25]; exact fun z => c0.2 (sb.2.2.2.1.mp z)
      refine ⟨G, L, prY.rf _ _ _, by rw [es]; exact hS, Or.inl ⟨i, g, T, er, h2, hC, fun Q => ?_⟩⟩
      rw [fX10_readsList_51]
      simp (disch := first | assumption | exact c2_int _ | exact c2_ref _ | exact c2_jk | exact c2_null | omega | exact bI_r _ | exact bI_01 _) only [↓fX10_readsList_0, ↓fX10_readsList_1, ↓fX10_readsList_2, ↓fX10_readsList_5, ↓fX10_readsList_6, ↓fX10_readsList_9, ↓fX10_readsList_10, ↓fX10_readsList_13, ↓fX10_readsList_14, ↓fX10_readsList_15, ↓fX10_readsList_18, ↓fX10_readsList_19, ↓fX10_readsList_22, ↓fX10_readsList_23, ↓fX10_readsList_26, ↓fX10_readsList_27, ↓fX10_readsList_30, ↓fX10_readsList_33, ↓fX10_readsList_34, ↓fX10_readsList_36, ↓fX10_readsList_37, ↓fX10_readsList_40, ↓fX10_readsList_41, ↓fX10_readsList_42, ↓fX10_readsList_43, ↓fX10_readsList_46, ↓fX10_readsList_47, ↓fX10_readsList_48, ↓fX10_readsList_49, ↓fX10_readsList_50, ↓fX10_readsList_52, ↓fX10_readsList_55, ↓fX10_readsList_58, ↓fX10_readsList_59, ↓fX10_readsList_62, ↓fX10_readsList_63, ↓fX10_readsList_64, ↓fX10_readsList_67, ↓fX10_readsList_68, ↓fX10_readsList_71, ↓fX10_readsList_72, ↓fX10_readsList_75, ↓fX10_readsList_76, ↓fX10_readsList_77, ↓fX10_readsList_80, ↓fX10_readsList_81, ↓fX10_readsList_84, ↓fX10_readsList_85, ↓fX10_readsList_88, ↓fX10_readsList_89, ↓fX10_readsList_90, ↓fX10_readsList_93, ↓fX10_readsList_94, ↓fX10_readsList_95, ↓fX10_readsList_98, ↓fX10_readsList_99, ↓fX10_readsList_100, ↓fX10_readsList_101, ↓fX10_readsList_102, ↓fX10_readsList_103, ↓fX10_readsList_106, ↓fX10_readsList_109, ↓fX10_readsList_110, ↓fX10_readsList_113, ↓fX10_readsList_114, ↓fX10_readsList_115, ↓fX10_readsList_118, ↓fX10_readsList_119, ↓fX10_readsList_120, ↓fX10_readsList_122, ↓fX10_readsList_125, ↓fX10_readsList_126, ↓fX10_readsList_129, ↓fX10_readsList_130, ↓fX10_readsList_131, ↓fX10_readsList_134, ↓fX10_readsList_135, ↓fX10_readsList_138, ↓fX10_readsList_141, ↓fX10_readsList_142, ↓fX10_readsList_143, ↓fX10_readsList_146, ↓fX10_readsList_147, ↓fX10_readsList_148, ↓fX10_readsList_151, ↓fX10_readsList_152, ↓fX10_readsList_153, ↓fX10_readsList_154, ↓fX10_readsList_155, ↓fX10_readsList_156, ↓fX10_readsList_157, ↓fX10_readsList_158, ↓fX10_readsList_161, ↓fX10_readsList_162, ↓fX10_readsList_163, ↓fX10_readsList_166, ↓fX10_readsList_167, ↓fX10_readsList_168, ↓fX10_readsList_169, ↓fX10_readsList_170, ↓fX10_readsList_173, ↓fX10_readsList_174, ↓fX10_readsList_175, ↓fX10_readsList_178, ↓fX10_readsList_181, ↓fX10_readsList_182, ↓fX10_readsList_183, ↓fX10_readsList_186, ↓fX10_readsList_187, ↓fX10_readsList_188, ↓fX10_readsList_191, ↓g1, i0, a7, z1, z2, and_self, true_and, and_true, false_and, and_false, not_true_eq_false, not_false_eq_true, or_self, true_or, or_true, false_or, or_false, ite_not, Decidable.not_not, decide_eq_true_eq, Bool.not_true, Bool.not_false, Bool.false_eq_true, Bool.not_eq_true, n10, n20, n21, n30, n31, n32, n40, n41, n42, n43, ↓reduceIte]
    · -- a number must stand
      have hc1 : ∃ c1 : Int, (c1 = 0 ∨ c1 = 1) ∧ (c1 = 1 ↔ T.1 = 3) := by
        by_cases q : T.1 = 3
        · exact ⟨1, Or.inr rfl, ⟨fun _ => q, fun _ => rfl⟩⟩
        · exact ⟨0, Or.inl rfl, ⟨fun z => absurd z (by decide), fun z => absurd z q⟩⟩
      obtain ⟨c1, d1, d2⟩ := hc1
      obtain ⟨G1, f1, s1, j1, e1⟩ := m_must (y := 2) hm hS d1 (by decide)
      have k26 := j1 26 (by decide) (by decide)
      have hin := bI_01 (u + 1 ≤ G m 26 ∧ G m 26 ≤ 9999)
      obtain ⟨G2, f2, s2, j2, e2⟩ := m_must (y := 3) hm s1 hin (by decide)
      have l26 : G2 m 26 = G m 26 := (j2 26 (by decide) (by decide)).trans k26
      have hc3 : ∃ c3 : Int, (c3 = 0 ∨ c3 = 1) ∧ (c3 = 1 ↔ i < 10) := by
        by_cases q : i < 10
        · exact ⟨1, Or.inr rfl, ⟨fun _ => q, fun _ => rfl⟩⟩
        · exact ⟨0, Or.inl rfl, ⟨fun z => absurd z (by decide), fun z => absurd z q⟩⟩
      obtain ⟨c3, d3, d4⟩ := hc3
      obtain ⟨G3, f3, s3, j3, e3⟩ := m_must (y := 5) hm s2 d3 (by decide)
      have m26 : G3 m 26 = G m 26 := (j3 26 (by decide) (by decide)).trans l26
      have x2 : G2 (m + 6) = G (m + 6) := (f2.1 _ (by omega)).trans (f1.1 _ (by omega))
      have x3 : G3 (m + 6) = G (m + 6) := (f3.1 _ (by omega)).trans x2
      have a72 : G2 (m + 6) b0 = i := by rw [x2, a7]
      have fr3 := (f1.trans f2).trans f3
      have g3 := fun Q => m_good (Q := Q) hm s3
      have head : ∀ Q, RK MX10_readsList 51 [.ref m, .int (zi (b0 : Int)), .int (zi u)] [] (0, 0) (E, zg G, zk L, r) Q = RK MX10_readsList 134 [.ref m, .int (zi (b0 : Int)), .int (zi u)] [] (0, 0) (E, zg G3, zk L, r) Q := fun Q => by
        have h0 : RK MX10_readsList 51 [.ref m, .int (zi (b0 : Int)), .int (zi u)] [] (0, 0) (E, zg G, zk L, r) Q = RK MX10_readsList 75 [.ref m, .int (zi (b0 : Int)), .int (zi u)] [] (0, 0) (E, zg G, zk L, r) Q := by
          rw [fX10_readsList_51]
          by_cases z1 : (i : Int) = 0
          · simp (disch := first | assumption | exact c2_int _ | exact c2_ref _ | exact c2_jk | exact c2_null | omega | exact bI_r _ | exact bI_01 _) only [↓fX10_readsList_0, ↓fX10_readsList_1, ↓fX10_readsList_2, ↓fX10_readsList_5, ↓fX10_readsList_6, ↓fX10_readsList_9, ↓fX10_readsList_10, ↓fX10_readsList_13, ↓fX10_readsList_14, ↓fX10_readsList_15, ↓fX10_readsList_18, ↓fX10_readsList_19, ↓fX10_readsList_22, ↓fX10_readsList_23, ↓fX10_readsList_26, ↓fX10_readsList_27, ↓fX10_readsList_30, ↓fX10_readsList_33, ↓fX10_readsList_34, ↓fX10_readsList_36, ↓fX10_readsList_37, ↓fX10_readsList_40, ↓fX10_readsList_41, ↓fX10_readsList_42, ↓fX10_readsList_43, ↓fX10_readsList_46, ↓fX10_readsList_47, ↓fX10_readsList_48, ↓fX10_readsList_49, ↓fX10_readsList_50, ↓fX10_readsList_52, ↓fX10_readsList_55, ↓fX10_readsList_58, ↓fX10_readsList_59, ↓fX10_readsList_62, ↓fX10_readsList_63, ↓fX10_readsList_64, ↓fX10_readsList_67, ↓fX10_readsList_68, ↓fX10_readsList_71, ↓fX10_readsList_72, ↓fX10_readsList_76, ↓fX10_readsList_77, ↓fX10_readsList_80, ↓fX10_readsList_81, ↓fX10_readsList_84, ↓fX10_readsList_85, ↓fX10_readsList_88, ↓fX10_readsList_89, ↓fX10_readsList_90, ↓fX10_readsList_93, ↓fX10_readsList_94, ↓fX10_readsList_95, ↓fX10_readsList_98, ↓fX10_readsList_99, ↓fX10_readsList_100, ↓fX10_readsList_101, ↓fX10_readsList_102, ↓fX10_readsList_103, ↓fX10_readsList_106, ↓fX10_readsList_109, ↓fX10_readsList_110, ↓fX10_readsList_113, ↓fX10_readsList_114, ↓fX10_readsList_115, ↓fX10_readsList_118, ↓fX10_readsList_119, ↓fX10_readsList_120, ↓fX10_readsList_122, ↓fX10_readsList_125, ↓fX10_readsList_126, ↓fX10_readsList_129, ↓fX10_readsList_130, ↓fX10_readsList_131, ↓fX10_readsList_134, ↓fX10_readsList_135, ↓fX10_readsList_138, ↓fX10_readsList_141, ↓fX10_readsList_142, ↓fX10_readsList_143, ↓fX10_readsList_146, ↓fX10_readsList_147, ↓fX10_readsList_148, ↓fX10_readsList_151, ↓fX10_readsList_152, ↓fX10_readsList_153, ↓fX10_readsList_154, ↓fX10_readsList_155, ↓fX10_readsList_156, ↓fX10_readsList_157, ↓fX10_readsList_158, ↓fX10_readsList_161, ↓fX10_readsList_162, ↓fX10_readsList_163, ↓fX10_readsList_166, ↓fX10_readsList_167, ↓fX10_readsList_168, ↓fX10_readsList_169, ↓fX10_readsList_170, ↓fX10_readsList_173, ↓fX10_readsList_174, ↓fX10_readsList_175, ↓fX10_readsList_178, ↓fX10_readsList_181, ↓fX10_readsList_182, ↓fX10_readsList_183, ↓fX10_readsList_186, ↓fX10_readsList_187, ↓fX10_readsList_188, ↓fX10_readsList_191, ↓g1, i0, a7, z1, and_self, true_and, and_true, false_and, and_false, not_true_eq_false, not_false_eq_true, or_self, true_or, or_true, false_or, or_false, ite_not, Decidable.not_not, decide_eq_true_eq, Bool.not_true, Bool.not_false, Bool.false_eq_true, Bool.not_eq_true, n10, n20, n21, n30, n31, n32, n40, n41, n42, n43, ↓reduceIte]
          · have z2 : G m 25 = 2 := by
              rw [e25]
              refine sb.2.2.2.1.mpr ?_
              by_cases q : T.1 = 3
              · exact q
              · exact absurd ⟨by omega, q⟩ c0
            simp (disch := first | assumption | exact c2_int _ | exact c2_ref _ | exact c2_jk | exact c2_null | omega | exact bI_r _ | exact bI_01 _) only [↓fX10_readsList_0, ↓fX10_readsList_1, ↓fX10_readsList_2, ↓fX10_readsList_5, ↓fX10_readsList_6, ↓fX10_readsList_9, ↓fX10_readsList_10, ↓fX10_readsList_13, ↓fX10_readsList_14, ↓fX10_readsList_15, ↓fX10_readsList_18, ↓fX10_readsList_19, ↓fX10_readsList_22, ↓fX10_readsList_23, ↓fX10_readsList_26, ↓fX10_readsList_27, ↓fX10_readsList_30, ↓fX10_readsList_33, ↓fX10_readsList_34, ↓fX10_readsList_36, ↓fX10_readsList_37, ↓fX10_readsList_40, ↓fX10_readsList_41, ↓fX10_readsList_42, ↓fX10_readsList_43, ↓fX10_readsList_46, ↓fX10_readsList_47, ↓fX10_readsList_48, ↓fX10_readsList_49, ↓fX10_readsList_50, ↓fX10_readsList_52, ↓fX10_readsList_55, ↓fX10_readsList_58, ↓fX10_readsList_59, ↓fX10_readsList_62, ↓fX10_readsList_63, ↓fX10_readsList_64, ↓fX10_readsList_67, ↓fX10_readsList_68, ↓fX10_readsList_71, ↓fX10_readsList_72, ↓fX10_readsList_76, ↓fX10_readsList_77, ↓fX10_readsList_80, ↓fX10_readsList_81, ↓fX10_readsList_84, ↓fX10_readsList_85, ↓fX10_readsList_88, ↓fX10_readsList_89, ↓fX10_readsList_90, ↓fX10_readsList_93, ↓fX10_readsList_94, ↓fX10_readsList_95, ↓fX10_readsList_98, ↓fX10_readsList_99, ↓fX10_readsList_100, ↓fX10_readsList_101, ↓fX10_readsList_102, ↓fX10_readsList_103, ↓fX10_readsList_106, ↓fX10_readsList_109, ↓fX10_readsList_110, ↓fX10_readsList_113, ↓fX10_readsList_114, ↓fX10_readsList_115, ↓fX10_readsList_118, ↓fX10_readsList_119, ↓fX10_readsList_120, ↓fX10_readsList_122, ↓fX10_readsList_125, ↓fX10_readsList_126, ↓fX10_readsList_129, ↓fX10_readsList_130, ↓fX10_readsList_131, ↓fX10_readsList_134, ↓fX10_readsList_135, ↓fX10_readsList_138, ↓fX10_readsList_141, ↓fX10_readsList_142, ↓fX10_readsList_143, ↓fX10_readsList_146, ↓fX10_readsList_147, ↓fX10_readsList_148, ↓fX10_readsList_151, ↓fX10_readsList_152, ↓fX10_readsList_153, ↓fX10_readsList_154, ↓fX10_readsList_155, ↓fX10_readsList_156, ↓fX10_readsList_157, ↓fX10_readsList_158, ↓fX10_readsList_161, ↓fX10_readsList_162, ↓fX10_readsList_163, ↓fX10_readsList_166, ↓fX10_readsList_167, ↓fX10_readsList_168, ↓fX10_readsList_169, ↓fX10_readsList_170, ↓fX10_readsList_173, ↓fX10_readsList_174, ↓fX10_readsList_175, ↓fX10_readsList_178, ↓fX10_readsList_181, ↓fX10_readsList_182, ↓fX10_readsList_183, ↓fX10_readsList_186, ↓fX10_readsList_187, ↓fX10_readsList_188, ↓fX10_readsList_191, ↓g1, i0, a7, z1, z2, and_self, true_and, and_true, false_and, and_false, not_true_eq_false, not_false_eq_true, or_self, true_or, or_true, false_or, or_false, ite_not, Decidable.not_not, decide_eq_true_eq, Bool.not_true, Bool.not_false, Bool.false_eq_true, Bool.not_eq_true, n10, n20, n21, n30, n31, n32, n40, n41, n42, n43, ↓reduceIte]
        have h1 : RK MX10_readsList 75 [.ref m, .int (zi (b0 : Int)), .int (zi u)] [] (0, 0) (E, zg G, zk L, r) Q = RK MX10_readsList 89 [.ref m, .int (zi (b0 : Int)), .int (zi u)] [.int (zi c1), .ref m] (0, 0) (E, zg G, zk L, r) Q := by
          by_cases q : T.1 = 3
          · have e := d2.mpr q
            subst e
            have z2 : G m 25 = 2 := by rw [e25]; exact sb.2.2.2.1.mpr q
            simp (disch := first | assumption | exact c2_int _ | exact c2_ref _ | exact c2_jk | exact c2_null | omega | exact bI_r _ | exact bI_01 _) only [↓fX10_readsList_0, ↓fX10_readsList_1, ↓fX10_readsList_2, ↓fX10_readsList_5, ↓fX10_readsList_6, ↓fX10_readsList_9, ↓fX10_readsList_10, ↓fX10_readsList_13, ↓fX10_readsList_14, ↓fX10_readsList_15, ↓fX10_readsList_18, ↓fX10_readsList_19, ↓fX10_readsList_22, ↓fX10_readsList_23, ↓fX10_readsList_26, ↓fX10_readsList_27, ↓fX10_readsList_30, ↓fX10_readsList_33, ↓fX10_readsList_34, ↓fX10_readsList_36, ↓fX10_readsList_37, ↓fX10_readsList_40, ↓fX10_readsList_41, ↓fX10_readsList_42, ↓fX10_readsList_43, ↓fX10_readsList_46, ↓fX10_readsList_47, ↓fX10_readsList_48, ↓fX10_readsList_49, ↓fX10_readsList_50, ↓fX10_readsList_51, ↓fX10_readsList_52, ↓fX10_readsList_55, ↓fX10_readsList_58, ↓fX10_readsList_59, ↓fX10_readsList_62, ↓fX10_readsList_63, ↓fX10_readsList_64, ↓fX10_readsList_67, ↓fX10_readsList_68, ↓fX10_readsList_71, ↓fX10_readsList_72, ↓fX10_readsList_75, ↓fX10_readsList_76, ↓fX10_readsList_77, ↓fX10_readsList_80, ↓fX10_readsList_81, ↓fX10_readsList_84, ↓fX10_readsList_85, ↓fX10_readsList_88, ↓fX10_readsList_90, ↓fX10_readsList_93, ↓fX10_readsList_94, ↓fX10_readsList_95, ↓fX10_readsList_98, ↓fX10_readsList_99, ↓fX10_readsList_100, ↓fX10_readsList_101, ↓fX10_readsList_102, ↓fX10_readsList_103, ↓fX10_readsList_106, ↓fX10_readsList_109, ↓fX10_readsList_110, ↓fX10_readsList_113, ↓fX10_readsList_114, ↓fX10_readsList_115, ↓fX10_readsList_118, ↓fX10_readsList_119, ↓fX10_readsList_120, ↓fX10_readsList_122, ↓fX10_readsList_125, ↓fX10_readsList_126, ↓fX10_readsList_129, ↓fX10_readsList_130, ↓fX10_readsList_131, ↓fX10_readsList_134, ↓fX10_readsList_135, ↓fX10_readsList_138, ↓fX10_readsList_141, ↓fX10_readsList_142, ↓fX10_readsList_143, ↓fX10_readsList_146, ↓fX10_readsList_147, ↓fX10_readsList_148, ↓fX10_readsList_151, ↓fX10_readsList_152, ↓fX10_readsList_153, ↓fX10_readsList_154, ↓fX10_readsList_155, ↓fX10_readsList_156, ↓fX10_readsList_157, ↓fX10_readsList_158, ↓fX10_readsList_161, ↓fX10_readsList_162, ↓fX10_readsList_163, ↓fX10_readsList_166, ↓fX10_readsList_167, ↓fX10_readsList_168, ↓fX10_readsList_169, ↓fX10_readsList_170, ↓fX10_readsList_173, ↓fX10_readsList_174, ↓fX10_readsList_175, ↓fX10_readsList_178, ↓fX10_readsList_181, ↓fX10_readsList_182, ↓fX10_readsList_183, ↓fX10_readsList_186, ↓fX10_readsList_187, ↓fX10_readsList_188, ↓fX10_readsList_191, z2, and_self, true_and, and_true, false_and, and_false, not_true_eq_false, not_false_eq_true, or_self, true_or, or_true, false_or, or_false, ite_not, Decidable.not_not, decide_eq_true_eq, Bool.not_true, Bool.not_false, Bool.false_eq_true, Bool.not_eq_true, n10, n20, n21, n30, n31, n32, n40, n41, n42, n43, ↓reduceIte]
          · have e : c1 = 0 := by
              rcases d1 with z | z
              · exact z
              · exact absurd (d2.mp z) q
            subst e
            have z2 : ¬ G m 25 = 2 := by rw [e25]; exact fun z => q (sb.2.2.2.1.mp z)
            simp (disch := first | assumption | exact c2_int _ | exact c2_ref _ | exact c2_jk | exact c2_null | omega | exact bI_r _ | exact bI_01 _) only [↓fX10_readsList_0, ↓fX10_readsList_1, ↓fX10_readsList_2, ↓fX10_readsList_5, ↓fX10_readsList_6, ↓fX10_readsList_9, ↓fX10_readsList_10, ↓fX10_readsList_13, ↓fX10_readsList_14, ↓fX10_readsList_15, ↓fX10_readsList_18, ↓fX10_readsList_19, ↓fX10_readsList_22, ↓fX10_readsList_23, ↓fX10_readsList_26, ↓fX10_readsList_27, ↓fX10_readsList_30, ↓fX10_readsList_33, ↓fX10_readsList_34, ↓fX10_readsList_36, ↓fX10_readsList_37, ↓fX10_readsList_40, ↓fX10_readsList_41, ↓fX10_readsList_42, ↓fX10_readsList_43, ↓fX10_readsList_46, ↓fX10_readsList_47, ↓fX10_readsList_48, ↓fX10_readsList_49, ↓fX10_readsList_50, ↓fX10_readsList_51, ↓fX10_readsList_52, ↓fX10_readsList_55, ↓fX10_readsList_58, ↓fX10_readsList_59, ↓fX10_readsList_62, ↓fX10_readsList_63, ↓fX10_readsList_64, ↓fX10_readsList_67, ↓fX10_readsList_68, ↓fX10_readsList_71, ↓fX10_readsList_72, ↓fX10_readsList_75, ↓fX10_readsList_76, ↓fX10_readsList_77, ↓fX10_readsList_80, ↓fX10_readsList_81, ↓fX10_readsList_84, ↓fX10_readsList_85, ↓fX10_readsList_88, ↓fX10_readsList_90, ↓fX10_readsList_93, ↓fX10_readsList_94, ↓fX10_readsList_95, ↓fX10_readsList_98, ↓fX10_readsList_99, ↓fX10_readsList_100, ↓fX10_readsList_101, ↓fX10_readsList_102, ↓fX10_readsList_103, ↓fX10_readsList_106, ↓fX10_readsList_109, ↓fX10_readsList_110, ↓fX10_readsList_113, ↓fX10_readsList_114, ↓fX10_readsList_115, ↓fX10_readsList_118, ↓fX10_readsList_119, ↓fX10_readsList_120, ↓fX10_readsList_122, ↓fX10_readsList_125, ↓fX10_readsList_126, ↓fX10_readsList_129, ↓fX10_readsList_130, ↓fX10_readsList_131, ↓fX10_readsList_134, ↓fX10_readsList_135, ↓fX10_readsList_138, ↓fX10_readsList_141, ↓fX10_readsList_142, ↓fX10_readsList_143, ↓fX10_readsList_146, ↓fX10_readsList_147, ↓fX10_readsList_148, ↓fX10_readsList_151, ↓fX10_readsList_152, ↓fX10_readsList_153, ↓fX10_readsList_154, ↓fX10_readsList_155, ↓fX10_readsList_156, ↓fX10_readsList_157, ↓fX10_readsList_158, ↓fX10_readsList_161, ↓fX10_readsList_162, ↓fX10_readsList_163, ↓fX10_readsList_166, ↓fX10_readsList_167, ↓fX10_readsList_168, ↓fX10_readsList_169, ↓fX10_readsList_170, ↓fX10_readsList_173, ↓fX10_readsList_174, ↓fX10_readsList_175, ↓fX10_readsList_178, ↓fX10_readsList_181, ↓fX10_readsList_182, ↓fX10_readsList_183, ↓fX10_readsList_186, ↓fX10_readsList_187, ↓fX10_readsList_188, ↓fX10_readsList_191, z2, and_self, true_and, and_true, false_and, and_false, not_true_eq_false, not_false_eq_true, or_self, true_or, or_true, false_or, or_false, ite_not, Decidable.not_not, decide_eq_true_eq, Bool.not_true, Bool.not_false, Bool.false_eq_true, Bool.not_eq_true, n10, n20, n21, n30, n31, n32, n40, n41, n42, n43, ↓reduceIte]
        have h2 : RK MX10_readsList 113 [.ref m, .int (zi (b0 : Int)), .int (zi u)] [] (0, 0) (E, zg G2, zk L, r) Q = RK MX10_readsList 130 [.ref m, .int (zi (b0 : Int)), .int (zi u)] [.int (zi c3), .ref m] (0, 0) (E, zg G2, zk L, r) Q := by
          by_cases q : i < 10
          · have e := d4.mpr q
            subst e
            have z2 : (i : Int) < 10 := by omega
            simp (disch := first | assumption | exact c2_int _ | exact c2_ref _ | exact c2_jk | exact c2_null | omega | exact bI_r _ | exact bI_01 _) only [↓fX10_readsList_0, ↓fX10_readsList_1, ↓fX10_readsList_2, ↓fX10_readsList_5, ↓fX10_readsList_6, ↓fX10_readsList_9, ↓fX10_readsList_10, ↓fX10_readsList_13, ↓fX10_readsList_14, ↓fX10_readsList_15, ↓fX10_readsList_18, ↓fX10_readsList_19, ↓fX10_readsList_22, ↓fX10_readsList_23, ↓fX10_readsList_26, ↓fX10_readsList_27, ↓fX10_readsList_30, ↓fX10_readsList_33, ↓fX10_readsList_34, ↓fX10_readsList_36, ↓fX10_readsList_37, ↓fX10_readsList_40, ↓fX10_readsList_41, ↓fX10_readsList_42, ↓fX10_readsList_43, ↓fX10_readsList_46, ↓fX10_readsList_47, ↓fX10_readsList_48, ↓fX10_readsList_49, ↓fX10_readsList_50, ↓fX10_readsList_51, ↓fX10_readsList_52, ↓fX10_readsList_55, ↓fX10_readsList_58, ↓fX10_readsList_59, ↓fX10_readsList_62, ↓fX10_readsList_63, ↓fX10_readsList_64, ↓fX10_readsList_67, ↓fX10_readsList_68, ↓fX10_readsList_71, ↓fX10_readsList_72, ↓fX10_readsList_75, ↓fX10_readsList_76, ↓fX10_readsList_77, ↓fX10_readsList_80, ↓fX10_readsList_81, ↓fX10_readsList_84, ↓fX10_readsList_85, ↓fX10_readsList_88, ↓fX10_readsList_89, ↓fX10_readsList_90, ↓fX10_readsList_93, ↓fX10_readsList_94, ↓fX10_readsList_95, ↓fX10_readsList_98, ↓fX10_readsList_99, ↓fX10_readsList_100, ↓fX10_readsList_101, ↓fX10_readsList_102, ↓fX10_readsList_103, ↓fX10_readsList_106, ↓fX10_readsList_109, ↓fX10_readsList_110, ↓fX10_readsList_113, ↓fX10_readsList_114, ↓fX10_readsList_115, ↓fX10_readsList_118, ↓fX10_readsList_119, ↓fX10_readsList_120, ↓fX10_readsList_122, ↓fX10_readsList_125, ↓fX10_readsList_126, ↓fX10_readsList_129, ↓fX10_readsList_131, ↓fX10_readsList_134, ↓fX10_readsList_135, ↓fX10_readsList_138, ↓fX10_readsList_141, ↓fX10_readsList_142, ↓fX10_readsList_143, ↓fX10_readsList_146, ↓fX10_readsList_147, ↓fX10_readsList_148, ↓fX10_readsList_151, ↓fX10_readsList_152, ↓fX10_readsList_153, ↓fX10_readsList_154, ↓fX10_readsList_155, ↓fX10_readsList_156, ↓fX10_readsList_157, ↓fX10_readsList_158, ↓fX10_readsList_161, ↓fX10_readsList_162, ↓fX10_readsList_163, ↓fX10_readsList_166, ↓fX10_readsList_167, ↓fX10_readsList_168, ↓fX10_readsList_169, ↓fX10_readsList_170, ↓fX10_readsList_173, ↓fX10_readsList_174, ↓fX10_readsList_175, ↓fX10_readsList_178, ↓fX10_readsList_181, ↓fX10_readsList_182, ↓fX10_readsList_183, ↓fX10_readsList_186, ↓fX10_readsList_187, ↓fX10_readsList_188, ↓fX10_readsList_191, i0, a72, z2, and_self, true_and, and_true, false_and, and_false, not_true_eq_false, not_false_eq_true, or_self, true_or, or_true, false_or, or_false, ite_not, Decidable.not_not, decide_eq_true_eq, Bool.not_true, Bool.not_false, Bool.false_eq_true, Bool.not_eq_true, n10, n20, n21, n30, n31, n32, n40, n41, n42, n43, ↓reduceIte]
          · have e : c3 = 0 := by
              rcases d3 with z | z
              · exact z
              · exact absurd (d4.mp z) q
            subst e
            have z2 : ¬ (i : Int) < 10 := by omega
            simp (disch := first | assumption | exact c2_int _ | exact c2_ref _ | exact c2_jk | exact c2_null | omega | exact bI_r _ | exact bI_01 _) only [↓fX10_readsList_0, ↓fX10_readsList_1, ↓fX10_readsList_2, ↓fX10_readsList_5, ↓fX10_readsList_6, ↓fX10_readsList_9, ↓fX10_readsList_10, ↓fX10_readsList_13, ↓fX10_readsList_14, ↓fX10_readsList_15, ↓fX10_readsList_18, ↓fX10_readsList_19, ↓fX10_readsList_22, ↓fX10_readsList_23, ↓fX10_readsList_26, ↓fX10_readsList_27, ↓fX10_readsList_30, ↓fX10_readsList_33, ↓fX10_readsList_34, ↓fX10_readsList_36, ↓fX10_readsList_37, ↓fX10_readsList_40, ↓fX10_readsList_41, ↓fX10_readsList_42, ↓fX10_readsList_43, ↓fX10_readsList_46, ↓fX10_readsList_47, ↓fX10_readsList_48, ↓fX10_readsList_49, ↓fX10_readsList_50, ↓fX10_readsList_51, ↓fX10_readsList_52, ↓fX10_readsList_55, ↓fX10_readsList_58, ↓fX10_readsList_59, ↓fX10_readsList_62, ↓fX10_readsList_63, ↓fX10_readsList_64, ↓fX10_readsList_67, ↓fX10_readsList_68, ↓fX10_readsList_71, ↓fX10_readsList_72, ↓fX10_readsList_75, ↓fX10_readsList_76, ↓fX10_readsList_77, ↓fX10_readsList_80, ↓fX10_readsList_81, ↓fX10_readsList_84, ↓fX10_readsList_85, ↓fX10_readsList_88, ↓fX10_readsList_89, ↓fX10_readsList_90, ↓fX10_readsList_93, ↓fX10_readsList_94, ↓fX10_readsList_95, ↓fX10_readsList_98, ↓fX10_readsList_99, ↓fX10_readsList_100, ↓fX10_readsList_101, ↓fX10_readsList_102, ↓fX10_readsList_103, ↓fX10_readsList_106, ↓fX10_readsList_109, ↓fX10_readsList_110, ↓fX10_readsList_113, ↓fX10_readsList_114, ↓fX10_readsList_115, ↓fX10_readsList_118, ↓fX10_readsList_119, ↓fX10_readsList_120, ↓fX10_readsList_122, ↓fX10_readsList_125, ↓fX10_readsList_126, ↓fX10_readsList_129, ↓fX10_readsList_131, ↓fX10_readsList_134, ↓fX10_readsList_135, ↓fX10_readsList_138, ↓fX10_readsList_141, ↓fX10_readsList_142, ↓fX10_readsList_143, ↓fX10_readsList_146, ↓fX10_readsList_147, ↓fX10_readsList_148, ↓fX10_readsList_151, ↓fX10_readsList_152, ↓fX10_readsList_153, ↓fX10_readsList_154, ↓fX10_readsList_155, ↓fX10_readsList_156, ↓fX10_readsList_157, ↓fX10_readsList_158, ↓fX10_readsList_161, ↓fX10_readsList_162, ↓fX10_readsList_163, ↓fX10_readsList_166, ↓fX10_readsList_167, ↓fX10_readsList_168, ↓fX10_readsList_169, ↓fX10_readsList_170, ↓fX10_readsList_173, ↓fX10_readsList_174, ↓fX10_readsList_175, ↓fX10_readsList_178, ↓fX10_readsList_181, ↓fX10_readsList_182, ↓fX10_readsList_183, ↓fX10_readsList_186, ↓fX10_readsList_187, ↓fX10_readsList_188, ↓fX10_readsList_191, i0, a72, z2, and_self, true_and, and_true, false_and, and_false, not_true_eq_false, not_false_eq_true, or_self, true_or, or_true, false_or, or_false, ite_not, Decidable.not_not, decide_eq_true_eq, Bool.not_true, Bool.not_false, Bool.false_eq_true, Bool.not_eq_true, n10, n20, n21, n30, n31, n32, n40, n41, n42, n43, ↓reduceIte]
        rw [h0, h1]
        simp (disch := first | assumption | exact c2_int _ | exact c2_ref _ | exact c2_jk | exact c2_null | omega | exact bI_r _ | exact bI_01 _) only [↓fX10_readsList_0, ↓fX10_readsList_1, ↓fX10_readsList_2, ↓fX10_readsList_5, ↓fX10_readsList_6, ↓fX10_readsList_9, ↓fX10_readsList_10, ↓fX10_readsList_13, ↓fX10_readsList_14, ↓fX10_readsList_15, ↓fX10_readsList_18, ↓fX10_readsList_19, ↓fX10_readsList_22, ↓fX10_readsList_23, ↓fX10_readsList_26, ↓fX10_readsList_27, ↓fX10_readsList_30, ↓fX10_readsList_33, ↓fX10_readsList_34, ↓fX10_readsList_36, ↓fX10_readsList_37, ↓fX10_readsList_40, ↓fX10_readsList_41, ↓fX10_readsList_42, ↓fX10_readsList_43, ↓fX10_readsList_46, ↓fX10_readsList_47, ↓fX10_readsList_48, ↓fX10_readsList_49, ↓fX10_readsList_50, ↓fX10_readsList_51, ↓fX10_readsList_52, ↓fX10_readsList_55, ↓fX10_readsList_58, ↓fX10_readsList_59, ↓fX10_readsList_62, ↓fX10_readsList_63, ↓fX10_readsList_64, ↓fX10_readsList_67, ↓fX10_readsList_68, ↓fX10_readsList_71, ↓fX10_readsList_72, ↓fX10_readsList_75, ↓fX10_readsList_76, ↓fX10_readsList_77, ↓fX10_readsList_80, ↓fX10_readsList_81, ↓fX10_readsList_84, ↓fX10_readsList_85, ↓fX10_readsList_88, ↓fX10_readsList_89, ↓fX10_readsList_90, ↓fX10_readsList_93, ↓fX10_readsList_94, ↓fX10_readsList_95, ↓fX10_readsList_98, ↓fX10_readsList_99, ↓fX10_readsList_100, ↓fX10_readsList_101, ↓fX10_readsList_102, ↓fX10_readsList_103, ↓fX10_readsList_106, ↓fX10_readsList_109, ↓fX10_readsList_110, ↓fX10_readsList_114, ↓fX10_readsList_115, ↓fX10_readsList_118, ↓fX10_readsList_119, ↓fX10_readsList_120, ↓fX10_readsList_122, ↓fX10_readsList_125, ↓fX10_readsList_126, ↓fX10_readsList_129, ↓fX10_readsList_131, ↓fX10_readsList_135, ↓fX10_readsList_138, ↓fX10_readsList_141, ↓fX10_readsList_142, ↓fX10_readsList_143, ↓fX10_readsList_146, ↓fX10_readsList_147, ↓fX10_readsList_148, ↓fX10_readsList_151, ↓fX10_readsList_152, ↓fX10_readsList_153, ↓fX10_readsList_154, ↓fX10_readsList_155, ↓fX10_readsList_156, ↓fX10_readsList_157, ↓fX10_readsList_158, ↓fX10_readsList_161, ↓fX10_readsList_162, ↓fX10_readsList_163, ↓fX10_readsList_166, ↓fX10_readsList_167, ↓fX10_readsList_168, ↓fX10_readsList_169, ↓fX10_readsList_170, ↓fX10_readsList_173, ↓fX10_readsList_174, ↓fX10_readsList_175, ↓fX10_readsList_178, ↓fX10_readsList_181, ↓fX10_readsList_182, ↓fX10_readsList_183, ↓fX10_readsList_186, ↓fX10_readsList_187, ↓fX10_readsList_188, ↓fX10_readsList_191, ↓e1, ↓m_isIn, k26, ↓e2, and_self, true_and, and_true, false_and, and_false, not_true_eq_false, not_false_eq_true, or_self, true_or, or_true, false_or, or_false, ite_not, Decidable.not_not, decide_eq_true_eq, Bool.not_true, Bool.not_false, Bool.false_eq_true, Bool.not_eq_true, n10, n20, n21, n30, n31, n32, n40, n41, n42, n43, ↓reduceIte]
        rw [h2]
        simp (disch := first | assumption | exact c2_int _ | exact c2_ref _ | exact c2_jk | exact c2_null | omega | exact bI_r _ | exact bI_01 _) only [↓fX10_readsList_0, ↓fX10_readsList_1, ↓fX10_readsList_2, ↓fX10_readsList_5, ↓fX10_readsList_6, ↓fX10_readsList_9, ↓fX10_readsList_10, ↓fX10_readsList_13, ↓fX10_readsList_14, ↓fX10_readsList_15, ↓fX10_readsList_18, ↓fX10_readsList_19, ↓fX10_readsList_22, ↓fX10_readsList_23, ↓fX10_readsList_26, ↓fX10_readsList_27, ↓fX10_readsList_30, ↓fX10_readsList_33, ↓fX10_readsList_34, ↓fX10_readsList_36, ↓fX10_readsList_37, ↓fX10_readsList_40, ↓fX10_readsList_41, ↓fX10_readsList_42, ↓fX10_readsList_43, ↓fX10_readsList_46, ↓fX10_readsList_47, ↓fX10_readsList_48, ↓fX10_readsList_49, ↓fX10_readsList_50, ↓fX10_readsList_51, ↓fX10_readsList_52, ↓fX10_readsList_55, ↓fX10_readsList_58, ↓fX10_readsList_59, ↓fX10_readsList_62, ↓fX10_readsList_63, ↓fX10_readsList_64, ↓fX10_readsList_67, ↓fX10_readsList_68, ↓fX10_readsList_71, ↓fX10_readsList_72, ↓fX10_readsList_75, ↓fX10_readsList_76, ↓fX10_readsList_77, ↓fX10_readsList_80, ↓fX10_readsList_81, ↓fX10_readsList_84, ↓fX10_readsList_85, ↓fX10_readsList_88, ↓fX10_readsList_89, ↓fX10_readsList_90, ↓fX10_readsList_93, ↓fX10_readsList_94, ↓fX10_readsList_95, ↓fX10_readsList_98, ↓fX10_readsList_99, ↓fX10_readsList_100, ↓fX10_readsList_101, ↓fX10_readsList_102, ↓fX10_readsList_103, ↓fX10_readsList_106, ↓fX10_readsList_109, ↓fX10_readsList_110, ↓fX10_readsList_113, ↓fX10_readsList_114, ↓fX10_readsList_115, ↓fX10_readsList_118, ↓fX10_readsList_119, ↓fX10_readsList_120, ↓fX10_readsList_122, ↓fX10_readsList_125, ↓fX10_readsList_126, ↓fX10_readsList_129, ↓fX10_readsList_130, ↓fX10_readsList_131, ↓fX10_readsList_135, ↓fX10_readsList_138, ↓fX10_readsList_141, ↓fX10_readsList_142, ↓fX10_readsList_143, ↓fX10_readsList_146, ↓fX10_readsList_147, ↓fX10_readsList_148, ↓fX10_readsList_151, ↓fX10_readsList_152, ↓fX10_readsList_153, ↓fX10_readsList_154, ↓fX10_readsList_155, ↓fX10_readsList_156, ↓fX10_readsList_157, ↓fX10_readsList_158, ↓fX10_readsList_161, ↓fX10_readsList_162, ↓fX10_readsList_163, ↓fX10_readsList_166, ↓fX10_readsList_167, ↓fX10_readsList_168, ↓fX10_readsList_169, ↓fX10_readsList_170, ↓fX10_readsList_173, ↓fX10_readsList_174, ↓fX10_readsList_175, ↓fX10_readsList_178, ↓fX10_readsList_181, ↓fX10_readsList_182, ↓fX10_readsList_183, ↓fX10_readsList_186, ↓fX10_readsList_187, ↓fX10_readsList_188, ↓fX10_readsList_191, ↓e3, and_self, true_and, and_true, false_and, and_false, not_true_eq_false, not_false_eq_true, or_self, true_or, or_true, false_or, or_false, ite_not, Decidable.not_not, decide_eq_true_eq, Bool.not_true, Bool.not_false, Bool.false_eq_true, Bool.not_eq_true, n10, n20, n21, n30, n31, n32, n40, n41, n42, n43, ↓reduceIte]
      by_cases c3' : T.1 = 3
      · have e1' : c1 = 1 := d2.mpr c3'
        have e26 := t7.2.2.2.1 c3'
        have em1 : mustS (.ok T) c1 2 = .ok T := by
          unfold mustS
          dsimp only
          rw [if_pos e1']
        rw [em1, e26] at s3
        rw [em1, e26] at g3
        by_cases c4 : u + 1 ≤ T.2.2.2 ∧ T.2.2.2 ≤ 9999
        · have em2 : mustS (.ok T) (bI (u + 1 ≤ T.2.2.2 ∧ T.2.2.2 ≤ 9999)) 3 = .ok T := by
            unfold mustS
            dsimp only
            rw [if_pos (bI_p c4)]
          rw [em2] at s3 g3
          by_cases c5 : i < 10
          · have em3 : mustS (.ok T) c3 5 = .ok T := by
              unfold mustS
              dsimp only
              rw [if_pos (d4.mpr c5)]
            rw [em3] at s3 g3
            have g3' : ∀ Q, RK MX10_good 0 [.ref m] [] (0, 0) (E, zg G3, zk L, r) Q = Q (E, zg G3, zk L, r) (.int (zi 1)) := g3
            have er : rdNum B n (u + 1) 9999 T = .ok (T.2.2.2, nxT B n T.2.2.1) := by unfold rdNum; rw [if_pos c3', if_pos c4]
            have el : rdLL B n (k + 1) i g (u + 1) T = rdLL B n k (i + 1) (upN g i T.2.2.2) (T.2.2.2 + 1) (nxT B n T.2.2.1) := by
              rw [rdLL, if_neg c0, if_neg (by omega), er]
            let G4 : Nat → Nat → Int := u2 (u2 G3 (m + 6) b0 ((i : Int) + 1)) (m + 6) (b0 + (i + 1)) T.2.2.2
            have s4 : rdS G4 L m B n (.ok T) := rdS_6 (rdS_6 s3)
            have hC4 : G4 (m + 6) = lsF b0 (i + 1) (upN g i T.2.2.2) C := by
              rw [← lsF_up]
              funext q
              show (if m + 6 = m + 6 ∧ q = b0 + (i + 1) then T.2.2.2 else if m + 6 = m + 6 ∧ q = b0 then (i : Int) + 1 else G3 (m + 6) q) = _
              rw [x3, hC]
              simp only [true_and]
            obtain ⟨G5, L5, f5, s5, e5⟩ := m_next hm s4 (Or.inr (Or.inl c3'))
            have fr35 : prY G L G5 L5 m := ((prY_W fr3).trans (prY_6.trans prY_6)).trans (prY_W (prW_F f5))
            have h295 : 0 ≤ G5 m 29 ∧ G5 m 29 ≤ 3 := by rw [fr35.2.1 29 (by decide)]; exact h29
            obtain ⟨G6, L6, f6, s6, v6⟩ := ih (i + 1) (upN g i T.2.2.2) T.2.2.2 (nxT B n T.2.2.1) G5 L5 (by omega) (by omega) (by omega) s5 (by rw [f5.1 _ (by omega)]; exact hC4) h295
            have es : llS B n (k + 1) i g (u + 1) T = llS B n k (i + 1) (upN g i T.2.2.2) (T.2.2.2 + 1) (nxT B n T.2.2.1) := by
              unfold llS
              rw [el]
            have i1 : ((b0 : Int) + ((i : Int) + 1)).toNat = b0 + (i + 1) := by omega
            have r1 : G3 (m + 6) b0 = i := by rw [x3, ← a7]
            have r2 : u2 G3 (m + 6) b0 ((i : Int) + 1) (m + 6) b0 = (i : Int) + 1 := u2_s _ _ _ _
            have r26 : G3 m 26 = T.2.2.2 := m26.trans e26
            have r26' : u2 G3 (m + 6) b0 ((i : Int) + 1) m 26 = T.2.2.2 := (congrFun (u2_a _ _ _ _ (by omega)) 26).trans r26
            have eG : u2 (u2 G3 (m + 6) b0 ((i : Int) + 1)) (m + 6) (b0 + (i + 1)) T.2.2.2 = G4 := rfl
            have step : ∀ Q, RK MX10_readsList 51 [.ref m, .int (zi (b0 : Int)), .int (zi u)] [] (0, 0) (E, zg G, zk L, r) Q = RK MX10_readsList 51 [.ref m, .int (zi (b0 : Int)), .int (zi T.2.2.2)] [] (0, 0) (E, zg G5, zk L5, r) Q := fun Q => by
              rw [head Q]
              simp (disch := first | assumption | exact c2_int _ | exact c2_ref _ | exact c2_jk | exact c2_null | omega | exact bI_r _ | exact bI_01 _) only [↓fX10_readsList_0, ↓fX10_readsList_1, ↓fX10_readsList_2, ↓fX10_readsList_5, ↓fX10_readsList_6, ↓fX10_readsList_9, ↓fX10_readsList_10, ↓fX10_readsList_13, ↓fX10_readsList_14, ↓fX10_readsList_15, ↓fX10_readsList_18, ↓fX10_readsList_19, ↓fX10_readsList_22, ↓fX10_readsList_23, ↓fX10_readsList_26, ↓fX10_readsList_27, ↓fX10_readsList_30, ↓fX10_readsList_33, ↓fX10_readsList_34, ↓fX10_readsList_36, ↓fX10_readsList_37, ↓fX10_readsList_40, ↓fX10_readsList_41, ↓fX10_readsList_42, ↓fX10_readsList_43, ↓fX10_readsList_46, ↓fX10_readsList_47, ↓fX10_readsList_48, ↓fX10_readsList_49, ↓fX10_readsList_50, ↓fX10_readsList_52, ↓fX10_readsList_55, ↓fX10_readsList_58, ↓fX10_readsList_59, ↓fX10_readsList_62, ↓fX10_readsList_63, ↓fX10_readsList_64, ↓fX10_readsList_67, ↓fX10_readsList_68, ↓fX10_readsList_71, ↓fX10_readsList_72, ↓fX10_readsList_75, ↓fX10_readsList_76, ↓fX10_readsList_77, ↓fX10_readsList_80, ↓fX10_readsList_81, ↓fX10_readsList_84, ↓fX10_readsList_85, ↓fX10_readsList_88, ↓fX10_readsList_89, ↓fX10_readsList_90, ↓fX10_readsList_93, ↓fX10_readsList_94, ↓fX10_readsList_95, ↓fX10_readsList_98, ↓fX10_readsList_99, ↓fX10_readsList_100, ↓fX10_readsList_101, ↓fX10_readsList_102, ↓fX10_readsList_103, ↓fX10_readsList_106, ↓fX10_readsList_109, ↓fX10_readsList_110, ↓fX10_readsList_113, ↓fX10_readsList_114, ↓fX10_readsList_115, ↓fX10_readsList_118, ↓fX10_readsList_119, ↓fX10_readsList_120, ↓fX10_readsList_122, ↓fX10_readsList_125, ↓fX10_readsList_126, ↓fX10_readsList_129, ↓fX10_readsList_130, ↓fX10_readsList_131, ↓fX10_readsList_134, ↓fX10_readsList_135, ↓fX10_readsList_138, ↓fX10_readsList_141, ↓fX10_readsList_142, ↓fX10_readsList_143, ↓fX10_readsList_146, ↓fX10_readsList_147, ↓fX10_readsList_148, ↓fX10_readsList_151, ↓fX10_readsList_152, ↓fX10_readsList_153, ↓fX10_readsList_154, ↓fX10_readsList_155, ↓fX10_readsList_156, ↓fX10_readsList_157, ↓fX10_readsList_158, ↓fX10_readsList_161, ↓fX10_readsList_162, ↓fX10_readsList_163, ↓fX10_readsList_166, ↓fX10_readsList_167, ↓fX10_readsList_168, ↓fX10_readsList_169, ↓fX10_readsList_170, ↓fX10_readsList_173, ↓fX10_readsList_174, ↓fX10_readsList_175, ↓fX10_readsList_178, ↓fX10_readsList_181, ↓fX10_readsList_182, ↓fX10_readsList_183, ↓fX10_readsList_186, ↓fX10_readsList_187, ↓fX10_readsList_188, ↓fX10_readsList_191, ↓g3', i0, r1, r2, r26, r26', i1, eG, ↓e5, and_self, true_and, and_true, false_and, and_false, not_true_eq_false, not_false_eq_true, or_self, true_or, or_true, false_or, or_false, ite_not, Decidable.not_not, decide_eq_true_eq, Bool.not_true, Bool.not_false, Bool.false_eq_true, Bool.not_eq_true, n10, n20, n21, n30, n31, n32, n40, n41, n42, n43, ↓reduceIte]
            refine ⟨G6, L6, fr35.trans f6, by rw [es]; exact s6, ?_⟩
            rw [el]
            rcases v6 with ⟨c', g', T', v1, v2, v3, v4⟩ | ⟨e, v1, v2⟩
            · exact Or.inl ⟨c', g', T', v1, v2, v3, fun Q => (step Q).trans (v4 Q)⟩
            · exact Or.inr ⟨e, v1, fun Q => (step Q).trans (v2 Q)⟩
          · have c12 : i = 10 := by omega
            have em3 : mustS (.ok T) c3 5 = .error (5, T) := by
              unfold mustS
              dsimp only
              rw [if_neg (fun z => c5 (d4.mp z)), if_neg (by decide)]
            rw [em3] at s3 g3
            have g3' : ∀ Q, RK MX10_good 0 [.ref m] [] (0, 0) (E, zg G3, zk L, r) Q = Q (E, zg G3, zk L, r) (.int (zi 0)) := g3
            have el : rdLL B n (k + 1) i g (u + 1) T = .error (5, T) := by
              rw [rdLL, if_neg c0, if_pos c12, if_pos c4]
            have es : llS B n (k + 1) i g (u + 1) T = .error (5, T) := by
              unfold llS
              rw [el]
            refine ⟨G3, L, prY_W fr3, by rw [es]; exact s3, Or.inr ⟨_, el, fun Q => ?_⟩⟩
            rw [head Q]
            simp (disch := first | assumption | exact c2_int _ | exact c2_ref _ | exact c2_jk | exact c2_null | omega | exact bI_r _ | exact bI_01 _) only [↓fX10_readsList_0, ↓fX10_readsList_1, ↓fX10_readsList_2, ↓fX10_readsList_5, ↓fX10_readsList_6, ↓fX10_readsList_9, ↓fX10_readsList_10, ↓fX10_readsList_13, ↓fX10_readsList_14, ↓fX10_readsList_15, ↓fX10_readsList_18, ↓fX10_readsList_19, ↓fX10_readsList_22, ↓fX10_readsList_23, ↓fX10_readsList_26, ↓fX10_readsList_27, ↓fX10_readsList_30, ↓fX10_readsList_33, ↓fX10_readsList_34, ↓fX10_readsList_36, ↓fX10_readsList_37, ↓fX10_readsList_40, ↓fX10_readsList_41, ↓fX10_readsList_42, ↓fX10_readsList_43, ↓fX10_readsList_46, ↓fX10_readsList_47, ↓fX10_readsList_48, ↓fX10_readsList_49, ↓fX10_readsList_50, ↓fX10_readsList_51, ↓fX10_readsList_52, ↓fX10_readsList_55, ↓fX10_readsList_58, ↓fX10_readsList_59, ↓fX10_readsList_62, ↓fX10_readsList_63, ↓fX10_readsList_64, ↓fX10_readsList_67, ↓fX10_readsList_68, ↓fX10_readsList_71, ↓fX10_readsList_72, ↓fX10_readsList_75, ↓fX10_readsList_76, ↓fX10_readsList_77, ↓fX10_readsList_80, ↓fX10_readsList_81, ↓fX10_readsList_84, ↓fX10_readsList_85, ↓fX10_readsList_88, ↓fX10_readsList_89, ↓fX10_readsList_90, ↓fX10_readsList_93, ↓fX10_readsList_94, ↓fX10_readsList_95, ↓fX10_readsList_98, ↓fX10_readsList_99, ↓fX10_readsList_100, ↓fX10_readsList_101, ↓fX10_readsList_102, ↓fX10_readsList_103, ↓fX10_readsList_106, ↓fX10_readsList_109, ↓fX10_readsList_110, ↓fX10_readsList_113, ↓fX10_readsList_114, ↓fX10_readsList_115, ↓fX10_readsList_118, ↓fX10_readsList_119, ↓fX10_readsList_120, ↓fX10_readsList_122, ↓fX10_readsList_125, ↓fX10_readsList_126, ↓fX10_readsList_129, ↓fX10_readsList_130, ↓fX10_readsList_131, ↓fX10_readsList_134, ↓fX10_readsList_135, ↓fX10_readsList_138, ↓fX10_readsList_141, ↓fX10_readsList_142, ↓fX10_readsList_143, ↓fX10_readsList_146, ↓fX10_readsList_147, ↓fX10_readsList_148, ↓fX10_readsList_151, ↓fX10_readsList_152, ↓fX10_readsList_153, ↓fX10_readsList_154, ↓fX10_readsList_155, ↓fX10_readsList_156, ↓fX10_readsList_157, ↓fX10_readsList_158, ↓fX10_readsList_161, ↓fX10_readsList_162, ↓fX10_readsList_163, ↓fX10_readsList_166, ↓fX10_readsList_167, ↓fX10_readsList_168, ↓fX10_readsList_169, ↓fX10_readsList_170, ↓fX10_readsList_173, ↓fX10_readsList_174, ↓fX10_readsList_175, ↓fX10_readsList_178, ↓fX10_readsList_181, ↓fX10_readsList_182, ↓fX10_readsList_183, ↓fX10_readsList_186, ↓fX10_readsList_187, ↓fX10_readsList_188, ↓fX10_readsList_191, ↓g3', and_self, true_and, and_true, false_and, and_false, not_true_eq_false, not_false_eq_true, or_self, true_or, or_true, false_or, or_false, ite_not, Decidable.not_not, decide_eq_true_eq, Bool.not_true, Bool.not_false, Bool.false_eq_true, Bool.not_eq_true, n10, n20, n21, n30, n31, n32, n40, n41, n42, n43, ↓reduceIte]
        · have em2 : mustS (.ok T) (bI (u + 1 ≤ T.2.2.2 ∧ T.2.2.2 ≤ 9999)) 3 = .error (3, T) := by
            unfold mustS
            dsimp only
            rw [if_neg (by rw [bI_n c4]; decide), if_neg (by decide)]
          rw [em2] at s3 g3
          have g3' : ∀ Q, RK MX10_good 0 [.ref m] [] (0, 0) (E, zg G3, zk L, r) Q = Q (E, zg G3, zk L, r) (.int (zi 0)) := g3
          have er : rdNum B n (u + 1) 9999 T = .error (3, T) := by unfold rdNum; rw [if_pos c3', if_neg c4]
          have el : rdLL B n (k + 1) i g (u + 1) T = .error (3, T) := by
            by_cases c12 : i = 10
            · rw [rdLL, if_neg c0, if_pos c12, if_neg c4]
            · rw [rdLL, if_neg c0, if_neg c12, er]
          have es : llS B n (k + 1) i g (u + 1) T = .error (3, T) := by
            unfold llS
            rw [el]
          refine ⟨G3, L, prY_W fr3, by rw [es]; exact s3, Or.inr ⟨_, el, fun Q => ?_⟩⟩
          rw [head Q]
          simp (disch := first | assumption | exact c2_int _ | exact c2_ref _ | exact c2_jk | exact c2_null | omega | exact bI_r _ | exact bI_01 _) only [↓fX10_readsList_0, ↓fX10_readsList_1, ↓fX10_readsList_2, ↓fX10_readsList_5, ↓fX10_readsList_6, ↓fX10_readsList_9, ↓fX10_readsList_10, ↓fX10_readsList_13, ↓fX10_readsList_14, ↓fX10_readsList_15, ↓fX10_readsList_18, ↓fX10_readsList_19, ↓fX10_readsList_22, ↓fX10_readsList_23, ↓fX10_readsList_26, ↓fX10_readsList_27, ↓fX10_readsList_30, ↓fX10_readsList_33, ↓fX10_readsList_34, ↓fX10_readsList_36, ↓fX10_readsList_37, ↓fX10_readsList_40, ↓fX10_readsList_41, ↓fX10_readsList_42, ↓fX10_readsList_43, ↓fX10_readsList_46, ↓fX10_readsList_47, ↓fX10_readsList_48, ↓fX10_readsList_49, ↓fX10_readsList_50, ↓fX10_readsList_51, ↓fX10_readsList_52, ↓fX10_readsList_55, ↓fX10_readsList_58, ↓fX10_readsList_59, ↓fX10_readsList_62, ↓fX10_readsList_63, ↓fX10_readsList_64, ↓fX10_readsList_67, ↓fX10_readsList_68, ↓fX10_readsList_71, ↓fX10_readsList_72, ↓fX10_readsList_75, ↓fX10_readsList_76, ↓fX10_readsList_77, ↓fX10_readsList_80, ↓fX10_readsList_81, ↓fX10_readsList_84, ↓fX10_readsList_85, ↓fX10_readsList_88, ↓fX10_readsList_89, ↓fX10_readsList_90, ↓fX10_readsList_93, ↓fX10_readsList_94, ↓fX10_readsList_95, ↓fX10_readsList_98, ↓fX10_readsList_99, ↓fX10_readsList_100, ↓fX10_readsList_101, ↓fX10_readsList_102, ↓fX10_readsList_103, ↓fX10_readsList_106, ↓fX10_readsList_109, ↓fX10_readsList_110, ↓fX10_readsList_113, ↓fX10_readsList_114, ↓fX10_readsList_115, ↓fX10_readsList_118, ↓fX10_readsList_119, ↓fX10_readsList_120, ↓fX10_readsList_122, ↓fX10_readsList_125, ↓fX10_readsList_126, ↓fX10_readsList_129, ↓fX10_readsList_130, ↓fX10_readsList_131, ↓fX10_readsList_134, ↓fX10_readsList_135, ↓fX10_readsList_138, ↓fX10_readsList_141, ↓fX10_readsList_142, ↓fX10_readsList_143, ↓fX10_readsList_146, ↓fX10_readsList_147, ↓fX10_readsList_148, ↓fX10_readsList_151, ↓fX10_readsList_152, ↓fX10_readsList_153, ↓fX10_readsList_154, ↓fX10_readsList_155, ↓fX10_readsList_156, ↓fX10_readsList_157, ↓fX10_readsList_158, ↓fX10_readsList_161, ↓fX10_readsList_162, ↓fX10_readsList_163, ↓fX10_readsList_166, ↓fX10_readsList_167, ↓fX10_readsList_168, ↓fX10_readsList_169, ↓fX10_readsList_170, ↓fX10_readsList_173, ↓fX10_readsList_174, ↓fX10_readsList_175, ↓fX10_readsList_178, ↓fX10_readsList_181, ↓fX10_readsList_182, ↓fX10_readsList_183, ↓fX10_readsList_186, ↓fX10_readsList_187, ↓fX10_readsList_188, ↓fX10_readsList_191, ↓g3', and_self, true_and, and_true, false_and, and_false, not_true_eq_false, not_false_eq_true, or_self, true_or, or_true, false_or, or_false, ite_not, Decidable.not_not, decide_eq_true_eq, Bool.not_true, Bool.not_false, Bool.false_eq_true, Bool.not_eq_true, n10, n20, n21, n30, n31, n32, n40, n41, n42, n43, ↓reduceIte]
      · have em1 : mustS (.ok T) c1 2 = .error (unK T, T) := by
          unfold mustS
          dsimp only
          rw [if_neg (fun z => c3' (d2.mp z)), if_pos rfl]
        rw [em1] at s3 g3
        have g3' : ∀ Q, RK MX10_good 0 [.ref m] [] (0, 0) (E, zg G3, zk L, r) Q = Q (E, zg G3, zk L, r) (.int (zi 0)) := g3
        have i00 : i = 0 := by omega
        have er : rdNum B n (u + 1) 9999 T = .error (unK T, T) := by unfold rdNum; rw [if_neg c3']
        have el : rdLL B n (k + 1) i g (u + 1) T = .error (unK T, T) := by
          rw [rdLL, if_neg c0, if_neg (by omega), er]
        have es : llS B n (k + 1) i g (u + 1) T = .error (unK T, T) := by
          unfold llS
          rw [el]
        refine ⟨G3, L, prY_W fr3, by rw [es]; exact s3, Or.inr ⟨_, el, fun Q => ?_⟩⟩
        rw [head Q]
        simp (disch := first | assumption | exact c2_int _ | exact c2_ref _ | exact c2_jk | exact c2_null | omega | exact bI_r _ | exact bI_01 _) only [↓fX10_readsList_0, ↓fX10_readsList_1, ↓fX10_readsList_2, ↓fX10_readsList_5, ↓fX10_readsList_6, ↓fX10_readsList_9, ↓fX10_readsList_10, ↓fX10_readsList_13, ↓fX10_readsList_14, ↓fX10_readsList_15, ↓fX10_readsList_18, ↓fX10_readsList_19, ↓fX10_readsList_22, ↓fX10_readsList_23, ↓fX10_readsList_26, ↓fX10_readsList_27, ↓fX10_readsList_30, ↓fX10_readsList_33, ↓fX10_readsList_34, ↓fX10_readsList_36, ↓fX10_readsList_37, ↓fX10_readsList_40, ↓fX10_readsList_41, ↓fX10_readsList_42, ↓fX10_readsList_43, ↓fX10_readsList_46, ↓fX10_readsList_47, ↓fX10_readsList_48, ↓fX10_readsList_49, ↓fX10_readsList_50, ↓fX10_readsList_51, ↓fX10_readsList_52, ↓fX10_readsList_55, ↓fX10_readsList_58, ↓fX10_readsList_59, ↓fX10_readsList_62, ↓fX10_readsList_63, ↓fX10_readsList_64, ↓fX10_readsList_67, ↓fX10_readsList_68, ↓fX10_readsList_71, ↓fX10_readsList_72, ↓fX10_readsList_75, ↓fX10_readsList_76, ↓fX10_readsList_77, ↓fX10_readsList_80, ↓fX10_readsList_81, ↓fX10_readsList_84, ↓fX10_readsList_85, ↓fX10_readsList_88, ↓fX10_readsList_89, ↓fX10_readsList_90, ↓fX10_readsList_93, ↓fX10_readsList_94, ↓fX10_readsList_95, ↓fX10_readsList_98, ↓fX10_readsList_99, ↓fX10_readsList_100, ↓fX10_readsList_101, ↓fX10_readsList_102, ↓fX10_readsList_103, ↓fX10_readsList_106, ↓fX10_readsList_109, ↓fX10_readsList_110, ↓fX10_readsList_113, ↓fX10_readsList_114, ↓fX10_readsList_115, ↓fX10_readsList_118, ↓fX10_readsList_119, ↓fX10_readsList_120, ↓fX10_readsList_122, ↓fX10_readsList_125, ↓fX10_readsList_126, ↓fX10_readsList_129, ↓fX10_readsList_130, ↓fX10_readsList_131, ↓fX10_readsList_134, ↓fX10_readsList_135, ↓fX10_readsList_138, ↓fX10_readsList_141, ↓fX10_readsList_142, ↓fX10_readsList_143, ↓fX10_readsList_146, ↓fX10_readsList_147, ↓fX10_readsList_148, ↓fX10_readsList_151, ↓fX10_readsList_152, ↓fX10_readsList_153, ↓fX10_readsList_154, ↓fX10_readsList_155, ↓fX10_readsList_156, ↓fX10_readsList_157, ↓fX10_readsList_158, ↓fX10_readsList_161, ↓fX10_readsList_162, ↓fX10_readsList_163, ↓fX10_readsList_166, ↓fX10_readsList_167, ↓fX10_readsList_168, ↓fX10_readsList_169, ↓fX10_readsList_170, ↓fX10_readsList_173, ↓fX10_readsList_174, ↓fX10_readsList_175, ↓fX10_readsList_178, ↓fX10_readsList_181, ↓fX10_readsList_182, ↓fX10_readsList_183, ↓fX10_readsList_186, ↓fX10_readsList_187, ↓fX10_readsList_188, ↓fX10_readsList_191, ↓g3', and_self, true_and, and_true, false_and, and_false, not_true_eq_false, not_false_eq_true, or_self, true_or, or_true, false_or, or_false, ite_not, Decidable.not_not, decide_eq_true_eq, Bool.not_true, Bool.not_false, Bool.false_eq_true, Bool.not_eq_true, n10, n20, n21, n30, n31, n32, n40, n41, n42, n43, ↓reduceIte]
theorem m_readsList (hm : shM E r m) (hK : kWd L m) (hS : rdS G L m B n (.ok T)) (h2 : T.1 = 2) (hN : nmR G L m B f g c) (h29 : G m 29 = cl) (hcl : cl ≤ 3) (hc : c ≤ 7) (hc6 : cl < 3 → c ≤ 6) :
    ∃ G' L', prQ G L G' L' m ∧ G' (m + 2) = G (m + 2) ∧ G' m 28 = G m 28 ∧ rdS G' L' m B n (lsS B n f g c cl T) ∧ (∀ i g' T4, rdList B n f g c cl T = .ok (i, g', T4) → nmR G' L' m B (upN f c (nxT B n T.2.2.1).2.1) (upN g c (nxT B n T.2.2.1).2.2.1) (c + 1) ∧ G' m 29 = (cl : Int) + 1 ∧ i ≤ 10 ∧ G' (m + 6) (11 * cl) = i ∧ (∀ j, j < i → G' (m + 6) (11 * cl + 1 + j) = g' j) ∧ ∀ q, ¬ (11 * cl ≤ q ∧ q < 11 * cl + 11) → G' (m + 6) q = G (m + 6) q) ∧ ∀ Q, RK MX10_readsList 0 [.ref m, jk, jk] [] (0, 0) (E, zg G, zk L, r) Q = Q (E, zg G', zk L', r) .null := by
  have m0 := hm.1
  obtain ⟨ka6, la6, ra6⟩ := hm.2.2.2.2.2.2.1
  have hb : (if cl < 3 then (1 : Int) else 0) = 0 ∨ (if cl < 3 then (1 : Int) else 0) = 1 := by
    split
    · exact Or.inr rfl
    · exact Or.inl rfl
  obtain ⟨G1, f1, s1, j1, e1⟩ := m_must (y := 5) hm hS hb (by decide)
  have hok : ∀ T', mustS (.ok T) (if cl < 3 then (1 : Int) else 0) 5 = .ok T' → T' = T ∧ cl < 3 := by
    intro T' h
    unfold mustS at h
    dsimp only at h
    by_cases q : cl < 3
    · rw [if_pos q, if_pos rfl] at h
      cases h
      exact ⟨rfl, q⟩
    · rw [if_neg q, if_neg (by decide)] at h
      cases h
  obtain ⟨G2, L2, f2, s2, e2⟩ := m_goesOn hm s1 (fun T' h => by rw [(hok T' h).1]; exact Or.inl h2)
  have hh1 : nxS B n (mustS (.ok T) (if cl < 3 then (1 : Int) else 0) 5) = hdL1 B n cl T := rfl
  rw [hh1] at s2
  have fr2 : prW G L G2 L2 m := f1.trans (prW_F f2)
  have hN2 := nmR_W hN fr2
  have hK2 := kWd_c hK fr2
  have hok1 : ∀ T', hdL1 B n cl T = .ok T' → T' = nxT B n T.2.2.1 ∧ cl < 3 := by
    intro T' h
    unfold hdL1 mustS at h
    dsimp only at h
    by_cases q : cl < 3
    · rw [if_pos q, if_pos rfl] at h
      cases h
      exact ⟨rfl, q⟩
    · rw [if_neg q, if_neg (by decide)] at h
      cases h
  obtain ⟨G3, L3, f3, s3, v3, e3⟩ := m_takesName hm hK2 s2 hN2 hc (fun T' h => hc6 (hok1 T' h).2)
  have frN : prN G L G3 L3 m := (prN_W fr2).trans f3
  have h293 : G3 m 29 = cl := by rw [frN.2.1 29 (by decide) (by decide), h29]
  have g3 := fun Q => m_good (Q := Q) hm s3
  have start : ∀ Q, RK MX10_readsList 0 [.ref m, jk, jk] [] (0, 0) (E, zg G, zk L, r) Q = RK MX10_readsList 26 [.ref m, jk, jk] [] (0, 0) (E, zg G3, zk L3, r) Q := fun Q => by
    have st1 : RK MX10_readsList 0 [.ref m, jk, jk] [] (0, 0) (E, zg G, zk L, r) Q = RK MX10_readsList 14 [.ref m, jk, jk] [.int (zi (if cl < 3 then (1 : Int) else 0)), .ref m] (0, 0) (E, zg G, zk L, r) Q := by
      by_cases q : cl < 3
      · have q' : (cl : Int) < 3 := by omega
        rw [if_pos q]
        simp (disch := first | assumption | exact c2_int _ | exact c2_ref _ | exact c2_jk | exact c2_null | omega | exact bI_r _ | exact bI_01 _) only [↓fX10_readsList_0, ↓fX10_readsList_1, ↓fX10_readsList_2, ↓fX10_readsList_5, ↓fX10_readsList_6, ↓fX10_readsList_9, ↓fX10_readsList_10, ↓fX10_readsList_13, ↓fX10_readsList_15, ↓fX10_readsList_18, ↓fX10_readsList_19, ↓fX10_readsList_22, ↓fX10_readsList_23, ↓fX10_readsList_26, ↓fX10_readsList_27, ↓fX10_readsList_30, ↓fX10_readsList_33, ↓fX10_readsList_34, ↓fX10_readsList_36, ↓fX10_readsList_37, ↓fX10_readsList_40, ↓fX10_readsList_41, ↓fX10_readsList_42, ↓fX10_readsList_43, ↓fX10_readsList_46, ↓fX10_readsList_47, ↓fX10_readsList_48, ↓fX10_readsList_49, ↓fX10_readsList_50, ↓fX10_readsList_51, ↓fX10_readsList_52, ↓fX10_readsList_55, ↓fX10_readsList_58, ↓fX10_readsList_59, ↓fX10_readsList_62, ↓fX10_readsList_63, ↓fX10_readsList_64, ↓fX10_readsList_67, ↓fX10_readsList_68, ↓fX10_readsList_71, ↓fX10_readsList_72, ↓fX10_readsList_75, ↓fX10_readsList_76, ↓fX10_readsList_77, ↓fX10_readsList_80, ↓fX10_readsList_81, ↓fX10_readsList_84, ↓fX10_readsList_85, ↓fX10_readsList_88, ↓fX10_readsList_89, ↓fX10_readsList_90, ↓fX10_readsList_93, ↓fX10_readsList_94, ↓fX10_readsList_95, ↓fX10_readsList_98, ↓fX10_readsList_99, ↓fX10_readsList_100, ↓fX10_readsList_101, ↓fX10_readsList_102, ↓fX10_readsList_103, ↓fX10_readsList_106, ↓fX10_readsList_109, ↓fX10_readsList_110, ↓fX10_readsList_113, ↓fX10_readsList_114, ↓fX10_readsList_115, ↓fX10_readsList_118, ↓fX10_readsList_119, ↓fX10_readsList_120, ↓fX10_readsList_122, ↓fX10_readsList_125, ↓fX10_readsList_126, ↓fX10_readsList_129, ↓fX10_readsList_130, ↓fX10_readsList_131, ↓fX10_readsList_134, ↓fX10_readsList_135, ↓fX10_readsList_138, ↓fX10_readsList_141, ↓fX10_readsList_142, ↓fX10_readsList_143, ↓fX10_readsList_146, ↓fX10_readsList_147, ↓fX10_readsList_148, ↓fX10_readsList_151, ↓fX10_readsList_152, ↓fX10_readsList_153, ↓fX10_readsList_154, ↓fX10_readsList_155, ↓fX10_readsList_156, ↓fX10_readsList_157, ↓fX10_readsList_158, ↓fX10_readsList_161, ↓fX10_readsList_162, ↓fX10_readsList_163, ↓fX10_readsList_166, ↓fX10_readsList_167, ↓fX10_readsList_168, ↓fX10_readsList_169, ↓fX10_readsList_170, ↓fX10_readsList_173, ↓fX10_readsList_174, ↓fX10_readsList_175, ↓fX10_readsList_178, ↓fX10_readsList_181, ↓fX10_readsList_182, ↓fX10_readsList_183, ↓fX10_readsList_186, ↓fX10_readsList_187, ↓fX10_readsList_188, ↓fX10_readsList_191, h29, q', and_self, true_and, and_true, false_and, and_false, not_true_eq_false, not_false_eq_true, or_self, true_or, or_true, false_or, or_false, ite_not, Decidable.not_not, decide_eq_true_eq, Bool.not_true, Bool.not_false, Bool.false_eq_true, Bool.not_eq_true, n10, n20, n21, n30, n31, n32, n40, n41, n42, n43, ↓reduceIte]
      · have q' : ¬ (cl : Int) < 3 := by omega
        rw [if_neg q]
        simp (disch := first | assumption | exact c2_int _ | exact c2_ref _ | exact c2_jk | exact c2_null | omega | exact bI_r _ | exact bI_01 _) only [↓fX10_readsList_0, ↓fX10_readsList_1, ↓fX10_readsList_2, ↓fX10_readsList_5, ↓fX10_readsList_6, ↓fX10_readsList_9, ↓fX10_readsList_10, ↓fX10_readsList_13, ↓fX10_readsList_15, ↓fX10_readsList_18, ↓fX10_readsList_19, ↓fX10_readsList_22, ↓fX10_readsList_23, ↓fX10_readsList_26, ↓fX10_readsList_27, ↓fX10_readsList_30, ↓fX10_readsList_33, ↓fX10_readsList_34, ↓fX10_readsList_36, ↓fX10_readsList_37, ↓fX10_readsList_40, ↓fX10_readsList_41, ↓fX10_readsList_42, ↓fX10_readsList_43, ↓fX10_readsList_46, ↓fX10_readsList_47, ↓fX10_readsList_48, ↓fX10_readsList_49, ↓fX10_readsList_50, ↓fX10_readsList_51, ↓fX10_readsList_52, ↓fX10_readsList_55, ↓fX10_readsList_58, ↓fX10_readsList_59, ↓fX10_readsList_62, ↓fX10_readsList_63, ↓fX10_readsList_64, ↓fX10_readsList_67, ↓fX10_readsList_68, ↓fX10_readsList_71, ↓fX10_readsList_72, ↓fX10_readsList_75, ↓fX10_readsList_76, ↓fX10_readsList_77, ↓fX10_readsList_80, ↓fX10_readsList_81, ↓fX10_readsList_84, ↓fX10_readsList_85, ↓fX10_readsList_88, ↓fX10_readsList_89, ↓fX10_readsList_90, ↓fX10_readsList_93, ↓fX10_readsList_94, ↓fX10_readsList_95, ↓fX10_readsList_98, ↓fX10_readsList_99, ↓fX10_readsList_100, ↓fX10_readsList_101, ↓fX10_readsList_102, ↓fX10_readsList_103, ↓fX10_readsList_106, ↓fX10_readsList_109, ↓fX10_readsList_110, ↓fX10_readsList_113, ↓fX10_readsList_114, ↓fX10_readsList_115, ↓fX10_readsList_118, ↓fX10_readsList_119, ↓fX10_readsList_120, ↓fX10_readsList_122, ↓fX10_readsList_125, ↓fX10_readsList_126, ↓fX10_readsList_129, ↓fX10_readsList_130, ↓fX10_readsList_131, ↓fX10_readsList_134, ↓fX10_readsList_135, ↓fX10_readsList_138, ↓fX10_readsList_141, ↓fX10_readsList_142, ↓fX10_readsList_143, ↓fX10_readsList_146, ↓fX10_readsList_147, ↓fX10_readsList_148, ↓fX10_readsList_151, ↓fX10_readsList_152, ↓fX10_readsList_153, ↓fX10_readsList_154, ↓fX10_readsList_155, ↓fX10_readsList_156, ↓fX10_readsList_157, ↓fX10_readsList_158, ↓fX10_readsList_161, ↓fX10_readsList_162, ↓fX10_readsList_163, ↓fX10_readsList_166, ↓fX10_readsList_167, ↓fX10_readsList_168, ↓fX10_readsList_169, ↓fX10_readsList_170, ↓fX10_readsList_173, ↓fX10_readsList_174, ↓fX10_readsList_175, ↓fX10_readsList_178, ↓fX10_readsList_181, ↓fX10_readsList_182, ↓fX10_readsList_183, ↓fX10_readsList_186, ↓fX10_readsList_187, ↓fX10_readsList_188, ↓fX10_readsList_191, h29, q', and_self, true_and, and_true, false_and, and_false, not_true_eq_false, not_false_eq_true, or_self, true_or, or_true, false_or, or_false, ite_not, Decidable.not_not, decide_eq_true_eq, Bool.not_true, Bool.not_false, Bool.false_eq_true, Bool.not_eq_true, n10, n20, n21, n30, n31, n32, n40, n41, n42, n43, ↓reduceIte]
    rw [st1]
    simp (disch := first | assumption | exact c2_int _ | exact c2_ref _ | exact c2_jk | exact c2_null | omega | exact bI_r _ | exact bI_01 _) only [↓fX10_readsList_0, ↓fX10_readsList_1, ↓fX10_readsList_2, ↓fX10_readsList_5, ↓fX10_readsList_6, ↓fX10_readsList_9, ↓fX10_readsList_10, ↓fX10_readsList_13, ↓fX10_readsList_14, ↓fX10_readsList_15, ↓fX10_readsList_18, ↓fX10_readsList_19, ↓fX10_readsList_22, ↓fX10_readsList_23, ↓fX10_readsList_27, ↓fX10_readsList_30, ↓fX10_readsList_33, ↓fX10_readsList_34, ↓fX10_readsList_36, ↓fX10_readsList_37, ↓fX10_readsList_40, ↓fX10_readsList_41, ↓fX10_readsList_42, ↓fX10_readsList_43, ↓fX10_readsList_46, ↓fX10_readsList_47, ↓fX10_readsList_48, ↓fX10_readsList_49, ↓fX10_readsList_50, ↓fX10_readsList_51, ↓fX10_readsList_52, ↓fX10_readsList_55, ↓fX10_readsList_58, ↓fX10_readsList_59, ↓fX10_readsList_62, ↓fX10_readsList_63, ↓fX10_readsList_64, ↓fX10_readsList_67, ↓fX10_readsList_68, ↓fX10_readsList_71, ↓fX10_readsList_72, ↓fX10_readsList_75, ↓fX10_readsList_76, ↓fX10_readsList_77, ↓fX10_readsList_80, ↓fX10_readsList_81, ↓fX10_readsList_84, ↓fX10_readsList_85, ↓fX10_readsList_88, ↓fX10_readsList_89, ↓fX10_readsList_90, ↓fX10_readsList_93, ↓fX10_readsList_94, ↓fX10_readsList_95, ↓fX10_readsList_98, ↓fX10_readsList_99, ↓fX10_readsList_100, ↓fX10_readsList_101, ↓fX10_readsList_102, ↓fX10_readsList_103, ↓fX10_readsList_106, ↓fX10_readsList_109, ↓fX10_readsList_110, ↓fX10_readsList_113, ↓fX10_readsList_114, ↓fX10_readsList_115, ↓fX10_readsList_118, ↓fX10_readsList_119, ↓fX10_readsList_120, ↓fX10_readsList_122, ↓fX10_readsList_125, ↓fX10_readsList_126, ↓fX10_readsList_129, ↓fX10_readsList_130, ↓fX10_readsList_131, ↓fX10_readsList_134, ↓fX10_readsList_135, ↓fX10_readsList_138, ↓fX10_readsList_141, ↓fX10_readsList_142, ↓fX10_readsList_143, ↓fX10_readsList_146, ↓fX10_readsList_147, ↓fX10_readsList_148, ↓fX10_readsList_151, ↓fX10_readsList_152, ↓fX10_readsList_153, ↓fX10_readsList_154, ↓fX10_readsList_155, ↓fX10_readsList_156, ↓fX10_readsList_157, ↓fX10_readsList_158, ↓fX10_readsList_161, ↓fX10_readsList_162, ↓fX10_readsList_163, ↓fX10_readsList_166, ↓fX10_readsList_167, ↓fX10_readsList_168, ↓fX10_readsList_169, ↓fX10_readsList_170, ↓fX10_readsList_173, ↓fX10_readsList_174, ↓fX10_readsList_175, ↓fX10_readsList_178, ↓fX10_readsList_181, ↓fX10_readsList_182, ↓fX10_readsList_183, ↓fX10_readsList_186, ↓fX10_readsList_187, ↓fX10_readsList_188, ↓fX10_readsList_191, ↓e1, ↓e2, ↓e3, and_self, true_and, and_true, false_and, and_false, not_true_eq_false, not_false_eq_true, or_self, true_or, or_true, false_or, or_false, ite_not, Decidable.not_not, decide_eq_true_eq, Bool.not_true, Bool.not_false, Bool.false_eq_true, Bool.not_eq_true, n10, n20, n21, n30, n31, n32, n40, n41, n42, n43, ↓reduceIte]
  have pure := ls_pure B n f g c cl T
  cases q : nmT B n f g c (hdL1 B n cl T) with
  | error e =>
    have es : lsS B n f g c cl T = .error e := by
      unfold lsS
      rw [q]
    rw [q] at s3 g3
    have g3' : ∀ Q, RK MX10_good 0 [.ref m] [] (0, 0) (E, zg G3, zk L3, r) Q = Q (E, zg G3, zk L3, r) (.int (zi 0)) := g3
    refine ⟨G3, L3, prQ_N frN, frN.1 _ (by omega), frN.2.1 28 (by decide) (by decide), by rw [es]; exact s3, fun i g' T4 h => ?_, fun Q => ?_⟩
    · rw [h] at pure
      obtain ⟨-, -, T2, T3, p1, -⟩ := pure
      rw [q] at p1
      cases p1
    · rw [start Q]
      simp (disch := first | assumption | exact c2_int _ | exact c2_ref _ | exact c2_jk | exact c2_null | omega | exact bI_r _ | exact bI_01 _) only [↓fX10_readsList_0, ↓fX10_readsList_1, ↓fX10_readsList_2, ↓fX10_readsList_5, ↓fX10_readsList_6, ↓fX10_readsList_9, ↓fX10_readsList_10, ↓fX10_readsList_13, ↓fX10_readsList_14, ↓fX10_readsList_15, ↓fX10_readsList_18, ↓fX10_readsList_19, ↓fX10_readsList_22, ↓fX10_readsList_23, ↓fX10_readsList_26, ↓fX10_readsList_27, ↓fX10_readsList_30, ↓fX10_readsList_33, ↓fX10_readsList_34, ↓fX10_readsList_36, ↓fX10_readsList_37, ↓fX10_readsList_40, ↓fX10_readsList_41, ↓fX10_readsList_42, ↓fX10_readsList_43, ↓fX10_readsList_46, ↓fX10_readsList_47, ↓fX10_readsList_48, ↓fX10_readsList_49, ↓fX10_readsList_50, ↓fX10_readsList_51, ↓fX10_readsList_52, ↓fX10_readsList_55, ↓fX10_readsList_58, ↓fX10_readsList_59, ↓fX10_readsList_62, ↓fX10_readsList_63, ↓fX10_readsList_64, ↓fX10_readsList_67, ↓fX10_readsList_68, ↓fX10_readsList_71, ↓fX10_readsList_72, ↓fX10_readsList_75, ↓fX10_readsList_76, ↓fX10_readsList_77, ↓fX10_readsList_80, ↓fX10_readsList_81, ↓fX10_readsList_84, ↓fX10_readsList_85, ↓fX10_readsList_88, ↓fX10_readsList_89, ↓fX10_readsList_90, ↓fX10_readsList_93, ↓fX10_readsList_94, ↓fX10_readsList_95, ↓fX10_readsList_98, ↓fX10_readsList_99, ↓fX10_readsList_100, ↓fX10_readsList_101, ↓fX10_readsList_102, ↓fX10_readsList_103, ↓fX10_readsList_106, ↓fX10_readsList_109, ↓fX10_readsList_110, ↓fX10_readsList_113, ↓fX10_readsList_114, ↓fX10_readsList_115, ↓fX10_readsList_118, ↓fX10_readsList_119, ↓fX10_readsList_120, ↓fX10_readsList_122, ↓fX10_readsList_125, ↓fX10_readsList_126, ↓fX10_readsList_129, ↓fX10_readsList_130, ↓fX10_readsList_131, ↓fX10_readsList_134, ↓fX10_readsList_135, ↓fX10_readsList_138, ↓fX10_readsList_141, ↓fX10_readsList_142, ↓fX10_readsList_143, ↓fX10_readsList_146, ↓fX10_readsList_147, ↓fX10_readsList_148, ↓fX10_readsList_151, ↓fX10_readsList_152, ↓fX10_readsList_153, ↓fX10_readsList_154, ↓fX10_readsList_155, ↓fX10_readsList_156, ↓fX10_readsList_157, ↓fX10_readsList_158, ↓fX10_readsList_161, ↓fX10_readsList_162, ↓fX10_readsList_163, ↓fX10_readsList_166, ↓fX10_readsList_167, ↓fX10_readsList_168, ↓fX10_readsList_169, ↓fX10_readsList_170, ↓fX10_readsList_173, ↓fX10_readsList_174, ↓fX10_readsList_175, ↓fX10_readsList_178, ↓fX10_readsList_181, ↓fX10_readsList_182, ↓fX10_readsList_183, ↓fX10_readsList_186, ↓fX10_readsList_187, ↓fX10_readsList_188, ↓fX10_readsList_191, ↓g3', and_self, true_and, and_true, false_and, and_false, not_true_eq_false, not_false_eq_true, or_self, true_or, or_true, false_or, or_false, ite_not, Decidable.not_not, decide_eq_true_eq, Bool.not_true, Bool.not_false, Bool.false_eq_true, Bool.not_eq_true, n10, n20, n21, n30, n31, n32, n40, n41, n42, n43, ↓reduceIte]
  | ok T2 =>
    have hcl3 : cl < 3 ∧ ∃ T', hdL1 B n cl T = .ok T' := by
      cases z : hdL1 B n cl T with
      | error e =>
        rw [z] at q
        cases q
      | ok T' => exact ⟨(hok1 T' z).2, T', rfl⟩
    obtain ⟨hcl3, T', hT'⟩ := hcl3
    have es : lsS B n f g c cl T = llS B n 11 0 (fun _ => 0) 0 T2 := by
      unfold lsS
      rw [q]
    have nm3 := v3 T' T2 hT' q
    rw [(hok1 T' hT').1] at nm3
    rw [q] at s3 g3
    have g3' : ∀ Q, RK MX10_good 0 [.ref m] [] (0, 0) (E, zg G3, zk L3, r) Q = Q (E, zg G3, zk L3, r) (.int (zi 1)) := g3
    let G4 : Nat → Nat → Int := u2 G3 (m + 6) (11 * cl) 0
    have x6 : G3 (m + 6) = G (m + 6) := frN.1 _ (by omega)
    have s4 : rdS G4 L3 m B n (.ok T2) := rdS_6 s3
    have hC4 : G4 (m + 6) = lsF (11 * cl) 0 (fun _ => 0) (G (m + 6)) := by
      funext k
      show (if m + 6 = m + 6 ∧ k = 11 * cl then (0 : Int) else G3 (m + 6) k) = _
      rw [x6]
      unfold lsF
      simp only [true_and]
      by_cases z : k = 11 * cl
      · rw [if_pos z, if_pos z]
        rfl
      · rw [if_neg z, if_neg z, if_neg (by omega)]
    have h294 : G4 m 29 = cl := (congrFun (u2_a _ _ _ _ (by omega)) 29).trans h293
    obtain ⟨G5, L5, f5, s5, v5⟩ := rl_list (b0 := 11 * cl) hm (by omega) 11 0 (fun _ => 0) (-1) T2 G4 L3 rfl (by decide) (by decide) s4 hC4 (by rw [h294]; omega)
    have z01 : (-1 : Int) + 1 = 0 := rfl
    rw [z01] at s5 v5
    have fr5 : prY G3 L3 G5 L5 m := prY_6.trans f5
    have h295 : G5 m 29 = cl := by rw [fr5.2.1 29 (by decide), h293]
    have i1 : (11 * (cl : Int)).toNat = 11 * cl := by omega
    have eG : u2 G3 (m + 6) (11 * cl) 0 = G4 := rfl
    have st2 : ∀ Q, RK MX10_readsList 0 [.ref m, jk, jk] [] (0, 0) (E, zg G, zk L, r) Q = RK MX10_readsList 51 [.ref m, .int (zi ((11 * cl : Nat) : Int)), .int (zi (-1))] [] (0, 0) (E, zg G4, zk L3, r) Q := fun Q => by
      rw [start Q, show ((11 * cl : Nat) : Int) = 11 * (cl : Int) by omega]
      simp (disch := first | assumption | exact c2_int _ | exact c2_ref _ | exact c2_jk | exact c2_null | omega | exact bI_r _ | exact bI_01 _) only [↓fX10_readsList_0, ↓fX10_readsList_1, ↓fX10_readsList_2, ↓fX10_readsList_5, ↓fX10_readsList_6, ↓fX10_readsList_9, ↓fX10_readsList_10, ↓fX10_readsList_13, ↓fX10_readsList_14, ↓fX10_readsList_15, ↓fX10_readsList_18, ↓fX10_readsList_19, ↓fX10_readsList_22, ↓fX10_readsList_23, ↓fX10_readsList_26, ↓fX10_readsList_27, ↓fX10_readsList_30, ↓fX10_readsList_33, ↓fX10_readsList_34, ↓fX10_readsList_36, ↓fX10_readsList_37, ↓fX10_readsList_40, ↓fX10_readsList_41, ↓fX10_readsList_42, ↓fX10_readsList_43, ↓fX10_readsList_46, ↓fX10_readsList_47, ↓fX10_readsList_48, ↓fX10_readsList_49, ↓fX10_readsList_50, ↓fX10_readsList_52, ↓fX10_readsList_55, ↓fX10_readsList_58, ↓fX10_readsList_59, ↓fX10_readsList_62, ↓fX10_readsList_63, ↓fX10_readsList_64, ↓fX10_readsList_67, ↓fX10_readsList_68, ↓fX10_readsList_71, ↓fX10_readsList_72, ↓fX10_readsList_75, ↓fX10_readsList_76, ↓fX10_readsList_77, ↓fX10_readsList_80, ↓fX10_readsList_81, ↓fX10_readsList_84, ↓fX10_readsList_85, ↓fX10_readsList_88, ↓fX10_readsList_89, ↓fX10_readsList_90, ↓fX10_readsList_93, ↓fX10_readsList_94, ↓fX10_readsList_95, ↓fX10_readsList_98, ↓fX10_readsList_99, ↓fX10_readsList_100, ↓fX10_readsList_101, ↓fX10_readsList_102, ↓fX10_readsList_103, ↓fX10_readsList_106, ↓fX10_readsList_109, ↓fX10_readsList_110, ↓fX10_readsList_113, ↓fX10_readsList_114, ↓fX10_readsList_115, ↓fX10_readsList_118, ↓fX10_readsList_119, ↓fX10_readsList_120, ↓fX10_readsList_122, ↓fX10_readsList_125, ↓fX10_readsList_126, ↓fX10_readsList_129, ↓fX10_readsList_130, ↓fX10_readsList_131, ↓fX10_readsList_134, ↓fX10_readsList_135, ↓fX10_readsList_138, ↓fX10_readsList_141, ↓fX10_readsList_142, ↓fX10_readsList_143, ↓fX10_readsList_146, ↓fX10_readsList_147, ↓fX10_readsList_148, ↓fX10_readsList_151, ↓fX10_readsList_152, ↓fX10_readsList_153, ↓fX10_readsList_154, ↓fX10_readsList_155, ↓fX10_readsList_156, ↓fX10_readsList_157, ↓fX10_readsList_158, ↓fX10_readsList_161, ↓fX10_readsList_162, ↓fX10_readsList_163, ↓fX10_readsList_166, ↓fX10_readsList_167, ↓fX10_readsList_168, ↓fX10_readsList_169, ↓fX10_readsList_170, ↓fX10_readsList_173, ↓fX10_readsList_174, ↓fX10_readsList_175, ↓fX10_readsList_178, ↓fX10_readsList_181, ↓fX10_readsList_182, ↓fX10_readsList_183, ↓fX10_readsList_186, ↓fX10_readsList_187, ↓fX10_readsList_188, ↓fX10_readsList_191, ↓g3', h293, i1, eG, and_self, true_and, and_true, false_and, and_false, not_true_eq_false, not_false_eq_true, or_self, true_or, or_true, false_or, or_false, ite_not, Decidable.not_not, decide_eq_true_eq, Bool.not_true, Bool.not_false, Bool.false_eq_true, Bool.not_eq_true, n10, n20, n21, n30, n31, n32, n40, n41, n42, n43, ↓reduceIte]
    rcases v5 with ⟨c', g', T3, w1, w2, w3, w4⟩ | ⟨e, w1, w2⟩
    · let G6 : Nat → Nat → Int := u2 G5 m 29 (G5 m 29 + 1)
      have fr6 : prQ G5 L5 G6 L5 m := ⟨fun x a b d => u2_a _ _ _ _ a, fun j a b d e => u2_i _ _ _ _ d, fun _ _ _ => rfl, fun _ _ => rfl⟩
      have s6 : rdS G6 L5 m B n (llS B n 11 0 (fun _ => 0) 0 T2) := by
        refine rdS_c s5 (fun j a b => u2_i _ _ _ _ ?_) (u2_a _ _ _ _ (by omega)) rfl
        omega
      have c6 : G6 (m + 6) = lsF (11 * cl) c' g' (G (m + 6)) := (u2_a _ _ _ _ (by omega)).trans w3
      refine ⟨G6, L5, ((prQ_N frN).trans (prQ_Y fr5)).trans fr6, ?_, ?_, by rw [es]; exact s6, fun i g'' T4 h => ?_, fun Q => (st2 Q).trans (w4 Q)⟩
      · show u2 G5 m 29 _ (m + 2) = _
        rw [u2_a _ _ _ _ (by omega), fr5.1 _ (by omega) (by omega), frN.1 _ (by omega)]
      · show u2 G5 m 29 _ m 28 = _
        rw [u2_i _ _ _ _ (by decide), fr5.2.1 28 (by decide), frN.2.1 28 (by decide) (by decide)]
      · rw [h] at pure
        obtain ⟨p0, -, T2', T3', p1, p2⟩ := pure
        rw [q] at p1
        cases p1
        rw [w1] at p2
        cases p2
        refine ⟨nmR_N nm3 ?_ ?_, ?_, w2, ?_, fun j hj => ?_, fun k hk => ?_⟩
        · show u2 G5 m 29 _ m 32 = _
          rw [u2_i _ _ _ _ (by decide), fr5.2.1 32 (by decide)]
        · exact fr5.2.2.1 _ (by omega)
        · show u2 G5 m 29 _ m 29 = _
          rw [u2_s, h295]
        · rw [c6]
          unfold lsF
          rw [if_pos rfl]
        · rw [c6]
          unfold lsF
          rw [if_neg (by omega), if_pos (by omega), show 11 * cl + 1 + j - 11 * cl - 1 = j by omega]
        · rw [c6]
          unfold lsF
          rw [if_neg (by omega), if_neg (by omega)]
    · refine ⟨G5, L5, (prQ_N frN).trans (prQ_Y fr5), ?_, ?_, by rw [es]; exact s5, fun i g'' T4 h => ?_, fun Q => (st2 Q).trans (w2 Q)⟩
      · rw [fr5.1 _ (by omega) (by omega), frN.1 _ (by omega)]
      · rw [fr5.2.1 28 (by decide), frN.2.1 28 (by decide) (by decide)]
      · rw [h] at pure
        obtain ⟨p0, -, T2', T3', p1, p2⟩ := pure
        rw [q] at p1
        cases p1
        rw [w1] at p2
        cases p2
end BM
