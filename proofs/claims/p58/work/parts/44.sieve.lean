/-! readSieve: the rest. -/
def rdTail (B : Int → Int) (n fr by_ ma ki : Int) (T : Int × Int × Int × Int) : Except ER ((Nat → Int) × Int × Int × Int × Int) :=
  match rdLaw B n ki T with
  | .error e => .error e
  | .ok (cn, g, T3) => match rdSign B n T3 with
    | .error e => .error e
    | .ok T4 => .ok (nwS ki fr by_ ma cn g, T4)
/-- what readSieve leaves when it is through -/
def SQ (E : AE) (r : Nat → Nat → Option Nat) (G G' : Nat → Nat → Int) (D : Nat) (B : Int → Int) (n : Int) (cs : Nat) (σ : Nat → Int) (T4 : Int × Int × Int × Int) : Prop := PS E r G' D B n T4 ∧ RF G G' D ∧ G' D 10 = (cs : Int) + 1 ∧ G' D 12 = G D 12 ∧ (G' D 3 = G D 3 ∧ G' D 4 = G D 4) ∧ (∀ x, D < x → ¬ (D + 6 + 6 * cs ≤ x ∧ x ≤ D + 6 + 6 * cs + 5) → G' x = G x) ∧ RS G' (D + 6 + 6 * cs) σ ∧ WF σ
section BS
variable {E : AE} {G G' L : Nat → Nat → Int} {r : Nat → Nat → Option Nat} {h : AH} {Q : AH → Value → Prop} {D S a c l cl cs : Nat} {w : List Int} {i v x b u s e t n lo hi ki fr by_ ma cn : Int} {B : Int → Int} {T T' T4 : Int × Int × Int × Int} {g : Nat → Int}
theorem sieve_fin {G1 K2 : Nat → Nat → Int} {lim : Int} (hcs : cs < 4) (hw : RW G D) (hfr : fr6 G G1 (D + 6 + 6 * cs)) (hp : PS E r K2 D B n T4)
    (k1 : G1 (D + 6 + 6 * cs) 0 = ki ∧ G1 (D + 6 + 6 * cs) 1 = fr ∧ G1 (D + 6 + 6 * cs) 2 = by_ ∧ G1 (D + 6 + 6 * cs) 3 = ma ∧ G1 (D + 6 + 6 * cs) 4 = 0) (k2 : G1 (D + 6 + 6 * cs) 6 = 0 ∧ G1 (D + 6 + 6 * cs) 7 = 0 ∧ G1 (D + 6 + 6 * cs) 8 = 0) (k3 : ∀ j, j < 600 → G1 (D + 6 + 6 * cs + 2) j = 2147483647) (k4 : rgS G1 (D + 6 + 6 * cs)) (k5 : WR G1 (D + 6 + 6 * cs))
    (c0 : ∀ x, x ≠ D → x ≠ D + 6 + 6 * cs → x ≠ D + 6 + 6 * cs + 1 → K2 x = G1 x) (cD : ∀ j, j < 5 ∨ 8 < j → K2 D j = G1 D j) (d2 : ∀ j, j ≠ 4 → K2 (D + 6 + 6 * cs) j = G1 (D + 6 + 6 * cs) j) (d3 : K2 (D + 6 + 6 * cs) 4 = lim) (d4 : 0 ≤ lim ∧ lim ≤ 60) (d5 : ∀ j, 0 ≤ K2 (D + 6 + 6 * cs + 1) j ∧ K2 (D + 6 + 6 * cs + 1) j ≤ 999)
    (h0 : 0 ≤ ki ∧ ki ≤ 5) (h1 : 0 ≤ fr ∧ fr ≤ 999) (h2 : 1 ≤ by_ ∧ by_ ≤ 99) (h3 : 2 ≤ ma ∧ ma ≤ 600) (h4 : ki = 4 → (2 ≤ g 0 ∧ g 0 ≤ 99) ∧ (1 ≤ g 1 ∧ g 1 ≤ 60)) (h5 : ki = 5 → (1 ≤ cn ∧ cn ≤ 12) ∧ ∀ j : Nat, (j : Int) < cn → 2 ≤ g j ∧ g j ≤ 999)
    (d6 : ki = 4 → lim = g 1 ∧ K2 (D + 6 + 6 * cs + 1) 0 = g 0) (d7 : ki = 5 → lim = cn ∧ ∀ j : Nat, (j : Int) < cn → K2 (D + 6 + 6 * cs + 1) j = g j) : SQ E r G (u2 K2 D 10 ((cs : Int) + 1)) D B n cs (nwS ki fr by_ ma cn g) T4 := by
  have hG1 : ∀ x, ¬ (D + 6 + 6 * cs ≤ x ∧ x ≤ D + 6 + 6 * cs + 5) → G1 x = G x := fun x hx => hfr x (by omega)
  have hR : RS (u2 K2 D 10 ((cs : Int) + 1)) (D + 6 + 6 * cs) (nwS ki fr by_ ma cn g) := by
    refine nwS_RS (K := fun x => if x = D then u2 K2 D 10 ((cs : Int) + 1) D else G1 x) (lim := lim) ?_ ?_ ?_ ?_ ?_ (fun x x1 x2 => ?_) (fun j hj => ?_) ?_ d4 ?_ h3 (fun z => (h5 z).1.2) (fun z => ?_) (fun z => ?_)
    · simp only [show ¬ D + 6 + 6 * cs = D by omega, if_false]
      exact k1
    · simp only [show ¬ D + 6 + 6 * cs = D by omega, if_false]
      exact k2
    · simp only [show ¬ D + 6 + 6 * cs + 2 = D by omega, if_false]
      exact k3
    · exact rgS_c (fun x x1 x2 => if_neg (by omega)) k4
    · exact WR_c (fun x x1 x2 => if_neg (by omega)) k5
    · by_cases y : x = D
      · rw [if_pos y, y]
      · rw [if_neg y, u2_a _ _ _ _ y, c0 x y x1 x2]
    · rw [if_neg (by omega), u2_a _ _ _ _ (by omega), d2 j hj]
    · rw [u2_a _ _ _ _ (by omega), d3]
    · rw [u2_a _ _ _ _ (by omega)]
      exact d5
    · rw [u2_a _ _ _ _ (by omega)]
      exact d6 z
    · rw [u2_a _ _ _ _ (by omega)]
      exact d7 z
  refine ⟨PS_c hp (fun x x1 x2 => u2_a _ _ _ _ x2) ⟨u2_i _ _ _ _ (by decide), u2_i _ _ _ _ (by decide), u2_i _ _ _ _ (by decide), u2_i _ _ _ _ (by decide), u2_i _ _ _ _ (by decide)⟩, ⟨fun x hx => ?_, ?_, ?_, ?_, fun t ht => ?_, fun t ht => ?_⟩, u2_s _ _ _ _, ?_, ⟨?_, ?_⟩, fun x x1 x2 => ?_, hR, nwS_WF h0 h1 h2 h3 h4 h5⟩
  · rw [u2_a _ _ _ _ (by omega), c0 x (by omega) (by omega) (by omega), hG1 x (by omega)]
  · rw [u2_a _ _ _ _ (by omega), c0 _ (by omega) (by omega) (by omega), hG1 _ (by omega)]
  · rw [u2_i _ _ _ _ (by decide), cD 1 (by omega), hG1 _ (by omega)]
  · rw [u2_i _ _ _ _ (by decide), cD 2 (by omega), hG1 _ (by omega)]
  · by_cases z : t = cs
    · rw [z]
      exact hR.1
    · refine rgS_c (fun x x1 x2 => ?_) (hw.1 t ht)
      rw [u2_a _ _ _ _ (by omega), c0 x (by omega) (by omega) (by omega), hG1 x (by omega)]
  · refine rgL_c ?_ ?_ (hw.2 t ht)
    · rw [u2_a _ _ _ _ (by omega), c0 _ (by omega) (by omega) (by omega), hG1 _ (by omega)]
    · rw [u2_a _ _ _ _ (by omega), c0 _ (by omega) (by omega) (by omega), hG1 _ (by omega)]
  · rw [u2_i _ _ _ _ (by decide), cD 12 (by omega), hG1 _ (by omega)]
  · rw [u2_i _ _ _ _ (by decide), cD 3 (by omega), hG1 _ (by omega)]
  · rw [u2_i _ _ _ _ (by decide), cD 4 (by omega), hG1 _ (by omega)]
  · rw [u2_a _ _ _ _ (by omega), c0 x (by omega) (by omega) (by omega), hG1 x x2]
theorem RF_gen {G1 K : Nat → Nat → Int} (hw : RW G1 D) (hcs : cs < 4) (c0 : ∀ x, x ≠ D → x ≠ D + 6 + 6 * cs → x ≠ D + 6 + 6 * cs + 1 → K x = G1 x) (cD : ∀ j, j < 5 ∨ 8 < j → K D j = G1 D j) (d2 : ∀ j, j ≠ 4 → K (D + 6 + 6 * cs) j = G1 (D + 6 + 6 * cs) j) (d4 : 0 ≤ K (D + 6 + 6 * cs) 4 ∧ K (D + 6 + 6 * cs) 4 ≤ 60) (d5 : ∀ j, 0 ≤ K (D + 6 + 6 * cs + 1) j ∧ K (D + 6 + 6 * cs + 1) j ≤ 999) : RF G1 K D := by
  refine ⟨fun x hx => c0 x (by omega) (by omega) (by omega), c0 _ (by omega) (by omega) (by omega), cD 1 (by omega), cD 2 (by omega), fun t ht => ?_, fun t ht => rgL_c (c0 _ (by omega) (by omega) (by omega)) (c0 _ (by omega) (by omega) (by omega)) (hw.2 t ht)⟩
  by_cases z : t = cs
  · subst z
    have k4 := hw.1 t ht
    unfold rgS at k4 ⊢
    obtain ⟨q0, q1, q2, q3, q4, q6, q7, q8, q13, qa1, qa2, qa3, qa4, qa5⟩ := k4
    rw [d2 0 (by decide), d2 1 (by decide), d2 2 (by decide), d2 3 (by decide), d2 6 (by decide), d2 7 (by decide), d2 8 (by decide), d2 13 (by decide), c0 (D + 6 + 6 * t + 2) (by omega) (by omega) (by omega), c0 (D + 6 + 6 * t + 3) (by omega) (by omega) (by omega), c0 (D + 6 + 6 * t + 4) (by omega) (by omega) (by omega), c0 (D + 6 + 6 * t + 5) (by omega) (by omega) (by omega)]
    exact ⟨q0, q1, q2, q3, d4, q6, q7, q8, q13, d5, qa2, qa3, qa4, qa5⟩
  · exact rgS_c (fun x x1 x2 => c0 x (by omega) (by omega) (by omega)) (hw.1 t ht)
theorem sieve_tail (hcs : cs < 4) (h : PS E r G D B n T) (hw : RW G D) (hc : G D 10 = cs) (h0 : 0 ≤ ki ∧ ki ≤ 5) (h1 : 0 ≤ fr ∧ fr ≤ 999) (h2 : 1 ≤ by_ ∧ by_ ≤ 99) (h3 : 2 ≤ ma ∧ ma ≤ 600) :
    (∃ σ T4 G', rdTail B n fr by_ ma ki T = .ok (σ, T4) ∧ SQ E r G G' D B n cs σ T4 ∧ ∀ Q, RK MX5_readSieve 129 [.ref D, .ref (D + 6 + 6 * cs), .int (zi fr), .int (zi by_), .int (zi ma), .int (zi ki)] [] (0, 0) (E, zg G, zk L, r) Q = Q (E, zg G', zk L, r) (.int (zi 1))) ∨
    (∃ (k : Int) (T' : Int × Int × Int × Int) (H : Nat → Nat → Int), rdTail B n fr by_ ma ki T = .error (k, T') ∧ RF G H D ∧ ∀ Q, RK MX5_readSieve 129 [.ref D, .ref (D + 6 + 6 * cs), .int (zi fr), .int (zi by_), .int (zi ma), .int (zi ki)] [] (0, 0) (E, zg G, zk L, r) Q = Q (E, zg (faG H D k T'.2.1), zk L, r) (.int (zi 0))) := by
  have hD0 := h.1.1
  have hs := (h.1.2.2.2.2.1 cs hcs).1
  have hS0 := hs.1
  obtain ⟨G1, f1, k1, k2, k6, k3, k4, k5, e1⟩ := c7_set (L := L) hs (hw.1 cs hcs) h0 h1 h2 h3
  have c0 : ∀ x, ¬ (D + 6 + 6 * cs ≤ x ∧ x ≤ D + 6 + 6 * cs + 5) → G1 x = G x := fun x hx => f1 x (by omega)
  have p1 : PS E r G1 D B n T := PS_c h (fun x x1 x2 => c0 x (by omega)) (by rw [c0 D (by omega)]; exact ⟨rfl, rfl, rfl, rfl, rfl⟩)
  have w1 : RW G1 D := ⟨fun t ht => by
    by_cases z : t = cs
    · rw [z]
      exact k4
    · exact rgS_c (fun x x1 x2 => c0 x (by omega)) (hw.1 t ht), fun t ht => rgL_c (c0 _ (by omega)) (c0 _ (by omega)) (hw.2 t ht)⟩
  have F1 : RF G G1 D := ⟨fun x hx => c0 x (by omega), c0 _ (by omega), by rw [c0 D (by omega)], by rw [c0 D (by omega)], w1⟩
  have e10 : G1 D 10 = cs := by rw [c0 D (by omega), hc]
  have r1 := k4.2.2.2.2.2.2.2.2.2.1
  -- what is after the law
  have fin : ∀ (K : Nat → Nat → Int) (T3 : Int × Int × Int × Int) (cn : Int) (g : Nat → Int) (lim : Int), PS E r K D B n T3 → (∀ x, x ≠ D → x ≠ D + 6 + 6 * cs → x ≠ D + 6 + 6 * cs + 1 → K x = G1 x) → (∀ j, j < 5 ∨ 8 < j → K D j = G1 D j) → (∀ j, j ≠ 4 → K (D + 6 + 6 * cs) j = G1 (D + 6 + 6 * cs) j) → K (D + 6 + 6 * cs) 4 = lim → (0 ≤ lim ∧ lim ≤ 60) → (∀ j, 0 ≤ K (D + 6 + 6 * cs + 1) j ∧ K (D + 6 + 6 * cs + 1) j ≤ 999) → (ki = 4 → (2 ≤ g 0 ∧ g 0 ≤ 99) ∧ (1 ≤ g 1 ∧ g 1 ≤ 60)) → (ki = 5 → (1 ≤ cn ∧ cn ≤ 12) ∧ ∀ j : Nat, (j : Int) < cn → 2 ≤ g j ∧ g j ≤ 999) → (ki = 4 → lim = g 1 ∧ K (D + 6 + 6 * cs + 1) 0 = g 0) → (ki = 5 → lim = cn ∧ ∀ j : Nat, (j : Int) < cn → K (D + 6 + 6 * cs + 1) j = g j) → rdLaw B n ki T = .ok (cn, g, T3) →
      (∃ σ T4 G', rdTail B n fr by_ ma ki T = .ok (σ, T4) ∧ SQ E r G G' D B n cs σ T4 ∧ ∀ Q, RK MX5_readSieve 171 [.ref D, .ref (D + 6 + 6 * cs), .int (zi fr), .int (zi by_), .int (zi ma), .int (zi ki)] [] (0, 0) (E, zg K, zk L, r) Q = Q (E, zg G', zk L, r) (.int (zi 1))) ∨ (∃ (k : Int) (T' : Int × Int × Int × Int) (H : Nat → Nat → Int), rdTail B n fr by_ ma ki T = .error (k, T') ∧ RF G H D ∧ ∀ Q, RK MX5_readSieve 171 [.ref D, .ref (D + 6 + 6 * cs), .int (zi fr), .int (zi by_), .int (zi ma), .int (zi ki)] [] (0, 0) (E, zg K, zk L, r) Q = Q (E, zg (faG H D k T'.2.1), zk L, r) (.int (zi 0))) := by
    intro K T3 cn g lim hp b0 bD' b2 b3 b4 b5 b6 b7 b8 b9 hl
    unfold rdTail
    simp only [hl]
    rcases PS_sign (L := L) hp with ⟨T4, s1, s2, s3⟩ | ⟨k, T', s1, s2⟩
    · simp only [s1]
      have q := fun x (hx : x ≠ D) => seT_q (G := K) (T := T4) (D := D) hx
      refine Or.inl ⟨_, T4, u2 (seT K D T4) D 10 ((cs : Int) + 1), rfl, sieve_fin (G1 := G1) (lim := lim) hcs hw f1 s2 k1 k2 k3 k4 k5 (fun x x1 x2 x3 => (q x x1).trans (b0 x x1 x2 x3)) (fun j hj => (seT_j hj).trans (bD' j hj)) (fun j hj => by rw [q _ (by omega)]; exact b2 j hj) (by rw [q _ (by omega)]; exact b3) b4 (by rw [q _ (by omega)]; exact b5) h0 h1 h2 h3 b6 b7 (by rw [q _ (by omega)]; exact b8) (by rw [q _ (by omega)]; exact b9), fun Q => ?_⟩
      have e12 : seT K D T4 D 10 = cs := (seT_j (by omega)).trans ((bD' 10 (by omega)).trans e10)
      simp (disch := first | assumption | exact c2_int _ | exact c2_ref _ | exact c2_jk | exact c2_null | omega | (apply rN1; assumption) | (apply rN2; assumption) | (apply rN3; assumption) | (apply rN4; assumption) | exact bI_r _ | exact bI_01 _) only [↓fX5_readSieve_0, ↓fX5_readSieve_1, ↓fX5_readSieve_2, ↓fX5_readSieve_5, ↓fX5_readSieve_8, ↓fX5_readSieve_8n, ↓fX5_readSieve_9, ↓fX5_readSieve_9n, ↓fX5_readSieve_10, ↓fX5_readSieve_10r, ↓fX5_readSieve_13, ↓fX5_readSieve_14, ↓fX5_readSieve_15, ↓fX5_readSieve_18, ↓fX5_readSieve_19, ↓fX5_readSieve_20, ↓fX5_readSieve_23, ↓fX5_readSieve_24, ↓fX5_readSieve_27, ↓fX5_readSieve_30, ↓fX5_readSieve_31, ↓fX5_readSieve_33, ↓fX5_readSieve_36, ↓fX5_readSieve_39, ↓fX5_readSieve_40, ↓fX5_readSieve_41, ↓fX5_readSieve_42, ↓fX5_readSieve_43, ↓fX5_readSieve_46, ↓fX5_readSieve_49, ↓fX5_readSieve_50, ↓fX5_readSieve_51, ↓fX5_readSieve_52, ↓fX5_readSieve_55, ↓fX5_readSieve_56, ↓fX5_readSieve_58, ↓fX5_readSieve_61, ↓fX5_readSieve_64, ↓fX5_readSieve_65, ↓fX5_readSieve_66, ↓fX5_readSieve_67, ↓fX5_readSieve_68, ↓fX5_readSieve_70, ↓fX5_readSieve_73, ↓fX5_readSieve_74, ↓fX5_readSieve_75, ↓fX5_readSieve_76, ↓fX5_readSieve_79, ↓fX5_readSieve_80, ↓fX5_readSieve_82, ↓fX5_readSieve_85, ↓fX5_readSieve_88, ↓fX5_readSieve_89, ↓fX5_readSieve_90, ↓fX5_readSieve_91, ↓fX5_readSieve_92, ↓fX5_readSieve_95, ↓fX5_readSieve_98, ↓fX5_readSieve_100, ↓fX5_readSieve_102, ↓fX5_readSieve_103, ↓fX5_readSieve_106, ↓fX5_readSieve_107, ↓fX5_readSieve_108, ↓fX5_readSieve_109, ↓fX5_readSieve_112, ↓fX5_readSieve_114, ↓fX5_readSieve_116, ↓fX5_readSieve_117, ↓fX5_readSieve_120, ↓fX5_readSieve_121, ↓fX5_readSieve_124, ↓fX5_readSieve_125, ↓fX5_readSieve_126, ↓fX5_readSieve_129, ↓fX5_readSieve_129n, ↓fX5_readSieve_130, ↓fX5_readSieve_132, ↓fX5_readSieve_133, ↓fX5_readSieve_134, ↓fX5_readSieve_136, ↓fX5_readSieve_139, ↓fX5_readSieve_141, ↓fX5_readSieve_142, ↓fX5_readSieve_145, ↓fX5_readSieve_146, ↓fX5_readSieve_146n, ↓fX5_readSieve_147, ↓fX5_readSieve_150, ↓fX5_readSieve_153, ↓fX5_readSieve_154, ↓fX5_readSieve_155, ↓fX5_readSieve_157, ↓fX5_readSieve_158, ↓fX5_readSieve_161, ↓fX5_readSieve_162, ↓fX5_readSieve_162n, ↓fX5_readSieve_163, ↓fX5_readSieve_166, ↓fX5_readSieve_169, ↓fX5_readSieve_170, ↓fX5_readSieve_171, ↓fX5_readSieve_172, ↓fX5_readSieve_175, ↓fX5_readSieve_178, ↓fX5_readSieve_179, ↓fX5_readSieve_180, ↓fX5_readSieve_181, ↓fX5_readSieve_182, ↓fX5_readSieve_185, ↓fX5_readSieve_186, ↓fX5_readSieve_187, ↓fX5_readSieve_190, ↓fX5_readSieve_191, ↓s3, e12, and_self, true_and, and_true, false_and, and_false, not_true_eq_false, not_false_eq_true, or_self, true_or, or_true, false_or, or_false, ite_not, Decidable.not_not, decide_eq_true_eq, Bool.not_true, Bool.not_false, Bool.false_eq_true, Bool.not_eq_true, n10, n20, n21, n30, n31, n32, n40, n41, n42, n43, ↓reduceIte]
    · simp only [s1]
      have f3 : RF G1 K D := RF_gen w1 hcs b0 bD' b2 (by rw [b3]; exact b4) b5
      refine Or.inr ⟨k, T', seT K D T', rfl, (F1.trans f3).trans (RF_se f3.2.2.2.2), fun Q => ?_⟩
      simp (disch := first | assumption | exact c2_int _ | exact c2_ref _ | exact c2_jk | exact c2_null | omega | (apply rN1; assumption) | (apply rN2; assumption) | (apply rN3; assumption) | (apply rN4; assumption) | exact bI_r _ | exact bI_01 _) only [↓fX5_readSieve_0, ↓fX5_readSieve_1, ↓fX5_readSieve_2, ↓fX5_readSieve_5, ↓fX5_readSieve_8, ↓fX5_readSieve_8n, ↓fX5_readSieve_9, ↓fX5_readSieve_9n, ↓fX5_readSieve_10, ↓fX5_readSieve_10r, ↓fX5_readSieve_13, ↓fX5_readSieve_14, ↓fX5_readSieve_15, ↓fX5_readSieve_18, ↓fX5_readSieve_19, ↓fX5_readSieve_20, ↓fX5_readSieve_23, ↓fX5_readSieve_24, ↓fX5_readSieve_27, ↓fX5_readSieve_30, ↓fX5_readSieve_31, ↓fX5_readSieve_33, ↓fX5_readSieve_36, ↓fX5_readSieve_39, ↓fX5_readSieve_40, ↓fX5_readSieve_41, ↓fX5_readSieve_42, ↓fX5_readSieve_43, ↓fX5_readSieve_46, ↓fX5_readSieve_49, ↓fX5_readSieve_50, ↓fX5_readSieve_51, ↓fX5_readSieve_52, ↓fX5_readSieve_55, ↓fX5_readSieve_56, ↓fX5_readSieve_58, ↓fX5_readSieve_61, ↓fX5_readSieve_64, ↓fX5_readSieve_65, ↓fX5_readSieve_66, ↓fX5_readSieve_67, ↓fX5_readSieve_68, ↓fX5_readSieve_70, ↓fX5_readSieve_73, ↓fX5_readSieve_74, ↓fX5_readSieve_75, ↓fX5_readSieve_76, ↓fX5_readSieve_79, ↓fX5_readSieve_80, ↓fX5_readSieve_82, ↓fX5_readSieve_85, ↓fX5_readSieve_88, ↓fX5_readSieve_89, ↓fX5_readSieve_90, ↓fX5_readSieve_91, ↓fX5_readSieve_92, ↓fX5_readSieve_95, ↓fX5_readSieve_98, ↓fX5_readSieve_100, ↓fX5_readSieve_102, ↓fX5_readSieve_103, ↓fX5_readSieve_106, ↓fX5_readSieve_107, ↓fX5_readSieve_108, ↓fX5_readSieve_109, ↓fX5_readSieve_112, ↓fX5_readSieve_114, ↓fX5_readSieve_116, ↓fX5_readSieve_117, ↓fX5_readSieve_120, ↓fX5_readSieve_121, ↓fX5_readSieve_124, ↓fX5_readSieve_125, ↓fX5_readSieve_126, ↓fX5_readSieve_129, ↓fX5_readSieve_129n, ↓fX5_readSieve_130, ↓fX5_readSieve_132, ↓fX5_readSieve_133, ↓fX5_readSieve_134, ↓fX5_readSieve_136, ↓fX5_readSieve_139, ↓fX5_readSieve_141, ↓fX5_readSieve_142, ↓fX5_readSieve_145, ↓fX5_readSieve_146, ↓fX5_readSieve_146n, ↓fX5_readSieve_147, ↓fX5_readSieve_150, ↓fX5_readSieve_153, ↓fX5_readSieve_154, ↓fX5_readSieve_155, ↓fX5_readSieve_157, ↓fX5_readSieve_158, ↓fX5_readSieve_161, ↓fX5_readSieve_162, ↓fX5_readSieve_162n, ↓fX5_readSieve_163, ↓fX5_readSieve_166, ↓fX5_readSieve_169, ↓fX5_readSieve_170, ↓fX5_readSieve_171, ↓fX5_readSieve_172, ↓fX5_readSieve_175, ↓fX5_readSieve_178, ↓fX5_readSieve_179, ↓fX5_readSieve_180, ↓fX5_readSieve_181, ↓fX5_readSieve_182, ↓fX5_readSieve_185, ↓fX5_readSieve_186, ↓fX5_readSieve_187, ↓fX5_readSieve_190, ↓fX5_readSieve_191, ↓s2, and_self, true_and, and_true, false_and, and_false, not_true_eq_false, not_false_eq_true, or_self, true_or, or_true, false_or, or_false, ite_not, Decidable.not_not, decide_eq_true_eq, Bool.not_true, Bool.not_false, Bool.false_eq_true, Bool.not_eq_true, n10, n20, n21, n30, n31, n32, n40, n41, n42, n43, ↓reduceIte]
  have a1 : I32 ki := by omega
  by_cases k4' : ki = 4
  · have k5' : ¬ ki = 5 := by omega
    have n45 : ((4 : Int) = 5) = False := by decide
    rcases PS_fixed (L := L) p1 hs (by omega) with ⟨g, m, T3, b1, b2, b3, b4, b5⟩ | ⟨k, T', b1, b2⟩
    · have hl : rdLaw B n ki T = .ok (0, (fun j => if j = 0 then g else if j = 1 then m else 0), T3) := by
        unfold rdLaw
        rw [if_pos k4']
        simp only [b1]
      have q1 : ∀ x, x ≠ D + 6 + 6 * cs → x ≠ D + 6 + 6 * cs + 1 → fxG (seT G1 D T3) (D + 6 + 6 * cs) g m x = seT G1 D T3 x := fun x x1 x2 => (u2_a _ _ _ _ x1).trans (u2_a _ _ _ _ x2)
      have q4 : fxG (seT G1 D T3) (D + 6 + 6 * cs) g m (D + 6 + 6 * cs) 4 = m := u2_s _ _ _ _
      have q0 : ∀ j, fxG (seT G1 D T3) (D + 6 + 6 * cs) g m (D + 6 + 6 * cs + 1) j = if j = 0 then g else G1 (D + 6 + 6 * cs + 1) j := fun j => by
        unfold fxG
        rw [u2_a _ _ _ _ (by omega)]
        show (if D + 6 + 6 * cs + 1 = D + 6 + 6 * cs + 1 ∧ j = 0 then g else seT G1 D T3 (D + 6 + 6 * cs + 1) j) = _
        rw [seT_q (by omega)]
        simp only [true_and]
      have ff := fin (fxG (seT G1 D T3) (D + 6 + 6 * cs) g m) T3 0 _ m b4 (fun x x1 x2 x3 => (q1 x x2 x3).trans (seT_q x1)) (fun j hj => by rw [q1 D (by omega) (by omega)]; exact seT_j hj) (fun j hj => by
          unfold fxG
          rw [u2_i _ _ _ _ hj, u2_a _ _ _ _ (by omega), seT_q (by omega)]) q4 (by omega) (fun j => by
          rw [q0]
          split
          · omega
          · exact r1 j) (fun _ => ⟨b2, b3⟩) (fun z => absurd z k5') (fun _ => ⟨rfl, by rw [q0]; rfl⟩) (fun z => absurd z k5') hl
      have st : ∀ Q, RK MX5_readSieve 129 [.ref D, .ref (D + 6 + 6 * cs), .int (zi fr), .int (zi by_), .int (zi ma), .int (zi ki)] [] (0, 0) (E, zg G, zk L, r) Q = RK MX5_readSieve 171 [.ref D, .ref (D + 6 + 6 * cs), .int (zi fr), .int (zi by_), .int (zi ma), .int (zi ki)] [] (0, 0) (E, zg (fxG (seT G1 D T3) (D + 6 + 6 * cs) g m), zk L, r) Q := fun Q => by
        simp (disch := first | assumption | exact c2_int _ | exact c2_ref _ | exact c2_jk | exact c2_null | omega | (apply rN1; assumption) | (apply rN2; assumption) | (apply rN3; assumption) | (apply rN4; assumption) | exact bI_r _ | exact bI_01 _) only [↓fX5_readSieve_0, ↓fX5_readSieve_1, ↓fX5_readSieve_2, ↓fX5_readSieve_5, ↓fX5_readSieve_8, ↓fX5_readSieve_8n, ↓fX5_readSieve_9, ↓fX5_readSieve_9n, ↓fX5_readSieve_10, ↓fX5_readSieve_10r, ↓fX5_readSieve_13, ↓fX5_readSieve_14, ↓fX5_readSieve_15, ↓fX5_readSieve_18, ↓fX5_readSieve_19, ↓fX5_readSieve_20, ↓fX5_readSieve_23, ↓fX5_readSieve_24, ↓fX5_readSieve_27, ↓fX5_readSieve_30, ↓fX5_readSieve_31, ↓fX5_readSieve_33, ↓fX5_readSieve_36, ↓fX5_readSieve_39, ↓fX5_readSieve_40, ↓fX5_readSieve_41, ↓fX5_readSieve_42, ↓fX5_readSieve_43, ↓fX5_readSieve_46, ↓fX5_readSieve_49, ↓fX5_readSieve_50, ↓fX5_readSieve_51, ↓fX5_readSieve_52, ↓fX5_readSieve_55, ↓fX5_readSieve_56, ↓fX5_readSieve_58, ↓fX5_readSieve_61, ↓fX5_readSieve_64, ↓fX5_readSieve_65, ↓fX5_readSieve_66, ↓fX5_readSieve_67, ↓fX5_readSieve_68, ↓fX5_readSieve_70, ↓fX5_readSieve_73, ↓fX5_readSieve_74, ↓fX5_readSieve_75, ↓fX5_readSieve_76, ↓fX5_readSieve_79, ↓fX5_readSieve_80, ↓fX5_readSieve_82, ↓fX5_readSieve_85, ↓fX5_readSieve_88, ↓fX5_readSieve_89, ↓fX5_readSieve_90, ↓fX5_readSieve_91, ↓fX5_readSieve_92, ↓fX5_readSieve_95, ↓fX5_readSieve_98, ↓fX5_readSieve_100, ↓fX5_readSieve_102, ↓fX5_readSieve_103, ↓fX5_readSieve_106, ↓fX5_readSieve_107, ↓fX5_readSieve_108, ↓fX5_readSieve_109, ↓fX5_readSieve_112, ↓fX5_readSieve_114, ↓fX5_readSieve_116, ↓fX5_readSieve_117, ↓fX5_readSieve_120, ↓fX5_readSieve_121, ↓fX5_readSieve_124, ↓fX5_readSieve_125, ↓fX5_readSieve_126, ↓fX5_readSieve_129, ↓fX5_readSieve_129n, ↓fX5_readSieve_130, ↓fX5_readSieve_132, ↓fX5_readSieve_133, ↓fX5_readSieve_134, ↓fX5_readSieve_136, ↓fX5_readSieve_139, ↓fX5_readSieve_141, ↓fX5_readSieve_142, ↓fX5_readSieve_145, ↓fX5_readSieve_146, ↓fX5_readSieve_146n, ↓fX5_readSieve_147, ↓fX5_readSieve_150, ↓fX5_readSieve_153, ↓fX5_readSieve_154, ↓fX5_readSieve_155, ↓fX5_readSieve_157, ↓fX5_readSieve_158, ↓fX5_readSieve_161, ↓fX5_readSieve_162, ↓fX5_readSieve_162n, ↓fX5_readSieve_163, ↓fX5_readSieve_166, ↓fX5_readSieve_169, ↓fX5_readSieve_170, ↓fX5_readSieve_172, ↓fX5_readSieve_175, ↓fX5_readSieve_178, ↓fX5_readSieve_179, ↓fX5_readSieve_180, ↓fX5_readSieve_181, ↓fX5_readSieve_182, ↓fX5_readSieve_185, ↓fX5_readSieve_186, ↓fX5_readSieve_187, ↓fX5_readSieve_190, ↓fX5_readSieve_191, ↓e1, ↓b5, k4', k5', n45, and_self, true_and, and_true, false_and, and_false, not_true_eq_false, not_false_eq_true, or_self, true_or, or_true, false_or, or_false, ite_not, Decidable.not_not, decide_eq_true_eq, Bool.not_true, Bool.not_false, Bool.false_eq_true, Bool.not_eq_true, n10, n20, n21, n30, n31, n32, n40, n41, n42, n43, ↓reduceIte]
      rcases ff with ⟨σ, T4, G', t1, t2, t3⟩ | ⟨k, T', H, t1, t2, t3⟩
      · exact Or.inl ⟨σ, T4, G', t1, t2, fun Q => (st Q).trans (t3 Q)⟩
      · exact Or.inr ⟨k, T', H, t1, t2, fun Q => (st Q).trans (t3 Q)⟩
    · refine Or.inr ⟨k, T', seT G1 D T', ?_, F1.trans (RF_se w1), fun Q => ?_⟩
      · unfold rdTail rdLaw
        rw [if_pos k4']
        simp only [b1]
      · simp (disch := first | assumption | exact c2_int _ | exact c2_ref _ | exact c2_jk | exact c2_null | omega | (apply rN1; assumption) | (apply rN2; assumption) | (apply rN3; assumption) | (apply rN4; assumption) | exact bI_r _ | exact bI_01 _) only [↓fX5_readSieve_0, ↓fX5_readSieve_1, ↓fX5_readSieve_2, ↓fX5_readSieve_5, ↓fX5_readSieve_8, ↓fX5_readSieve_8n, ↓fX5_readSieve_9, ↓fX5_readSieve_9n, ↓fX5_readSieve_10, ↓fX5_readSieve_10r, ↓fX5_readSieve_13, ↓fX5_readSieve_14, ↓fX5_readSieve_15, ↓fX5_readSieve_18, ↓fX5_readSieve_19, ↓fX5_readSieve_20, ↓fX5_readSieve_23, ↓fX5_readSieve_24, ↓fX5_readSieve_27, ↓fX5_readSieve_30, ↓fX5_readSieve_31, ↓fX5_readSieve_33, ↓fX5_readSieve_36, ↓fX5_readSieve_39, ↓fX5_readSieve_40, ↓fX5_readSieve_41, ↓fX5_readSieve_42, ↓fX5_readSieve_43, ↓fX5_readSieve_46, ↓fX5_readSieve_49, ↓fX5_readSieve_50, ↓fX5_readSieve_51, ↓fX5_readSieve_52, ↓fX5_readSieve_55, ↓fX5_readSieve_56, ↓fX5_readSieve_58, ↓fX5_readSieve_61, ↓fX5_readSieve_64, ↓fX5_readSieve_65, ↓fX5_readSieve_66, ↓fX5_readSieve_67, ↓fX5_readSieve_68, ↓fX5_readSieve_70, ↓fX5_readSieve_73, ↓fX5_readSieve_74, ↓fX5_readSieve_75, ↓fX5_readSieve_76, ↓fX5_readSieve_79, ↓fX5_readSieve_80, ↓fX5_readSieve_82, ↓fX5_readSieve_85, ↓fX5_readSieve_88, ↓fX5_readSieve_89, ↓fX5_readSieve_90, ↓fX5_readSieve_91, ↓fX5_readSieve_92, ↓fX5_readSieve_95, ↓fX5_readSieve_98, ↓fX5_readSieve_100, ↓fX5_readSieve_102, ↓fX5_readSieve_103, ↓fX5_readSieve_106, ↓fX5_readSieve_107, ↓fX5_readSieve_108, ↓fX5_readSieve_109, ↓fX5_readSieve_112, ↓fX5_readSieve_114, ↓fX5_readSieve_116, ↓fX5_readSieve_117, ↓fX5_readSieve_120, ↓fX5_readSieve_121, ↓fX5_readSieve_124, ↓fX5_readSieve_125, ↓fX5_readSieve_126, ↓fX5_readSieve_129, ↓fX5_readSieve_129n, ↓fX5_readSieve_130, ↓fX5_readSieve_132, ↓fX5_readSieve_133, ↓fX5_readSieve_134, ↓fX5_readSieve_136, ↓fX5_readSieve_139, ↓fX5_readSieve_141, ↓fX5_readSieve_142, ↓fX5_readSieve_145, ↓fX5_readSieve_146, ↓fX5_readSieve_146n, ↓fX5_readSieve_147, ↓fX5_readSieve_150, ↓fX5_readSieve_153, ↓fX5_readSieve_154, ↓fX5_readSieve_155, ↓fX5_readSieve_157, ↓fX5_readSieve_158, ↓fX5_readSieve_161, ↓fX5_readSieve_162, ↓fX5_readSieve_162n, ↓fX5_readSieve_163, ↓fX5_readSieve_166, ↓fX5_readSieve_169, ↓fX5_readSieve_170, ↓fX5_readSieve_172, ↓fX5_readSieve_175, ↓fX5_readSieve_178, ↓fX5_readSieve_179, ↓fX5_readSieve_180, ↓fX5_readSieve_181, ↓fX5_readSieve_182, ↓fX5_readSieve_185, ↓fX5_readSieve_186, ↓fX5_readSieve_187, ↓fX5_readSieve_190, ↓fX5_readSieve_191, ↓e1, ↓b2, k4', and_self, true_and, and_true, false_and, and_false, not_true_eq_false, not_false_eq_true, or_self, true_or, or_true, false_or, or_false, ite_not, Decidable.not_not, decide_eq_true_eq, Bool.not_true, Bool.not_false, Bool.false_eq_true, Bool.not_eq_true, n10, n20, n21, n30, n31, n32, n40, n41, n42, n43, ↓reduceIte]
  · by_cases k5' : ki = 5
    · rcases PS_told (L := L) p1 hs (by omega) with ⟨c, g, T3, b1, b2, b3, b4, b5⟩ | ⟨k, T', c, g, b1, b2, b3, b4⟩
      · have hl : rdLaw B n ki T = .ok ((c : Int), g, T3) := by
          unfold rdLaw
          rw [if_neg k4', if_pos k5']
          simp only [b1]
        have q1 : ∀ x, x ≠ D + 6 + 6 * cs → x ≠ D + 6 + 6 * cs + 1 → tlG (seT G1 D T3) (D + 6 + 6 * cs) c g x = seT G1 D T3 x := fun x x1 x2 => tlG_q x1 x2
        have q0 : ∀ j, tlG (seT G1 D T3) (D + 6 + 6 * cs) c g (D + 6 + 6 * cs + 1) j = if j < c then g j else G1 (D + 6 + 6 * cs + 1) j := fun j => by
          show (if D + 6 + 6 * cs + 1 = D + 6 + 6 * cs + 1 ∧ j < c then g j else if D + 6 + 6 * cs + 1 = D + 6 + 6 * cs ∧ j = 4 ∧ 0 < c then (c : Int) else seT G1 D T3 (D + 6 + 6 * cs + 1) j) = _
          rw [seT_q (by omega), if_neg (show ¬ (D + 6 + 6 * cs + 1 = D + 6 + 6 * cs ∧ j = 4 ∧ 0 < c) by omega)]
          simp only [true_and]
        have qS : ∀ j, tlG (seT G1 D T3) (D + 6 + 6 * cs) c g (D + 6 + 6 * cs) j = if j = 4 ∧ 0 < c then (c : Int) else G1 (D + 6 + 6 * cs) j := fun j => by
          show (if D + 6 + 6 * cs = D + 6 + 6 * cs + 1 ∧ j < c then g j else if D + 6 + 6 * cs = D + 6 + 6 * cs ∧ j = 4 ∧ 0 < c then (c : Int) else seT G1 D T3 (D + 6 + 6 * cs) j) = _
          rw [seT_q (by omega), if_neg (show ¬ (D + 6 + 6 * cs = D + 6 + 6 * cs + 1 ∧ j < c) by omega)]
          simp only [true_and]
        have ff := fin (tlG (seT G1 D T3) (D + 6 + 6 * cs) c g) T3 c g c (PS_tl (by omega) b4) (fun x x1 x2 x3 => (q1 x x2 x3).trans (seT_q x1)) (fun j hj => by rw [q1 D (by omega) (by omega)]; exact seT_j hj) (fun j hj => by rw [qS, if_neg (by omega)]) (by rw [qS, if_pos (by omega)]) (by omega) (fun j => by
            rw [q0]
            split
            · have := b3 j (by assumption)
              omega
            · exact r1 j) (fun z => absurd z k4') (fun _ => ⟨by omega, fun j hj => b3 j (by omega)⟩) (fun z => absurd z k4') (fun _ => ⟨rfl, fun j hj => by rw [q0, if_pos (by omega)]⟩) hl
        have st : ∀ Q, RK MX5_readSieve 129 [.ref D, .ref (D + 6 + 6 * cs), .int (zi fr), .int (zi by_), .int (zi ma), .int (zi ki)] [] (0, 0) (E, zg G, zk L, r) Q = RK MX5_readSieve 171 [.ref D, .ref (D + 6 + 6 * cs), .int (zi fr), .int (zi by_), .int (zi ma), .int (zi ki)] [] (0, 0) (E, zg (tlG (seT G1 D T3) (D + 6 + 6 * cs) c g), zk L, r) Q := fun Q => by
          have n54 : ((5 : Int) = 4) = False := by decide
          simp (disch := first | assumption | exact c2_int _ | exact c2_ref _ | exact c2_jk | exact c2_null | omega | (apply rN1; assumption) | (apply rN2; assumption) | (apply rN3; assumption) | (apply rN4; assumption) | exact bI_r _ | exact bI_01 _) only [↓fX5_readSieve_0, ↓fX5_readSieve_1, ↓fX5_readSieve_2, ↓fX5_readSieve_5, ↓fX5_readSieve_8, ↓fX5_readSieve_8n, ↓fX5_readSieve_9, ↓fX5_readSieve_9n, ↓fX5_readSieve_10, ↓fX5_readSieve_10r, ↓fX5_readSieve_13, ↓fX5_readSieve_14, ↓fX5_readSieve_15, ↓fX5_readSieve_18, ↓fX5_readSieve_19, ↓fX5_readSieve_20, ↓fX5_readSieve_23, ↓fX5_readSieve_24, ↓fX5_readSieve_27, ↓fX5_readSieve_30, ↓fX5_readSieve_31, ↓fX5_readSieve_33, ↓fX5_readSieve_36, ↓fX5_readSieve_39, ↓fX5_readSieve_40, ↓fX5_readSieve_41, ↓fX5_readSieve_42, ↓fX5_readSieve_43, ↓fX5_readSieve_46, ↓fX5_readSieve_49, ↓fX5_readSieve_50, ↓fX5_readSieve_51, ↓fX5_readSieve_52, ↓fX5_readSieve_55, ↓fX5_readSieve_56, ↓fX5_readSieve_58, ↓fX5_readSieve_61, ↓fX5_readSieve_64, ↓fX5_readSieve_65, ↓fX5_readSieve_66, ↓fX5_readSieve_67, ↓fX5_readSieve_68, ↓fX5_readSieve_70, ↓fX5_readSieve_73, ↓fX5_readSieve_74, ↓fX5_readSieve_75, ↓fX5_readSieve_76, ↓fX5_readSieve_79, ↓fX5_readSieve_80, ↓fX5_readSieve_82, ↓fX5_readSieve_85, ↓fX5_readSieve_88, ↓fX5_readSieve_89, ↓fX5_readSieve_90, ↓fX5_readSieve_91, ↓fX5_readSieve_92, ↓fX5_readSieve_95, ↓fX5_readSieve_98, ↓fX5_readSieve_100, ↓fX5_readSieve_102, ↓fX5_readSieve_103, ↓fX5_readSieve_106, ↓fX5_readSieve_107, ↓fX5_readSieve_108, ↓fX5_readSieve_109, ↓fX5_readSieve_112, ↓fX5_readSieve_114, ↓fX5_readSieve_116, ↓fX5_readSieve_117, ↓fX5_readSieve_120, ↓fX5_readSieve_121, ↓fX5_readSieve_124, ↓fX5_readSieve_125, ↓fX5_readSieve_126, ↓fX5_readSieve_129, ↓fX5_readSieve_129n, ↓fX5_readSieve_130, ↓fX5_readSieve_132, ↓fX5_readSieve_133, ↓fX5_readSieve_134, ↓fX5_readSieve_136, ↓fX5_readSieve_139, ↓fX5_readSieve_141, ↓fX5_readSieve_142, ↓fX5_readSieve_145, ↓fX5_readSieve_146, ↓fX5_readSieve_146n, ↓fX5_readSieve_147, ↓fX5_readSieve_150, ↓fX5_readSieve_153, ↓fX5_readSieve_154, ↓fX5_readSieve_155, ↓fX5_readSieve_157, ↓fX5_readSieve_158, ↓fX5_readSieve_161, ↓fX5_readSieve_162, ↓fX5_readSieve_162n, ↓fX5_readSieve_163, ↓fX5_readSieve_166, ↓fX5_readSieve_169, ↓fX5_readSieve_170, ↓fX5_readSieve_172, ↓fX5_readSieve_175, ↓fX5_readSieve_178, ↓fX5_readSieve_179, ↓fX5_readSieve_180, ↓fX5_readSieve_181, ↓fX5_readSieve_182, ↓fX5_readSieve_185, ↓fX5_readSieve_186, ↓fX5_readSieve_187, ↓fX5_readSieve_190, ↓fX5_readSieve_191, ↓e1, ↓b5, k4', k5', n54, and_self, true_and, and_true, false_and, and_false, not_true_eq_false, not_false_eq_true, or_self, true_or, or_true, false_or, or_false, ite_not, Decidable.not_not, decide_eq_true_eq, Bool.not_true, Bool.not_false, Bool.false_eq_true, Bool.not_eq_true, n10, n20, n21, n30, n31, n32, n40, n41, n42, n43, ↓reduceIte]
        rcases ff with ⟨σ, T4, G', t1, t2, t3⟩ | ⟨k, T', H, t1, t2, t3⟩
        · exact Or.inl ⟨σ, T4, G', t1, t2, fun Q => (st Q).trans (t3 Q)⟩
        · exact Or.inr ⟨k, T', H, t1, t2, fun Q => (st Q).trans (t3 Q)⟩
      · have q1 : ∀ x, x ≠ D + 6 + 6 * cs → x ≠ D + 6 + 6 * cs + 1 → tlG (seT G1 D T') (D + 6 + 6 * cs) c g x = seT G1 D T' x := fun x x1 x2 => tlG_q x1 x2
        have q0 : ∀ j, tlG (seT G1 D T') (D + 6 + 6 * cs) c g (D + 6 + 6 * cs + 1) j = if j < c then g j else G1 (D + 6 + 6 * cs + 1) j := fun j => by
          show (if D + 6 + 6 * cs + 1 = D + 6 + 6 * cs + 1 ∧ j < c then g j else if D + 6 + 6 * cs + 1 = D + 6 + 6 * cs ∧ j = 4 ∧ 0 < c then (c : Int) else seT G1 D T' (D + 6 + 6 * cs + 1) j) = _
          rw [seT_q (by omega), if_neg (show ¬ (D + 6 + 6 * cs + 1 = D + 6 + 6 * cs ∧ j = 4 ∧ 0 < c) by omega)]
          simp only [true_and]
        have qS : ∀ j, tlG (seT G1 D T') (D + 6 + 6 * cs) c g (D + 6 + 6 * cs) j = if j = 4 ∧ 0 < c then (c : Int) else G1 (D + 6 + 6 * cs) j := fun j => by
          show (if D + 6 + 6 * cs = D + 6 + 6 * cs + 1 ∧ j < c then g j else if D + 6 + 6 * cs = D + 6 + 6 * cs ∧ j = 4 ∧ 0 < c then (c : Int) else seT G1 D T' (D + 6 + 6 * cs) j) = _
          rw [seT_q (by omega), if_neg (show ¬ (D + 6 + 6 * cs = D + 6 + 6 * cs + 1 ∧ j < c) by omega)]
          simp only [true_and]
        refine Or.inr ⟨k, T', tlG (seT G1 D T') (D + 6 + 6 * cs) c g, ?_, F1.trans (RF_gen w1 hcs (fun x x1 x2 x3 => (q1 x x2 x3).trans (seT_q x1)) (fun j hj => by rw [q1 D (by omega) (by omega)]; exact seT_j hj) (fun j hj => by rw [qS, if_neg (by omega)]) (by rw [qS]; have := k1.2.2.2.2; split <;> omega) (fun j => by
            rw [q0]
            split
            · have := b3 j (by assumption)
              omega
            · exact r1 j)), fun Q => ?_⟩
        · unfold rdTail rdLaw
          rw [if_neg k4', if_pos k5']
          simp only [b1]
        · have n54 : ((5 : Int) = 4) = False := by decide
          simp (disch := first | assumption | exact c2_int _ | exact c2_ref _ | exact c2_jk | exact c2_null | omega | (apply rN1; assumption) | (apply rN2; assumption) | (apply rN3; assumption) | (apply rN4; assumption) | exact bI_r _ | exact bI_01 _) only [↓fX5_readSieve_0, ↓fX5_readSieve_1, ↓fX5_readSieve_2, ↓fX5_readSieve_5, ↓fX5_readSieve_8, ↓fX5_readSieve_8n, ↓fX5_readSieve_9, ↓fX5_readSieve_9n, ↓fX5_readSieve_10, ↓fX5_readSieve_10r, ↓fX5_readSieve_13, ↓fX5_readSieve_14, ↓fX5_readSieve_15, ↓fX5_readSieve_18, ↓fX5_readSieve_19, ↓fX5_readSieve_20, ↓fX5_readSieve_23, ↓fX5_readSieve_24, ↓fX5_readSieve_27, ↓fX5_readSieve_30, ↓fX5_readSieve_31, ↓fX5_readSieve_33, ↓fX5_readSieve_36, ↓fX5_readSieve_39, ↓fX5_readSieve_40, ↓fX5_readSieve_41, ↓fX5_readSieve_42, ↓fX5_readSieve_43, ↓fX5_readSieve_46, ↓fX5_readSieve_49, ↓fX5_readSieve_50, ↓fX5_readSieve_51, ↓fX5_readSieve_52, ↓fX5_readSieve_55, ↓fX5_readSieve_56, ↓fX5_readSieve_58, ↓fX5_readSieve_61, ↓fX5_readSieve_64, ↓fX5_readSieve_65, ↓fX5_readSieve_66, ↓fX5_readSieve_67, ↓fX5_readSieve_68, ↓fX5_readSieve_70, ↓fX5_readSieve_73, ↓fX5_readSieve_74, ↓fX5_readSieve_75, ↓fX5_readSieve_76, ↓fX5_readSieve_79, ↓fX5_readSieve_80, ↓fX5_readSieve_82, ↓fX5_readSieve_85, ↓fX5_readSieve_88, ↓fX5_readSieve_89, ↓fX5_readSieve_90, ↓fX5_readSieve_91, ↓fX5_readSieve_92, ↓fX5_readSieve_95, ↓fX5_readSieve_98, ↓fX5_readSieve_100, ↓fX5_readSieve_102, ↓fX5_readSieve_103, ↓fX5_readSieve_106, ↓fX5_readSieve_107, ↓fX5_readSieve_108, ↓fX5_readSieve_109, ↓fX5_readSieve_112, ↓fX5_readSieve_114, ↓fX5_readSieve_116, ↓fX5_readSieve_117, ↓fX5_readSieve_120, ↓fX5_readSieve_121, ↓fX5_readSieve_124, ↓fX5_readSieve_125, ↓fX5_readSieve_126, ↓fX5_readSieve_129, ↓fX5_readSieve_129n, ↓fX5_readSieve_130, ↓fX5_readSieve_132, ↓fX5_readSieve_133, ↓fX5_readSieve_134, ↓fX5_readSieve_136, ↓fX5_readSieve_139, ↓fX5_readSieve_141, ↓fX5_readSieve_142, ↓fX5_readSieve_145, ↓fX5_readSieve_146, ↓fX5_readSieve_146n, ↓fX5_readSieve_147, ↓fX5_readSieve_150, ↓fX5_readSieve_153, ↓fX5_readSieve_154, ↓fX5_readSieve_155, ↓fX5_readSieve_157, ↓fX5_readSieve_158, ↓fX5_readSieve_161, ↓fX5_readSieve_162, ↓fX5_readSieve_162n, ↓fX5_readSieve_163, ↓fX5_readSieve_166, ↓fX5_readSieve_169, ↓fX5_readSieve_170, ↓fX5_readSieve_172, ↓fX5_readSieve_175, ↓fX5_readSieve_178, ↓fX5_readSieve_179, ↓fX5_readSieve_180, ↓fX5_readSieve_181, ↓fX5_readSieve_182, ↓fX5_readSieve_185, ↓fX5_readSieve_186, ↓fX5_readSieve_187, ↓fX5_readSieve_190, ↓fX5_readSieve_191, ↓e1, ↓b4, k4', k5', n54, and_self, true_and, and_true, false_and, and_false, not_true_eq_false, not_false_eq_true, or_self, true_or, or_true, false_or, or_false, ite_not, Decidable.not_not, decide_eq_true_eq, Bool.not_true, Bool.not_false, Bool.false_eq_true, Bool.not_eq_true, n10, n20, n21, n30, n31, n32, n40, n41, n42, n43, ↓reduceIte]
    · have hl : rdLaw B n ki T = .ok (0, (fun _ => 0), T) := by
        unfold rdLaw
        rw [if_neg k4', if_neg k5']
      have ff := fin G1 T 0 (fun _ => 0) 0 p1 (fun x x1 x2 x3 => rfl) (fun j hj => rfl) (fun j hj => rfl) k1.2.2.2.2 (by omega) r1 (fun z => absurd z k4') (fun z => absurd z k5') (fun z => absurd z k4') (fun z => absurd z k5') hl
      have st : ∀ Q, RK MX5_readSieve 129 [.ref D, .ref (D + 6 + 6 * cs), .int (zi fr), .int (zi by_), .int (zi ma), .int (zi ki)] [] (0, 0) (E, zg G, zk L, r) Q = RK MX5_readSieve 171 [.ref D, .ref (D + 6 + 6 * cs), .int (zi fr), .int (zi by_), .int (zi ma), .int (zi ki)] [] (0, 0) (E, zg G1, zk L, r) Q := fun Q => by
        simp (disch := first | assumption | exact c2_int _ | exact c2_ref _ | exact c2_jk | exact c2_null | omega | (apply rN1; assumption) | (apply rN2; assumption) | (apply rN3; assumption) | (apply rN4; assumption) | exact bI_r _ | exact bI_01 _) only [↓fX5_readSieve_0, ↓fX5_readSieve_1, ↓fX5_readSieve_2, ↓fX5_readSieve_5, ↓fX5_readSieve_8, ↓fX5_readSieve_8n, ↓fX5_readSieve_9, ↓fX5_readSieve_9n, ↓fX5_readSieve_10, ↓fX5_readSieve_10r, ↓fX5_readSieve_13, ↓fX5_readSieve_14, ↓fX5_readSieve_15, ↓fX5_readSieve_18, ↓fX5_readSieve_19, ↓fX5_readSieve_20, ↓fX5_readSieve_23, ↓fX5_readSieve_24, ↓fX5_readSieve_27, ↓fX5_readSieve_30, ↓fX5_readSieve_31, ↓fX5_readSieve_33, ↓fX5_readSieve_36, ↓fX5_readSieve_39, ↓fX5_readSieve_40, ↓fX5_readSieve_41, ↓fX5_readSieve_42, ↓fX5_readSieve_43, ↓fX5_readSieve_46, ↓fX5_readSieve_49, ↓fX5_readSieve_50, ↓fX5_readSieve_51, ↓fX5_readSieve_52, ↓fX5_readSieve_55, ↓fX5_readSieve_56, ↓fX5_readSieve_58, ↓fX5_readSieve_61, ↓fX5_readSieve_64, ↓fX5_readSieve_65, ↓fX5_readSieve_66, ↓fX5_readSieve_67, ↓fX5_readSieve_68, ↓fX5_readSieve_70, ↓fX5_readSieve_73, ↓fX5_readSieve_74, ↓fX5_readSieve_75, ↓fX5_readSieve_76, ↓fX5_readSieve_79, ↓fX5_readSieve_80, ↓fX5_readSieve_82, ↓fX5_readSieve_85, ↓fX5_readSieve_88, ↓fX5_readSieve_89, ↓fX5_readSieve_90, ↓fX5_readSieve_91, ↓fX5_readSieve_92, ↓fX5_readSieve_95, ↓fX5_readSieve_98, ↓fX5_readSieve_100, ↓fX5_readSieve_102, ↓fX5_readSieve_103, ↓fX5_readSieve_106, ↓fX5_readSieve_107, ↓fX5_readSieve_108, ↓fX5_readSieve_109, ↓fX5_readSieve_112, ↓fX5_readSieve_114, ↓fX5_readSieve_116, ↓fX5_readSieve_117, ↓fX5_readSieve_120, ↓fX5_readSieve_121, ↓fX5_readSieve_124, ↓fX5_readSieve_125, ↓fX5_readSieve_126, ↓fX5_readSieve_129, ↓fX5_readSieve_129n, ↓fX5_readSieve_130, ↓fX5_readSieve_132, ↓fX5_readSieve_133, ↓fX5_readSieve_134, ↓fX5_readSieve_136, ↓fX5_readSieve_139, ↓fX5_readSieve_141, ↓fX5_readSieve_142, ↓fX5_readSieve_145, ↓fX5_readSieve_146, ↓fX5_readSieve_146n, ↓fX5_readSieve_147, ↓fX5_readSieve_150, ↓fX5_readSieve_153, ↓fX5_readSieve_154, ↓fX5_readSieve_155, ↓fX5_readSieve_157, ↓fX5_readSieve_158, ↓fX5_readSieve_161, ↓fX5_readSieve_162, ↓fX5_readSieve_162n, ↓fX5_readSieve_163, ↓fX5_readSieve_166, ↓fX5_readSieve_169, ↓fX5_readSieve_170, ↓fX5_readSieve_172, ↓fX5_readSieve_175, ↓fX5_readSieve_178, ↓fX5_readSieve_179, ↓fX5_readSieve_180, ↓fX5_readSieve_181, ↓fX5_readSieve_182, ↓fX5_readSieve_185, ↓fX5_readSieve_186, ↓fX5_readSieve_187, ↓fX5_readSieve_190, ↓fX5_readSieve_191, ↓e1, k4', k5', and_self, true_and, and_true, false_and, and_false, not_true_eq_false, not_false_eq_true, or_self, true_or, or_true, false_or, or_false, ite_not, Decidable.not_not, decide_eq_true_eq, Bool.not_true, Bool.not_false, Bool.false_eq_true, Bool.not_eq_true, n10, n20, n21, n30, n31, n32, n40, n41, n42, n43, ↓reduceIte]
      rcases ff with ⟨σ, T4, G', t1, t2, t3⟩ | ⟨k, T', H, t1, t2, t3⟩
      · exact Or.inl ⟨σ, T4, G', t1, t2, fun Q => (st Q).trans (t3 Q)⟩
      · exact Or.inr ⟨k, T', H, t1, t2, fun Q => (st Q).trans (t3 Q)⟩
end BS
