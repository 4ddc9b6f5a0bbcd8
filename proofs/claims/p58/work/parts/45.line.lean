/-! readSieve as a whole; the parser goes on. -/
def rdSieve (B : Int → Int) (n : Int) (f g : Nat → Int) (cn cs : Nat) (T : Int × Int × Int × Int) : Except ER ((Nat → Int) × Int × Int × Int × Int) :=
  if 4 ≤ cs then .error (5, T) else
  match rdHead B n f g cn (nxT B n T.2.2.1) with
  | .error e => .error e
  | .ok (fr, by_, ma, ki, T9) => rdTail B n fr by_ ma ki T9
section BS
variable {E : AE} {G G' L : Nat → Nat → Int} {r : Nat → Nat → Option Nat} {h : AH} {Q : AH → Value → Prop} {D S a c l cl cs : Nat} {w : List Int} {i v x b u s e t n lo hi ki fr by_ ma cn : Int} {B : Int → Int} {T T' T4 : Int × Int × Int × Int} {g : Nat → Int}
theorem PS_sieve (h : PS E r G D B n T) (hw : RW G D) (hcs : G D 10 = cs) (hc : G D 10 + G D 12 = c) (hc7 : cs < 4 → c ≤ 6) (hcs4 : cs ≤ 4) (hN : ∀ i, i < c → (0 ≤ G (D + 4) i ∧ G (D + 4) i ≤ 1000) ∧ (0 ≤ G (D + 5) i ∧ G (D + 5) i ≤ 1000)) :
    (∃ (σ : Nat → Int) (T4 : Int × Int × Int × Int) (G' : Nat → Nat → Int), rdSieve B n (G (D + 4)) (G (D + 5)) c cs T = .ok (σ, T4) ∧ cs < 4 ∧ PS E r G' D B n T4 ∧ RF G G' D ∧ G' D 10 = (cs : Int) + 1 ∧ G' D 12 = G D 12 ∧ (G' D 3 = G D 3 ∧ G' D 4 = G D 4) ∧ G' (D + 4) = upN (G (D + 4)) c (nxT B n T.2.2.1).2.1 ∧ G' (D + 5) = upN (G (D + 5)) c (nxT B n T.2.2.1).2.2.1 ∧ (∀ x, D + 5 < x → ¬ (D + 6 + 6 * cs ≤ x ∧ x ≤ D + 6 + 6 * cs + 5) → G' x = G x) ∧ RS G' (D + 6 + 6 * cs) σ ∧ WF σ ∧ ∀ Q, RK MX5_readSieve 0 [.ref D, jk, jk, jk, jk, jk] [] (0, 0) (E, zg G, zk L, r) Q = Q (E, zg G', zk L, r) (.int (zi 1))) ∨
    (∃ (k : Int) (T' : Int × Int × Int × Int) (H : Nat → Nat → Int), rdSieve B n (G (D + 4)) (G (D + 5)) c cs T = .error (k, T') ∧ RF G H D ∧ ∀ Q, RK MX5_readSieve 0 [.ref D, jk, jk, jk, jk, jk] [] (0, 0) (E, zg G, zk L, r) Q = Q (E, zg (faG H D k T'.2.1), zk L, r) (.int (zi 0))) := by
  have h0 := h.1.1
  unfold rdSieve
  have la : ∀ Q, RK MX5_sieveAt 0 [.ref D, .int (zi (G D 10))] [] (0, 0) (E, zg G, zk L, r) Q = Q (E, zg G, zk L, r) (if cs < 4 then .ref (D + 6 + 6 * cs) else .null) := fun Q => by
    rw [hcs]
    exact c5_sieveAt h.1 (by omega)
  by_cases c3 : 4 ≤ cs
  · rw [if_pos c3]
    have c3' : ¬ cs < 4 := by omega
    refine Or.inr ⟨5, T, G, rfl, ⟨fun _ _ => rfl, rfl, rfl, rfl, hw⟩, fun Q => ?_⟩
    simp (disch := first | assumption | exact c2_int _ | exact c2_ref _ | exact c2_jk | exact c2_null | omega | (apply rN1; assumption) | (apply rN2; assumption) | (apply rN3; assumption) | (apply rN4; assumption) | exact bI_r _ | exact bI_01 _) only [↓fX5_readSieve_0, ↓fX5_readSieve_1, ↓fX5_readSieve_2, ↓fX5_readSieve_5, ↓fX5_readSieve_8, ↓fX5_readSieve_8n, ↓fX5_readSieve_9, ↓fX5_readSieve_9n, ↓fX5_readSieve_10, ↓fX5_readSieve_10r, ↓fX5_readSieve_13, ↓fX5_readSieve_14, ↓fX5_readSieve_15, ↓fX5_readSieve_18, ↓fX5_readSieve_19, ↓fX5_readSieve_20, ↓fX5_readSieve_23, ↓fX5_readSieve_24, ↓fX5_readSieve_27, ↓fX5_readSieve_30, ↓fX5_readSieve_31, ↓fX5_readSieve_33, ↓fX5_readSieve_36, ↓fX5_readSieve_39, ↓fX5_readSieve_40, ↓fX5_readSieve_41, ↓fX5_readSieve_42, ↓fX5_readSieve_43, ↓fX5_readSieve_46, ↓fX5_readSieve_49, ↓fX5_readSieve_50, ↓fX5_readSieve_51, ↓fX5_readSieve_52, ↓fX5_readSieve_55, ↓fX5_readSieve_56, ↓fX5_readSieve_58, ↓fX5_readSieve_61, ↓fX5_readSieve_64, ↓fX5_readSieve_65, ↓fX5_readSieve_66, ↓fX5_readSieve_67, ↓fX5_readSieve_68, ↓fX5_readSieve_70, ↓fX5_readSieve_73, ↓fX5_readSieve_74, ↓fX5_readSieve_75, ↓fX5_readSieve_76, ↓fX5_readSieve_79, ↓fX5_readSieve_80, ↓fX5_readSieve_82, ↓fX5_readSieve_85, ↓fX5_readSieve_88, ↓fX5_readSieve_89, ↓fX5_readSieve_90, ↓fX5_readSieve_91, ↓fX5_readSieve_92, ↓fX5_readSieve_95, ↓fX5_readSieve_98, ↓fX5_readSieve_100, ↓fX5_readSieve_102, ↓fX5_readSieve_103, ↓fX5_readSieve_106, ↓fX5_readSieve_107, ↓fX5_readSieve_108, ↓fX5_readSieve_109, ↓fX5_readSieve_112, ↓fX5_readSieve_114, ↓fX5_readSieve_116, ↓fX5_readSieve_117, ↓fX5_readSieve_120, ↓fX5_readSieve_121, ↓fX5_readSieve_124, ↓fX5_readSieve_125, ↓fX5_readSieve_126, ↓fX5_readSieve_129, ↓fX5_readSieve_129n, ↓fX5_readSieve_130, ↓fX5_readSieve_132, ↓fX5_readSieve_133, ↓fX5_readSieve_134, ↓fX5_readSieve_136, ↓fX5_readSieve_139, ↓fX5_readSieve_141, ↓fX5_readSieve_142, ↓fX5_readSieve_145, ↓fX5_readSieve_146, ↓fX5_readSieve_146n, ↓fX5_readSieve_147, ↓fX5_readSieve_150, ↓fX5_readSieve_153, ↓fX5_readSieve_154, ↓fX5_readSieve_155, ↓fX5_readSieve_157, ↓fX5_readSieve_158, ↓fX5_readSieve_161, ↓fX5_readSieve_162, ↓fX5_readSieve_162n, ↓fX5_readSieve_163, ↓fX5_readSieve_166, ↓fX5_readSieve_169, ↓fX5_readSieve_170, ↓fX5_readSieve_171, ↓fX5_readSieve_172, ↓fX5_readSieve_175, ↓fX5_readSieve_178, ↓fX5_readSieve_179, ↓fX5_readSieve_180, ↓fX5_readSieve_181, ↓fX5_readSieve_182, ↓fX5_readSieve_185, ↓fX5_readSieve_186, ↓fX5_readSieve_187, ↓fX5_readSieve_190, ↓fX5_readSieve_191, ↓la, ↓PS_refuse h, c3', and_self, true_and, and_true, false_and, and_false, not_true_eq_false, not_false_eq_true, or_self, true_or, or_true, false_or, or_false, ite_not, Decidable.not_not, decide_eq_true_eq, Bool.not_true, Bool.not_false, Bool.false_eq_true, Bool.not_eq_true, n10, n20, n21, n30, n31, n32, n40, n41, n42, n43, ↓reduceIte]
  · rw [if_neg c3]
    have c3' : cs < 4 := by omega
    have lk := fun Q => PS_look (L := L) (Q := Q) h
    have p1 := PS_se h (PS_nx h)
    generalize nxT B n T.2.2.1 = T1 at lk p1 ⊢
    have f1 : RF G (seT G D T1) D := RF_se hw
    have q4 : seT G D T1 (D + 4) = G (D + 4) := seT_q (by omega)
    have q5 : seT G D T1 (D + 5) = G (D + 5) := seT_q (by omega)
    have st : ∀ Q, RK MX5_readSieve 0 [.ref D, jk, jk, jk, jk, jk] [] (0, 0) (E, zg G, zk L, r) Q = RK MX5_readSieve 23 [.ref D, .ref (D + 6 + 6 * cs), jk, jk, jk, jk] [] (0, 0) (E, zg (seT G D T1), zk L, r) Q := fun Q => by
      simp (disch := first | assumption | exact c2_int _ | exact c2_ref _ | exact c2_jk | exact c2_null | omega | (apply rN1; assumption) | (apply rN2; assumption) | (apply rN3; assumption) | (apply rN4; assumption) | exact bI_r _ | exact bI_01 _) only [↓fX5_readSieve_0, ↓fX5_readSieve_1, ↓fX5_readSieve_2, ↓fX5_readSieve_5, ↓fX5_readSieve_8, ↓fX5_readSieve_8n, ↓fX5_readSieve_9, ↓fX5_readSieve_9n, ↓fX5_readSieve_10, ↓fX5_readSieve_10r, ↓fX5_readSieve_13, ↓fX5_readSieve_14, ↓fX5_readSieve_15, ↓fX5_readSieve_18, ↓fX5_readSieve_19, ↓fX5_readSieve_20, ↓fX5_readSieve_24, ↓fX5_readSieve_27, ↓fX5_readSieve_30, ↓fX5_readSieve_31, ↓fX5_readSieve_33, ↓fX5_readSieve_36, ↓fX5_readSieve_39, ↓fX5_readSieve_40, ↓fX5_readSieve_41, ↓fX5_readSieve_42, ↓fX5_readSieve_43, ↓fX5_readSieve_46, ↓fX5_readSieve_49, ↓fX5_readSieve_50, ↓fX5_readSieve_51, ↓fX5_readSieve_52, ↓fX5_readSieve_55, ↓fX5_readSieve_56, ↓fX5_readSieve_58, ↓fX5_readSieve_61, ↓fX5_readSieve_64, ↓fX5_readSieve_65, ↓fX5_readSieve_66, ↓fX5_readSieve_67, ↓fX5_readSieve_68, ↓fX5_readSieve_70, ↓fX5_readSieve_73, ↓fX5_readSieve_74, ↓fX5_readSieve_75, ↓fX5_readSieve_76, ↓fX5_readSieve_79, ↓fX5_readSieve_80, ↓fX5_readSieve_82, ↓fX5_readSieve_85, ↓fX5_readSieve_88, ↓fX5_readSieve_89, ↓fX5_readSieve_90, ↓fX5_readSieve_91, ↓fX5_readSieve_92, ↓fX5_readSieve_95, ↓fX5_readSieve_98, ↓fX5_readSieve_100, ↓fX5_readSieve_102, ↓fX5_readSieve_103, ↓fX5_readSieve_106, ↓fX5_readSieve_107, ↓fX5_readSieve_108, ↓fX5_readSieve_109, ↓fX5_readSieve_112, ↓fX5_readSieve_114, ↓fX5_readSieve_116, ↓fX5_readSieve_117, ↓fX5_readSieve_120, ↓fX5_readSieve_121, ↓fX5_readSieve_124, ↓fX5_readSieve_125, ↓fX5_readSieve_126, ↓fX5_readSieve_129, ↓fX5_readSieve_129n, ↓fX5_readSieve_130, ↓fX5_readSieve_132, ↓fX5_readSieve_133, ↓fX5_readSieve_134, ↓fX5_readSieve_136, ↓fX5_readSieve_139, ↓fX5_readSieve_141, ↓fX5_readSieve_142, ↓fX5_readSieve_145, ↓fX5_readSieve_146, ↓fX5_readSieve_146n, ↓fX5_readSieve_147, ↓fX5_readSieve_150, ↓fX5_readSieve_153, ↓fX5_readSieve_154, ↓fX5_readSieve_155, ↓fX5_readSieve_157, ↓fX5_readSieve_158, ↓fX5_readSieve_161, ↓fX5_readSieve_162, ↓fX5_readSieve_162n, ↓fX5_readSieve_163, ↓fX5_readSieve_166, ↓fX5_readSieve_169, ↓fX5_readSieve_170, ↓fX5_readSieve_171, ↓fX5_readSieve_172, ↓fX5_readSieve_175, ↓fX5_readSieve_178, ↓fX5_readSieve_179, ↓fX5_readSieve_180, ↓fX5_readSieve_181, ↓fX5_readSieve_182, ↓fX5_readSieve_185, ↓fX5_readSieve_186, ↓fX5_readSieve_187, ↓fX5_readSieve_190, ↓fX5_readSieve_191, ↓la, ↓lk, c3', and_self, true_and, and_true, false_and, and_false, not_true_eq_false, not_false_eq_true, or_self, true_or, or_true, false_or, or_false, ite_not, Decidable.not_not, decide_eq_true_eq, Bool.not_true, Bool.not_false, Bool.false_eq_true, Bool.not_eq_true, n10, n20, n21, n30, n31, n32, n40, n41, n42, n43, ↓reduceIte]
    have hd := sieve_head (L := L) (c := c) (S := D + 6 + 6 * cs) p1 f1.2.2.2.2 (by rw [seT_j (by omega), seT_j (by omega)]; exact hc) (hc7 c3') (by rw [q4, q5]; exact hN)
    rw [q4, q5] at hd
    rcases hd with ⟨fr, by_, ma, ki, T9, a1, ⟨z1, z2, z3, z0⟩, a2, a3⟩ | ⟨k, T', H, a1, a2, a3⟩
    · simp only [a1]
      have f2 : RF G (nmG (seT G D T1) D c T1.2.1 T1.2.2.1) D := f1.trans (RF_nm f1.2.2.2.2)
      have n4 : nmG (seT G D T1) D c T1.2.1 T1.2.2.1 (D + 4) = upN (G (D + 4)) c T1.2.1 := by
        unfold nmG
        rw [u2_a _ _ _ _ (by omega)]
        funext j
        show (if D + 4 = D + 4 ∧ j = c then _ else _) = (if j = c then _ else _)
        rw [q4]
        simp only [true_and]
      have n5 : nmG (seT G D T1) D c T1.2.1 T1.2.2.1 (D + 5) = upN (G (D + 5)) c T1.2.2.1 := by
        unfold nmG
        funext j
        show (if D + 5 = D + 5 ∧ j = c then _ else u2 _ _ _ _ _ _) = (if j = c then _ else _)
        rw [u2_a _ _ _ _ (by omega), q5]
        simp only [true_and]
      have n0 : ∀ x, x ≠ D → x ≠ D + 4 → x ≠ D + 5 → nmG (seT G D T1) D c T1.2.1 T1.2.2.1 x = G x := fun x x1 x2 x3 => (nmG_q x2 x3).trans (seT_q x1)
      have nD : ∀ j, j < 5 ∨ 8 < j → nmG (seT G D T1) D c T1.2.1 T1.2.2.1 D j = G D j := fun j hj => by
        rw [nmG_q (by omega) (by omega), seT_j hj]
      generalize nmG (seT G D T1) D c T1.2.1 T1.2.2.1 = G2 at a2 a3 f2 n4 n5 n0 nD
      have f3 : RF G (seT G2 D T9) D := f2.trans (RF_se f2.2.2.2.2)
      rcases sieve_tail (L := L) c3' a2 f3.2.2.2.2 (by rw [seT_j (by omega), nD 10 (by omega), hcs]) z0 z1 z2 z3 with ⟨σ, T4, G', t1, t2, t3⟩ | ⟨k, T', H, t1, t2, t3⟩
      · obtain ⟨u1, u2', u3, u4, u5, u6, u7, u8⟩ := t2
        refine Or.inl ⟨σ, T4, G', t1, c3', u1, f3.trans u2', u3, ?_, ⟨?_, ?_⟩, ?_, ?_, fun x x1 x2 => ?_, u7, u8, fun Q => ?_⟩
        · rw [u4, seT_j (by omega), nD 12 (by omega)]
        · rw [u5.1, seT_j (by omega), nD 3 (by omega)]
        · rw [u5.2, seT_j (by omega), nD 4 (by omega)]
        · rw [u6 _ (by omega) (by omega), seT_q (by omega), n4]
        · rw [u6 _ (by omega) (by omega), seT_q (by omega), n5]
        · rw [u6 x (by omega) x2, seT_q (by omega), n0 x (by omega) (by omega) (by omega)]
        · rw [st, a3, t3]
      · exact Or.inr ⟨k, T', H, t1, f3.trans t2, fun Q => by rw [st, a3, t3]⟩
    · simp only [a1]
      exact Or.inr ⟨k, T', H, rfl, f1.trans a2, fun Q => by rw [st, a3]⟩
end BS
