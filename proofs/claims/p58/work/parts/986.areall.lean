/-! The law's areAll: each number at first is in the row or was struck. -/
/-- what areAll asks of a sieve; A i: how many of the first i stand -/
def ARS (τ : Nat → Int) (A : Nat → Nat) (m : Nat) : Prop := (τ 3 = m ∧ m ≤ 600 ∧ A 0 = 0 ∧ ∀ i, i ≤ m → A i ≤ i) ∧ (∀ i : Nat, i < m → (A (i + 1) = A i + 1 ∧ poZ τ (τ 1 + i * τ 2) = (A i : Int) + 1 ∧ nAS τ ((A i : Int) + 1) = τ 1 + i * τ 2 ∧ cuZ τ (τ 1 + i * τ 2) = (A i : Int) + 1 ∧ osZ τ (τ 1 + i * τ 2) 0 = -1 ∧ (A i : Int) + 1 ≤ szS τ) ∨ (A (i + 1) = A i ∧ poZ τ (τ 1 + i * τ 2) = -1 ∧ (0 ≤ osZ τ (τ 1 + i * τ 2) 0 ∧ osZ τ (τ 1 + i * τ 2) 0 ≤ τ 4) ∧ snZ τ ((i : Int) - (A i : Int)) = τ 1 + i * τ 2)) ∧ szS τ = (A m : Int) ∧ snZ τ ((m : Int) - (A m : Int)) = -1 ∧ nAS τ ((A m : Int) + 1) = -1
section BS
variable {E E' : AE} {G G' L L' : Nat → Nat → Int} {r r' : Nat → Nat → Option Nat} {h : AH} {Q : AH → Value → Prop} {X n a cl m : Nat} {A : Nat → Nat} {σ σ' : Nat → Nat → Int} {st st' s x y w k : Int}
theorem ar_loop (hs : 0 ≤ s ∧ s < n) (hA : ARS (σ s.toNat) A m) : ∀ (d i : Nat) (G : Nat → Nat → Int) (st : Int) (l5 l6 : Value), c2 l5 = false → c2 l6 = false → WK E r G X n σ st → i + d = m → ∃ G' st' l4' l5' l6', FX X G G' ∧ WK E r G' X n σ st' ∧ ∀ Q, RK ML_areAll 7 [.ref X, .int (zi s), .int (zi ((i : Int) - (A i : Int))), .int (zi (A i : Int)), .int (zi (i : Int)), l5, l6] [] (0, 0) (E, zg G, zk L, r) Q = RK ML_areAll 190 [.ref X, .int (zi s), .int (zi ((m : Int) - (A m : Int))), .int (zi (A m : Int)), l4', l5', l6'] [] (0, 0) (E, zg G', zk L, r) Q := by
  obtain ⟨⟨a3, am, a0, al⟩, hI, -⟩ := id hA
  have p3 : prpZ (σ s.toNat) 3 = (m : Int) := a3
  have p1 : prpZ (σ s.toNat) 1 = σ s.toNat 1 := rfl
  have p2 : prpZ (σ s.toNat) 2 = σ s.toNat 2 := rfl
  have p5 : prpZ (σ s.toNat) 5 = σ s.toNat 4 := rfl
  intro d
  induction d with
  | zero =>
    intro i G st l5 l6 c5 c6 hW hd
    have hk := (WK_k hW).1
    have e : i = m := by omega
    subst e
    obtain ⟨G1, f1, hW1, e1⟩ := W_sieve (L := L) (w := 3) hW hs (by decide)
    rw [p3] at e1
    refine ⟨G1, 0, .int (zi (i : Int)), l5, l6, f1, hW1, fun Q => ?_⟩
    rw [fL_areAll_7, fL_areAll_9, fL_areAll_10, fL_areAll_11, fL_areAll_12 hk, e1, fL_areAll_15 (by omega) (by omega), if_neg (by omega)]
  | succ d ih =>
    intro i G st l5 l6 c5 c6 hW hd
    obtain ⟨hk, hX, hn4, hWF⟩ := WK_k hW
    have wf := hWF s.toNat (by omega)
    have sb := szS_b wf
    have b1 := wf.2.1
    have b2 := wf.2.2.1
    have ai := al i (by omega)
    obtain ⟨x, hx⟩ : ∃ x, x = σ s.toNat 1 + i * σ s.toNat 2 := ⟨_, rfl⟩
    have ib : (0 : Int) ≤ i * σ s.toNat 2 ∧ i * σ s.toNat 2 ≤ 600 * 99 := ⟨Int.mul_nonneg (by omega) (by omega), Int.mul_le_mul (by omega) b2.2 (by omega) (by decide)⟩
    have xb : 0 ≤ x ∧ x ≤ 100000 := by omega
    have hc := hI i (by omega)
    rw [← hx] at hc
    obtain ⟨G1, f1, hW1, e1⟩ := W_sieve (L := L) (w := 3) hW hs (by decide)
    rw [p3] at e1
    obtain ⟨G2, f2, hW2, e2⟩ := W_sieve (L := L) (w := 1) hW1 hs (by decide)
    rw [p1] at e2
    obtain ⟨G3, f3, hW3, e3⟩ := W_sieve (L := L) (w := 2) hW2 hs (by decide)
    rw [p2] at e3
    obtain ⟨G4, f4, hW4, e4⟩ := W_rank (L := L) (x := x) hW3 hs ⟨by omega, by omega⟩
    have F4 := f1.trans (f2.trans (f3.trans f4))
    have pre : ∀ Q, RK ML_areAll 7 [.ref X, .int (zi s), .int (zi ((i : Int) - (A i : Int))), .int (zi (A i : Int)), .int (zi (i : Int)), l5, l6] [] (0, 0) (E, zg G, zk L, r) Q = RK ML_areAll 47 [.ref X, .int (zi s), .int (zi ((i : Int) - (A i : Int))), .int (zi (A i : Int)), .int (zi (i : Int)), .int (zi x), .int (zi (poZ (σ s.toNat) x))] [.int (zi (poZ (σ s.toNat) x))] (0, 0) (E, zg G4, zk L, r) Q := fun Q => by
      rw [fL_areAll_7, fL_areAll_9, fL_areAll_10, fL_areAll_11, fL_areAll_12 hk, e1, fL_areAll_15 (by omega) (by omega), if_pos (by omega), fL_areAll_18, fL_areAll_19, fL_areAll_20, fL_areAll_21 hk, e2, fL_areAll_24, fL_areAll_26, fL_areAll_27, fL_areAll_28, fL_areAll_29 hk, e3, fL_areAll_32, fL_areAll_33, ← hx, fL_areAll_34 (c2_int _), fL_areAll_36, fL_areAll_37, fL_areAll_38, fL_areAll_40 hk, e4, fL_areAll_43 (c2_int _), fL_areAll_45]
    rcases hc with ⟨c1, c2', c3, c4, c5', c6'⟩ | ⟨c1, c2', c3, c4⟩
    · have at1 : ((A (i + 1) : Nat) : Int) = (A i : Int) + 1 := by omega
      obtain ⟨G5, f5, hW5, e5⟩ := W_number (L := L) (y := (A i : Int) + 1) hW4 hs (by omega)
      rw [c3] at e5
      obtain ⟨G6, f6, hW6, e6⟩ := W_upTo (L := L) (y := x) hW5 hs ⟨by omega, by omega⟩
      rw [c4] at e6
      obtain ⟨G7, f7, hW7, e7⟩ := W_fate (L := L) (x := x) (w := 0) hW6 hs ⟨by omega, by omega⟩ (by decide)
      rw [c5'] at e7
      rw [c5', if_pos rfl] at hW7
      have s7 := W_status (L := L) hW7
      obtain ⟨G8, f8, hW8, e8⟩ := W_balance (L := L) (y := (A i : Int) + 1) hW7 hs (by omega)
      rw [c3] at e8
      obtain ⟨G9, f9, hW9, e9⟩ := W_sieve (L := L) (w := 1) hW8 hs (by decide)
      rw [p1] at e9
      obtain ⟨G10, f10, hW10, e10⟩ := W_sieve (L := L) (w := 2) hW9 hs (by decide)
      rw [p2] at e10
      have eb : x - (σ s.toNat 1 + σ s.toNat 2 * ((A i : Int) + 1 - 1)) = x - σ s.toNat 1 - ((A i : Int) + 1 - 1) * σ s.toNat 2 := by
        rw [Int.mul_comm (σ s.toNat 2)]
        omega
      have ab : (0 : Int) ≤ ((A i : Int) + 1 - 1) * σ s.toNat 2 ∧ ((A i : Int) + 1 - 1) * σ s.toNat 2 ≤ 600 * 99 := ⟨Int.mul_nonneg (by omega) (by omega), Int.mul_le_mul (by omega) b2.2 (by omega) (by decide)⟩
      obtain ⟨G11, st11, l4', l5', l6', f11, hW11, e11⟩ := ih (i + 1) G10 _ (.int (zi x)) (.int (zi (poZ (σ s.toNat) x))) (c2_int _) (c2_int _) hW10 (by omega)
      rw [at1, show (((i + 1 : Nat) : Int)) = (i : Int) + 1 by omega, show (i : Int) + 1 - ((A i : Int) + 1) = (i : Int) - (A i : Int) by omega] at e11
      refine ⟨G11, st11, l4', l5', l6', F4.trans (f5.trans (f6.trans (f7.trans (f8.trans (f9.trans (f10.trans f11)))))), hW11, fun Q => ?_⟩
      rw [pre, fL_areAll_47 (by omega), if_neg (by omega), fL_areAll_50 (c2_int _), fL_areAll_53, fL_areAll_55, fL_areAll_56 (by omega) (by omega), if_pos c2', fL_areAll_59, fL_areAll_60, fL_areAll_61, fL_areAll_62 hk, e5]
      rw [fL_areAll_65, fL_areAll_67 (by omega) (by omega), if_pos rfl, fL_areAll_70, fL_areAll_71, fL_areAll_72, fL_areAll_74 hk, e6]
      rw [fL_areAll_77, fL_areAll_78 (by omega) (by omega), if_pos rfl, fL_areAll_81, fL_areAll_82, fL_areAll_83, fL_areAll_85, fL_areAll_86 hk, e7]
      rw [fL_areAll_89, fL_areAll_90 (by decide) (by decide), if_pos rfl, fL_areAll_93, fL_areAll_94 hk, s7, fL_areAll_97, fL_areAll_98 (by decide) (by decide), if_pos rfl, fL_areAll_101, fL_areAll_102, fL_areAll_103, fL_areAll_104 hk, e8]
      rw [fL_areAll_107, fL_areAll_109, fL_areAll_110, fL_areAll_111, fL_areAll_112 hk, e9, fL_areAll_115, fL_areAll_116, fL_areAll_117, fL_areAll_118, fL_areAll_119, fL_areAll_120, fL_areAll_121, fL_areAll_122 hk, e10]
      rw [fL_areAll_125, fL_areAll_126, fL_areAll_127 (by omega) (by omega), if_pos eb, fL_areAll_184 (c2_int _), fL_areAll_187]
      exact e11 Q
    · have at1 : ((A (i + 1) : Nat) : Int) = (A i : Int) := by omega
      rw [c2', if_pos rfl] at hW4
      have s4 := W_status (L := L) hW4
      obtain ⟨G5, f5, hW5, e5⟩ := W_fate (L := L) (x := x) (w := 0) hW4 hs ⟨by omega, by omega⟩ (by decide)
      obtain ⟨G6, f6, hW6, e6⟩ := W_fate (L := L) (x := x) (w := 0) hW5 hs ⟨by omega, by omega⟩ (by decide)
      obtain ⟨G7, f7, hW7, e7⟩ := W_sieve (L := L) (w := 5) hW6 hs (by decide)
      rw [p5] at e7
      obtain ⟨G8, f8, hW8, e8⟩ := W_gone (L := L) (k := (i : Int) - (A i : Int)) hW7 hs (by omega)
      rw [c4] at e8
      have b4 := wf.2.2.2.2.1
      have b5 := wf.2.2.2.2.2.1
      have b6 := wf.2.2.2.2.2.2
      obtain ⟨G9, st9, l4', l5', l6', f9, hW9, e9⟩ := ih (i + 1) G8 _ (.int (zi x)) (.int (zi (poZ (σ s.toNat) x))) (c2_int _) (c2_int _) hW8 (by omega)
      rw [at1, show (((i + 1 : Nat) : Int)) = (i : Int) + 1 by omega, show (i : Int) + 1 - (A i : Int) = (i : Int) - (A i : Int) + 1 by omega] at e9
      have r4 : -2147483648 ≤ σ s.toNat 4 ∧ σ s.toNat 4 < 2147483648 := by
        have k0 := wf.1
        have w7 := wf.2.2.2.2.2.2.1
        have w8 := wf.2.2.2.2.2.2.2.1
        have w9 := wf.2.2.2.2.2.2.2.2.1
        by_cases q3 : σ s.toNat 0 ≤ 3
        · have := w7 q3
          omega
        · by_cases q4 : σ s.toNat 0 = 4
          · have z1 := (w8 q4).1
            have z2 := (w8 q4).2.2.1
            omega
          · have z := w9 (by omega)
            have z1 := z.1
            have z2 := z.2.2.1
            omega
      refine ⟨G9, st9, l4', l5', l6', F4.trans (f5.trans (f6.trans (f7.trans (f8.trans f9)))), hW9, fun Q => ?_⟩
      rw [pre, c2', fL_areAll_47 (by decide), if_pos (by decide), fL_areAll_132, fL_areAll_133 hk, s4, fL_areAll_136, fL_areAll_137 (by decide) (by decide), if_pos rfl, fL_areAll_140, fL_areAll_141, fL_areAll_142, fL_areAll_144, fL_areAll_145 hk, e5]
      rw [fL_areAll_148 (by omega), if_neg (by omega), fL_areAll_151, fL_areAll_152, fL_areAll_153, fL_areAll_155, fL_areAll_156 hk, e6, fL_areAll_159, fL_areAll_160, fL_areAll_161, fL_areAll_162 hk, e7, fL_areAll_165 (by omega) r4, if_pos c3.2, fL_areAll_168, fL_areAll_169, fL_areAll_170, fL_areAll_171 hk, e8]
      rw [fL_areAll_174, fL_areAll_176 (by omega) (by omega), if_pos rfl, fL_areAll_181 (c2_int _), fL_areAll_184 (c2_int _), fL_areAll_187]
      rw [c2'] at e9
      exact e9 Q
theorem areAll_ok (hW : WK E r G X n σ st) (hs : 0 ≤ s ∧ s < n) (hA : ARS (σ s.toNat) A m) : ∃ G', FX X G G' ∧ WK E r G' X n σ 5 ∧ ∀ Q, RK ML_areAll 0 [.ref X, .int (zi s), jk, jk, jk, jk, jk] [] (0, 0) (E, zg G, zk L, r) Q = Q (E, zg G', zk L, r) (.int (zi 1)) := by
  obtain ⟨⟨a3, am, a0, al⟩, hI, hz, hg, hn⟩ := id hA
  obtain ⟨hk, hX, hn4, hWF⟩ := WK_k hW
  have alm := al m (by omega)
  have p4 : prpZ (σ s.toNat) 4 = (A m : Int) := hz
  obtain ⟨G1, st1, l4, l5, l6, f1, hW1, e1⟩ := ar_loop (L := L) hs hA m 0 G st jk jk c2_jk c2_jk hW (by omega)
  rw [a0] at e1
  obtain ⟨G2, f2, hW2, e2⟩ := W_sieve (L := L) (w := 4) hW1 hs (by decide)
  rw [p4] at e2
  obtain ⟨G3, f3, hW3, e3⟩ := W_gone1 (L := L) hW2 hs
  rw [a3, hz] at e3
  obtain ⟨G4, f4, hW4, e4⟩ := W_gone (L := L) (k := (m : Int) - (A m : Int)) hW3 hs (by omega)
  rw [hg] at e4
  rw [hg, if_pos rfl] at hW4
  have s4 := W_status (L := L) hW4
  obtain ⟨G5, f5, hW5, e5⟩ := W_number (L := L) (y := (A m : Int) + 1) hW4 hs (by omega)
  rw [hn] at e5
  rw [hn, if_pos rfl] at hW5
  have s5 := W_status (L := L) hW5
  refine ⟨G5, f1.trans (f2.trans (f3.trans (f4.trans f5))), hW5, fun Q => ?_⟩
  rw [fL_areAll_0, fL_areAll_1 (c2_int _), fL_areAll_2, fL_areAll_3 (c2_int _), fL_areAll_4, fL_areAll_5 (c2_int _)]
  refine (e1 Q).trans ?_
  rw [fL_areAll_190, fL_areAll_191, fL_areAll_192, fL_areAll_193, fL_areAll_194 hk, e2, fL_areAll_197 (by omega) (by omega), if_pos rfl, fL_areAll_200, fL_areAll_201, fL_areAll_202, fL_areAll_203 hk, e3, fL_areAll_206, fL_areAll_207 (by omega) (by omega), if_pos rfl, fL_areAll_210, fL_areAll_211, fL_areAll_212, fL_areAll_213 hk, e4]
  rw [fL_areAll_216, fL_areAll_217 (by decide) (by decide), if_pos rfl, fL_areAll_220, fL_areAll_221 hk, s4, fL_areAll_224, fL_areAll_225 (by decide) (by decide), if_pos rfl, fL_areAll_228, fL_areAll_229, fL_areAll_230, fL_areAll_231, fL_areAll_232, fL_areAll_233 hk, e5]
  rw [fL_areAll_236, fL_areAll_237 (by decide) (by decide), if_pos rfl, fL_areAll_240, fL_areAll_241 hk, s5, fL_areAll_244, fL_areAll_245 (by decide) (by decide), if_pos rfl, fL_areAll_248, fL_areAll_249, fL_areAll_253 (Or.inr rfl)]
end BS
