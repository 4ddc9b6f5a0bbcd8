/-! The law's leads: places back and on through a round. -/
/-- what leads asks of a sieve -/
def LDS (τ : Nat → Int) (rr : Int) (f g : Nat → Int) (m1 m2 : Nat) : Prop := (∀ p : Nat, 1 ≤ p → p ≤ m2 → ∃ k : Nat, lbZ τ rr rr p = k ∧ (p ≤ k ∧ k ≤ m1) ∧ f (k - 1) = g (p - 1) ∧ lnoZ τ rr k = p) ∧ (∀ p : Nat, 1 ≤ p → p ≤ m1 → ((1 ≤ poZ τ (f (p - 1)) ∧ poZ τ (f (p - 1)) ≤ 1000000) ∧ ∃ k : Nat, lnoZ τ rr p = k ∧ (1 ≤ k ∧ k ≤ m2) ∧ g (k - 1) = f (p - 1)) ∨ (poZ τ (f (p - 1)) = -1 ∧ lnoZ τ rr p = -1 ∧ osZ τ (f (p - 1)) 0 = rr ∧ osZ τ (f (p - 1)) 1 = p)) ∧ lbZ τ rr rr ((m2 : Int) + 1) = -1 ∧ lnoZ τ rr ((m1 : Int) + 1) = -1
/-- a law's row holds f -/
def RWF (E : AE) (G : Nat → Nat → Int) (X b m : Nat) (f : Nat → Int) : Prop := (kd E b = 1 ∧ le E b = m ∧ X + 130 ≤ b) ∧ m ≤ 1000 ∧ ∀ j, j < m → G b j = f j ∧ 0 ≤ f j ∧ f j ≤ 1000000
section BS
variable {E E' : AE} {G G' L L' : Nat → Nat → Int} {r r' : Nat → Nat → Option Nat} {h : AH} {Q : AH → Value → Prop} {X n a b b1 b2 cl m m1 m2 k1 k2 : Nat} {σ σ' : Nat → Nat → Int} {τ f g : Nat → Int} {st st' s x y w k p c rr : Int}
theorem RWF_f (h : RWF E G X b m f) (hf : FX X G G') : RWF E G' X b m f := ⟨h.1, h.2.1, fun j hj => by rw [hf b (Or.inr h.1.2.2)]; exact h.2.2 j hj⟩
theorem RWF_9 (h : RWF E G X b m f) : (1 ≤ kd E b ∧ kd E b ≤ 9) ∧ kd E b ≠ 3 ∧ kd E b ≠ 4 := by
  have := h.1.1
  omega
theorem leads_1 (hs : 0 ≤ s ∧ s < n) (hr : 1 ≤ rr ∧ rr ≤ 1000) (hL : LDS (σ s.toNat) rr f g m1 m2) : ∀ (d p : Nat) (G : Nat → Nat → Int) (st : Int) (l6 : Value), c2 l6 = false → WK E r G X n σ st → RWF E G X b1 m1 f → RWF E G X b2 m2 g → 1 ≤ p → p + d = m2 + 1 → ∃ G' st' l6', c2 l6' = false ∧ FX X G G' ∧ WK E r G' X n σ st' ∧ ∀ Q, RK ML_leads 3 [.ref X, .int (zi s), .int (zi rr), .ref b1, .ref b2, .int (zi (p : Int)), l6, jk] [] (0, 0) (E, zg G, zk L, r) Q = RK ML_leads 65 [.ref X, .int (zi s), .int (zi rr), .ref b1, .ref b2, .int (zi ((m2 : Int) + 1)), l6', jk] [] (0, 0) (E, zg G', zk L, r) Q := by
  intro d
  induction d with
  | zero =>
    intro p G st l6 c6 hW h1 h2 hp hd
    refine ⟨G, st, l6, c6, FX.rf X G, hW, fun Q => ?_⟩
    have m2b := h2.2.1
    have lb := h2.1.2.1
    rw [fL_leads_3, fL_leads_5, fL_leads_7 (RWF_9 h2), fL_leads_8 (by omega) (by omega), h2.1.2.1, if_neg (by omega), show (p : Int) = (m2 : Int) + 1 by omega]
  | succ d ih =>
    intro p G st l6 c6 hW h1 h2 hp hd
    have m1b := h1.2.1
    have m2b := h2.2.1
    obtain ⟨k, q1, q2, q3, q4⟩ := hL.1 p hp (by omega)
    obtain ⟨G1, f1, hW1, e1⟩ := W_back (L := L) (y := rr) (k := (p : Int)) hW hs (by omega) (by omega)
    rw [q1] at e1
    obtain ⟨G2, f2, hW2, e2⟩ := W_ahead (L := L) (y := rr) (k := (k : Int)) hW1 hs (by omega) (by omega)
    rw [q4] at e2
    have h11 := RWF_f h1 f1
    have h21 := RWF_f h2 f1
    obtain ⟨G3, st3, l3, c3, f3, hW3, e3⟩ := ih (p + 1) G2 _ (.int (zi (k : Int))) (c2_int _) hW2 (RWF_f h11 f2) (RWF_f h21 f2) (by omega) (by omega)
    have v1 : G1 b1 ((k : Int) - 1).toNat = f (k - 1) ∧ 0 ≤ f (k - 1) ∧ f (k - 1) ≤ 1000000 := by
      rw [show ((k : Int) - 1).toNat = k - 1 by omega]
      exact h11.2.2 (k - 1) (by omega)
    have v2 : G1 b2 ((p : Int) - 1).toNat = g (p - 1) := by
      rw [show ((p : Int) - 1).toNat = p - 1 by omega]
      exact (h21.2.2 (p - 1) (by omega)).1
    have la := h1.1.2.1
    have lb := h2.1.2.1
    refine ⟨G3, st3, l3, c3, f1.trans (f2.trans f3), hW3, fun Q => ?_⟩
    rw [fL_leads_3, fL_leads_5, fL_leads_7 (RWF_9 h2), fL_leads_8 (by omega) (by omega), if_pos (by omega), fL_leads_11, fL_leads_12, fL_leads_13, fL_leads_14, fL_leads_16 (WK_k hW).1, e1]
    rw [fL_leads_19 (c2_int _), fL_leads_21, fL_leads_23, fL_leads_25 (by omega) (by omega), if_neg (by omega), fL_leads_28, fL_leads_29, fL_leads_31, fL_leads_32, fL_leads_33 h1.1.1 (by omega) (by omega), fL_leads_34, fL_leads_36, fL_leads_38, fL_leads_39, fL_leads_40 h2.1.1 (by omega) (by omega), v1.1, v2, ← q3, fL_leads_41 (by omega) (by omega), if_pos rfl, fL_leads_44, fL_leads_45, fL_leads_46, fL_leads_47, fL_leads_49 (WK_k hW).1, e2]
    rw [fL_leads_52, fL_leads_54 (by omega) (by omega), if_pos rfl, fL_leads_59 (c2_ref _), fL_leads_62]
    exact e3 Q
theorem leads_2 (hs : 0 ≤ s ∧ s < n) (hr : 1 ≤ rr ∧ rr ≤ 1000) (hL : LDS (σ s.toNat) rr f g m1 m2) : ∀ (d p : Nat) (G : Nat → Nat → Int) (st : Int) (l6 l7 : Value), c2 l6 = false → c2 l7 = false → WK E r G X n σ st → RWF E G X b1 m1 f → RWF E G X b2 m2 g → 1 ≤ p → p + d = m1 + 1 → ∃ G' st' l5' l6' l7', FX X G G' ∧ WK E r G' X n σ st' ∧ ∀ Q, RK ML_leads 68 [.ref X, .int (zi s), .int (zi rr), .ref b1, .ref b2, .int (zi (p : Int)), l6, l7] [] (0, 0) (E, zg G, zk L, r) Q = RK ML_leads 183 [.ref X, .int (zi s), .int (zi rr), .ref b1, .ref b2, l5', l6', l7'] [] (0, 0) (E, zg G', zk L, r) Q := by
  intro d
  induction d with
  | zero =>
    intro p G st l6 l7 c6 c7 hW h1 h2 hp hd
    refine ⟨G, st, .int (zi (p : Int)), l6, l7, FX.rf X G, hW, fun Q => ?_⟩
    have m1b := h1.2.1
    have la := h1.1.2.1
    rw [fL_leads_68, fL_leads_70, fL_leads_71 (RWF_9 h1), fL_leads_72 (by omega) (by omega), h1.1.2.1, if_neg (by omega)]
  | succ d ih =>
    intro p G st l6 l7 c6 c7 hW h1 h2 hp hd
    have m1b := h1.2.1
    have m2b := h2.2.1
    have la := h1.1.2.1
    have lb := h2.1.2.1
    have hk := (WK_k hW).1
    have fb := h1.2.2 (p - 1) (by omega)
    have ep : ((p : Int) - 1).toNat = p - 1 := by omega
    obtain ⟨G1, f1, hW1, e1⟩ := W_ahead (L := L) (y := rr) (k := (p : Int)) hW hs (by omega) (by omega)
    obtain ⟨G2, f2, hW2, e2⟩ := W_rank (L := L) (x := f (p - 1)) hW1 hs ⟨by omega, by omega⟩
    have h11 := RWF_f h1 f1
    have h12 := RWF_f h11 f2
    have h22 := RWF_f (RWF_f h2 f1) f2
    have v1 := (h11.2.2 (p - 1) (by omega)).1
    rcases hL.2.1 p hp (by omega) with ⟨⟨q0, q5⟩, k, q1, q2, q3⟩ | ⟨q0, q1, q2, q3⟩
    · rw [q1] at e1
      obtain ⟨G3, st3, l5, l3, l4, f3, hW3, e3⟩ := ih (p + 1) G2 _ (.int (zi (k : Int))) (.int (zi 1)) (c2_int _) (c2_int _) hW2 h12 h22 (by omega) (by omega)
      have v2 := (h12.2.2 (p - 1) (by omega)).1
      have v3 : G2 b2 ((k : Int) - 1).toNat = g (k - 1) := by
        rw [show ((k : Int) - 1).toNat = k - 1 by omega]
        exact (h22.2.2 (k - 1) (by omega)).1
      refine ⟨G3, st3, l5, l3, l4, f1.trans (f2.trans f3), hW3, fun Q => ?_⟩
      rw [fL_leads_68, fL_leads_70, fL_leads_71 (RWF_9 h1), fL_leads_72 (by omega) (by omega), if_pos (by omega), fL_leads_75, fL_leads_76, fL_leads_77, fL_leads_78, fL_leads_80 hk, e1]
      rw [fL_leads_83 (c2_int _), fL_leads_85, fL_leads_86, fL_leads_87, fL_leads_88, fL_leads_90, fL_leads_91, fL_leads_92 h1.1.1 (by omega) (by omega), ep, v1, fL_leads_93 hk, e2]
      rw [fL_leads_96 (by omega), if_neg (by omega), fL_leads_99, fL_leads_100, fL_leads_104 (c2_int _), fL_leads_106, fL_leads_108 (by decide), if_neg (by decide), fL_leads_111, fL_leads_113, fL_leads_114 (by omega) (by decide), if_neg (by omega), fL_leads_117, fL_leads_119, fL_leads_121, fL_leads_122, fL_leads_123 h2.1.1 (by omega) (by omega), v3, q3, fL_leads_124, fL_leads_125, fL_leads_127, fL_leads_128, fL_leads_129 h1.1.1 (by omega) (by omega), ep, v2, fL_leads_130 (by omega) (by omega), if_pos rfl, fL_leads_177 (c2_ref _), fL_leads_180]
      exact e3 Q
    · rw [q1] at e1
      rw [q0] at e2
      obtain ⟨G3, f3, hW3, e3⟩ := W_fate (L := L) (x := f (p - 1)) (w := 0) hW2 hs ⟨by omega, by omega⟩ (by decide)
      rw [q2] at e3
      obtain ⟨G4, f4, hW4, e4⟩ := W_fate (L := L) (x := f (p - 1)) (w := 1) hW3 hs ⟨by omega, by omega⟩ (by decide)
      rw [q3] at e4
      have h13 := RWF_f h12 f3
      have v2 := (h12.2.2 (p - 1) (by omega)).1
      have v3 := (h13.2.2 (p - 1) (by omega)).1
      obtain ⟨G5, st5, l5, l3, l4, f5, hW5, e5⟩ := ih (p + 1) G4 _ (.int (zi (-1))) (.int (zi 0)) (c2_int _) (c2_int _) hW4 (RWF_f h13 f4) (RWF_f (RWF_f h22 f3) f4) (by omega) (by omega)
      refine ⟨G5, st5, l5, l3, l4, f1.trans (f2.trans (f3.trans (f4.trans f5))), hW5, fun Q => ?_⟩
      rw [fL_leads_68, fL_leads_70, fL_leads_71 (RWF_9 h1), fL_leads_72 (by omega) (by omega), if_pos (by omega), fL_leads_75, fL_leads_76, fL_leads_77, fL_leads_78, fL_leads_80 hk, e1]
      rw [fL_leads_83 (c2_int _), fL_leads_85, fL_leads_86, fL_leads_87, fL_leads_88, fL_leads_90, fL_leads_91, fL_leads_92 h1.1.1 (by omega) (by omega), ep, v1, fL_leads_93 hk, e2]
      rw [fL_leads_96 (by decide), if_pos (by decide), fL_leads_103, fL_leads_104 (c2_int _), fL_leads_106, fL_leads_108 (by decide), if_pos rfl, fL_leads_136, fL_leads_138, fL_leads_139 (by decide) (by decide), if_pos rfl, fL_leads_142, fL_leads_143, fL_leads_144, fL_leads_145, fL_leads_147, fL_leads_148, fL_leads_149 h1.1.1 (by omega) (by omega), ep, v2, fL_leads_150, fL_leads_151 hk, e3]
      rw [fL_leads_154, fL_leads_155 (by omega) (by omega), if_pos rfl, fL_leads_158, fL_leads_159, fL_leads_160, fL_leads_161, fL_leads_163, fL_leads_164, fL_leads_165 h1.1.1 (by omega) (by omega), ep, v3, fL_leads_166, fL_leads_167 hk, e4]
      rw [fL_leads_170, fL_leads_172 (by omega) (by omega), if_pos rfl, fL_leads_177 (c2_ref _), fL_leads_180]
      exact e5 Q
theorem leads_ok (hW : WK E r G X n σ st) (hs : 0 ≤ s ∧ s < n) (hr : 1 ≤ rr ∧ rr ≤ 1000) (h1 : RWF E G X b1 m1 f) (h2 : RWF E G X b2 m2 g) (hL : LDS (σ s.toNat) rr f g m1 m2) : ∃ G', FX X G G' ∧ WK E r G' X n σ 5 ∧ ∀ Q, RK ML_leads 0 [.ref X, .int (zi s), .int (zi rr), .ref b1, .ref b2, jk, jk, jk] [] (0, 0) (E, zg G, zk L, r) Q = Q (E, zg G', zk L, r) (.int (zi 1)) := by
  have m1b := h1.2.1
  have m2b := h2.2.1
  have hk := (WK_k hW).1
  obtain ⟨G1, st1, l1, c1, f1, hW1, e1⟩ := leads_1 (L := L) hs hr hL m2 1 G st jk c2_jk hW h1 h2 (by decide) (by omega)
  obtain ⟨G2, st2, l2, l3, l4, f2, hW2, e2⟩ := leads_2 (L := L) hs hr hL m1 1 G1 st1 l1 jk c1 c2_jk hW1 (RWF_f h1 f1) (RWF_f h2 f1) (by decide) (by omega)
  obtain ⟨G3, f3, hW3, e3⟩ := W_back (L := L) (y := rr) (k := (m2 : Int) + 1) hW2 hs (by omega) (by omega)
  rw [hL.2.2.1] at e3
  rw [hL.2.2.1, if_pos rfl] at hW3
  have s3 := W_status (L := L) hW3
  obtain ⟨G4, f4, hW4, e4⟩ := W_ahead (L := L) (y := rr) (k := (m1 : Int) + 1) hW3 hs (by omega) (by omega)
  rw [hL.2.2.2] at e4
  rw [hL.2.2.2, if_pos rfl] at hW4
  have s4 := W_status (L := L) hW4
  refine ⟨G4, f1.trans (f2.trans (f3.trans f4)), hW4, fun Q => ?_⟩
  rw [fL_leads_0, fL_leads_1 (c2_ref _), show (1 : Int) = ((1 : Nat) : Int) from rfl, e1, fL_leads_65, fL_leads_66 (c2_ref _), show (1 : Int) = ((1 : Nat) : Int) from rfl, e2]
  rw [fL_leads_183, fL_leads_184, fL_leads_185, fL_leads_186, fL_leads_188 (RWF_9 h2), h2.1.2.1, fL_leads_189, fL_leads_190, fL_leads_191 hk, e3]
  rw [fL_leads_194, fL_leads_195 (by decide) (by decide), if_pos rfl, fL_leads_198, fL_leads_199 hk, s3, fL_leads_202, fL_leads_203 (by decide) (by decide), if_pos rfl, fL_leads_206, fL_leads_207, fL_leads_208, fL_leads_209, fL_leads_210 (RWF_9 h1), h1.1.2.1, fL_leads_211, fL_leads_212, fL_leads_213 hk, e4]
  rw [fL_leads_216, fL_leads_217 (by decide) (by decide), if_pos rfl, fL_leads_220, fL_leads_221 hk, s4, fL_leads_224, fL_leads_225 (by decide) (by decide), if_pos rfl, fL_leads_228, fL_leads_229, fL_leads_233 (Or.inr rfl)]
  rfl
end BS
