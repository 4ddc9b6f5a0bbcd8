/-! The law's own text: what is carried while it is built; a cell, a part of it, a law's words. -/
/-- an old String at s tells u -/
def TX (E : AE) (r : Nat → Nat → Option Nat) (G : Nat → Nat → Int) (s : Nat) (u : List Int) : Prop := ∃ w, STR E r G s w ∧ (s < E.1 ∧ w < E.1 ∧ kd E w = 9) ∧ TXT E G w u
def tw1047 : List Int := [102, 105, 120, 101, 100, 32]
def tw1052 : List Int := [32, 114, 111, 117, 110, 100, 115, 32]
def tw1054 : List Int := [116, 111, 108, 100, 32]
def tw1064 : List Int := [115, 105, 101, 118, 101, 32]
def tw1066 : List Int := [32, 102, 114, 111, 109, 32]
def tw1068 : List Int := [32, 98, 121, 32]
def tw1070 : List Int := [32, 109, 97, 110, 121, 32]
def tw1076 : List Int := [108, 105, 115, 116, 32, 108, 32]
def nmT (k : Nat) : List Int := if k = 0 then [108, 117, 99, 107, 121] else if k = 1 then [102, 108, 97, 118, 105, 117, 115] else if k = 2 then [108, 117, 100, 105, 99] else [112, 114, 105, 109, 101]
/-- the law's constants stand -/
def LWC (E : AE) (r : Nat → Nat → Option Nat) (G : Nat → Nat → Int) : Prop := DIG E G ∧ (TX E r G (E.2.2 1047) tw1047 ∧ TX E r G (E.2.2 1052) tw1052 ∧ TX E r G (E.2.2 1054) tw1054 ∧ TX E r G (E.2.2 1064) tw1064 ∧ TX E r G (E.2.2 1066) tw1066 ∧ TX E r G (E.2.2 1068) tw1068 ∧ TX E r G (E.2.2 1070) tw1070 ∧ TX E r G (E.2.2 1076) tw1076) ∧ (kd E (E.2.2 2003) = 8 ∧ le E (E.2.2 2003) = 4 ∧ E.2.2 2003 < E.1) ∧ ∀ k, k < 4 → ∃ s, r (E.2.2 2003) k = some s ∧ TX E r G s (nmT k)
/-- a builder at a, made after E0, holds t; all that was before E0 stands -/
def BS0 (E0 : AE) (G0 L0 : Nat → Nat → Int) (r0 : Nat → Nat → Option Nat) (E : AE) (G L : Nat → Nat → Int) (r : Nat → Nat → Option Nat) (a v : Nat) (t : List Int) : Prop := XT E0 E ∧ (∀ x, x < E0.1 → G x = G0 x ∧ L x = L0 x ∧ r x = r0 x) ∧ (E0.1 ≤ a ∧ E0.1 ≤ v) ∧ BLD E r G a v t ∧ v ≠ a
/-- a part of a whole number -/
def pt (x n : Int) : Int := x % 2147483648 % n
/-- the law's words -/
def sayT (x : Int) : List Int := if pt x 6 < 4 then nmT (pt x 6).toNat else if pt x 6 = 4 then tw1047 ++ dig2 (2 + pt (x / 8) 9) ++ tw1052 ++ dig2 (1 + pt (x / 64) 6) else tw1054 ++ dig2 (2 + pt (x / 8) 9) ++ [32] ++ dig2 (2 + pt (x / 64) 30) ++ [32] ++ dig2 (2 + pt (x / 256) 5)
section BS
variable {E E' E0 : AE} {G G' L L' G0 L0 : Nat → Nat → Int} {r r' r0 : Nat → Nat → Option Nat} {h : AH} {Q : AH → Value → Prop} {a b v s w : Nat} {x y z n c i : Int} {t u : List Int}
theorem TX_x (ht : TX E r G s u) (hx : XT E E') (hf : ∀ x, x < E.1 → G' x = G x ∧ r' x = r x) : TX E' r' G' s u := by
  obtain ⟨w, hs, ⟨k1, k2, k3⟩, t1, t2⟩ := ht
  have kw := hx.kd k2
  have e1 := hx.1
  exact ⟨w, STR_x hs hx ⟨k1, k2⟩ (hf s k1).2 (hf s k1).1, ⟨Nat.lt_of_lt_of_le k1 e1, Nat.lt_of_lt_of_le k2 e1, kw.1.trans k3⟩, kw.2.trans t1, fun j hj => by rw [(hf w k2).1]; exact t2 j hj⟩
theorem LWC_x (hc : LWC E r G) (hx : XT E E') (hf : ∀ x, x < E.1 → G' x = G x ∧ r' x = r x) : LWC E' r' G' := by
  obtain ⟨d, ⟨c1, c2, c3, c4, c5, c6, c7, c8⟩, ⟨k1, k2, k3⟩, h4⟩ := hc
  have kw := hx.kd k3
  have T := fun {s u} (h : TX E r G s u) => TX_x h hx hf
  refine ⟨DIG_x d hx (hf _ d.1.2.2).1 (hf _ d.2.1.2.2).1, ?_, ?_, ?_⟩
  · rw [hx.2.1]
    exact ⟨T c1, T c2, T c3, T c4, T c5, T c6, T c7, T c8⟩
  · rw [hx.2.1]
    exact ⟨kw.1.trans k1, kw.2.trans k2, Nat.lt_of_lt_of_le k3 hx.1⟩
  · intro k hk
    obtain ⟨s, q1, q2⟩ := h4 k hk
    exact ⟨s, by rw [hx.2.1, (hf _ k3).2]; exact q1, T q2⟩
theorem BS0_k (hb : BS0 E0 G0 L0 r0 E G L r a v t) : kd E a = 17 ∧ E.2.2 = E0.2.2 := ⟨hb.2.2.2.1.1.1, hb.1.2.1⟩
theorem BS0_f {v' : Nat} (hb : BS0 E0 G0 L0 r0 E G L r a v t) (hf : FRB E G L r E' G' L' r' a v v') (hB : BLD E' r' G' a v' u) (hva : v' ≠ a) : BS0 E0 G0 L0 r0 E' G' L' r' a v' u := by
  obtain ⟨x0, f0, ⟨a0, v0⟩, -, -⟩ := hb
  obtain ⟨x1, n1, f1⟩ := hf
  have q := x0.1
  refine ⟨x0.trans x1, fun x hx => ?_, ⟨a0, ?_⟩, hB, hva⟩
  · obtain ⟨g1, g2, g3⟩ := f1 x (by omega) (by omega) (by omega)
    obtain ⟨e1, e2, e3⟩ := f0 x hx
    exact ⟨g1.trans e1, g2.trans e2, g3.trans e3⟩
  · rcases n1 with q | q <;> omega
theorem s_text (hb : BS0 E0 G0 L0 r0 E G L r a v t) (hc : TX E0 r0 G0 s u) (hL : t.length + u.length ≤ 200) : ∃ E' G' L' r' v', BS0 E0 G0 L0 r0 E' G' L' r' a v' (t ++ u) ∧ ∀ Q, RK MJ4_append_15ec4 0 [.ref a, .ref s] [] (0, 0) (E, zg G, zk L, r) Q = Q (E', zg G', zk L', r') (.ref a) := by
  obtain ⟨w, c1, c2, c3⟩ := TX_x hc hb.1 fun x hx => ⟨(hb.2.1 x hx).1, (hb.2.1 x hx).2.2⟩
  obtain ⟨E1, G1, L1, r1, v1, f1, ⟨hB1, hva1⟩, e1⟩ := b_text (L := L) hb.2.2.2.1 hb.2.2.2.2 hL c1 c2 c3
  exact ⟨E1, G1, L1, r1, v1, BS0_f hb f1 hB1 hva1, e1⟩
theorem s_int (hb : BS0 E0 G0 L0 r0 E G L r a v t) (hc : LWC E0 r0 G0) (hL : t.length ≤ 198) (hx : 0 ≤ x ∧ x < 100) : ∃ E' G' L' r' v', BS0 E0 G0 L0 r0 E' G' L' r' a v' (t ++ dig2 x) ∧ ∀ Q, RK MJ4_append_bf812 0 [.ref a, .int (zi x)] [] (0, 0) (E, zg G, zk L, r) Q = Q (E', zg G', zk L', r') (.ref a) := by
  have hD := (LWC_x hc hb.1 fun x hx => ⟨(hb.2.1 x hx).1, (hb.2.1 x hx).2.2⟩).1
  obtain ⟨E1, G1, L1, r1, v1, f1, ⟨hB1, hva1⟩, e1⟩ := b_int (L := L) hb.2.2.2.1 hb.2.2.2.2 hL hD hx
  exact ⟨E1, G1, L1, r1, v1, BS0_f hb f1 hB1 hva1, e1⟩
theorem s_char (hb : BS0 E0 G0 L0 r0 E G L r a v t) (hL : t.length < 200) (hx : 0 ≤ x ∧ x < 128) : ∃ E' G' L' r' v', BS0 E0 G0 L0 r0 E' G' L' r' a v' (t ++ [x]) ∧ ∀ Q, RK MJ4_append_cf468 0 [.ref a, .int (zi x)] [] (0, 0) (E, zg G, zk L, r) Q = Q (E', zg G', zk L', r') (.ref a) := by
  obtain ⟨E1, G1, L1, r1, v1, f1, ⟨hB1, hva1⟩, e1⟩ := b_char (L := L) hb.2.2.2.1 hL hx
  exact ⟨E1, G1, L1, r1, v1, BS0_f hb f1 hB1 hva1, e1⟩
theorem and_m (x : Int) : zi x &&& zi 2147483647 = zi (x % 2147483648) := by
  apply zi_ext
  have e : (zi x &&& zi 2147483647).toUInt32.toNat = (zi x).toUInt32.toNat &&& 2147483647 := by
    show ((zi x).toUInt32.toBitVec &&& BitVec.ofInt 32 2147483647).toNat = _
    rw [BitVec.toNat_and]
    rfl
  have e3 : ∀ m : Nat, m &&& 2147483647 = m % 2147483648 := fun m => Nat.and_two_pow_sub_one_eq_mod m 31
  rw [e, e3, zi_nat, zi_nat]
  omega
theorem pt_b (x n : Int) (hn : 0 < n) : 0 ≤ pt x n ∧ pt x n < n := ⟨Int.emod_nonneg _ (by omega), Int.emod_lt_of_pos _ hn⟩
theorem c_part (hn : 0 < n ∧ n < 1000) : RK ML_part 0 [.int (zi x), .int (zi n)] [] (0, 0) h Q = Q h (.int (zi (pt x n))) := by
  rw [fL_part_0, fL_part_1, fL_part_3, and_m, fL_part_4, fL_part_5 (by omega) (by omega), fL_part_6]
  rfl
theorem sh_c (x k : Int) (j : Nat) (d : Int) (hk : (zi k &&& 31).toBitVec.smod 32 = BitVec.ofNat 32 j) (hj : j < 32) (hd : (2 : Int) ^ j = d) (hd1 : 1 ≤ d) (hx : -2147483648 ≤ x ∧ x < 2147483648) : zi x >>> (zi k &&& 31) = zi (x / d) := by
  apply Int32.toInt_inj.mp
  have b : -2147483648 ≤ x / d ∧ x / d < 2147483648 := by
    have h1 : x / d * d + x % d = x := Int.ediv_mul_add_emod x d
    have h2 := Int.emod_nonneg x (show d ≠ 0 by omega)
    have h3 := Int.emod_lt_of_pos x (show 0 < d by omega)
    refine ⟨?_, ?_⟩
    · exact (Int.le_ediv_iff_mul_le (by omega)).mpr (by have : -2147483648 * d ≤ -2147483648 * 1 := by omega
                                                        omega)
    · exact Int.ediv_lt_of_lt_mul (by omega) (by have : 2147483648 * 1 ≤ 2147483648 * d := by omega
                                                 omega)
  rw [zi_t b]
  show (zi x >>> (zi k &&& 31)).toBitVec.toInt = _
  rw [Int32.toBitVec_shiftRight, hk, BitVec.sshiftRight_eq', BitVec.toInt_sshiftRight, BitVec.toNat_ofNat, Nat.mod_eq_of_lt (by omega), Int.shiftRight_eq_div_pow]
  show (zi x).toInt / _ = _
  rw [zi_t hx, ← hd]
  rfl
theorem sh2 (hx : -2147483648 ≤ x ∧ x < 2147483648) : zi x >>> (zi 2 &&& 31) = zi (x / 4) := sh_c x 2 2 4 (by decide) (by decide) (by decide) (by decide) hx
theorem sh3 (hx : -2147483648 ≤ x ∧ x < 2147483648) : zi x >>> (zi 3 &&& 31) = zi (x / 8) := sh_c x 3 3 8 (by decide) (by decide) (by decide) (by decide) hx
theorem sh5 (hx : -2147483648 ≤ x ∧ x < 2147483648) : zi x >>> (zi 5 &&& 31) = zi (x / 32) := sh_c x 5 5 32 (by decide) (by decide) (by decide) (by decide) hx
theorem sh6 (hx : -2147483648 ≤ x ∧ x < 2147483648) : zi x >>> (zi 6 &&& 31) = zi (x / 64) := sh_c x 6 6 64 (by decide) (by decide) (by decide) (by decide) hx
theorem sh7 (hx : -2147483648 ≤ x ∧ x < 2147483648) : zi x >>> (zi 7 &&& 31) = zi (x / 128) := sh_c x 7 7 128 (by decide) (by decide) (by decide) (by decide) hx
theorem sh8 (hx : -2147483648 ≤ x ∧ x < 2147483648) : zi x >>> (zi 8 &&& 31) = zi (x / 256) := sh_c x 8 8 256 (by decide) (by decide) (by decide) (by decide) hx
theorem nmT_l (k : Nat) : (nmT k).length ≤ 7 := by
  unfold nmT
  split
  · exact Nat.le_of_ble_eq_true rfl
  · split
    · exact Nat.le_of_ble_eq_true rfl
    · split <;> exact Nat.le_of_ble_eq_true rfl
theorem dig2_l (x : Int) : (dig2 x).length ≤ 2 := by
  unfold dig2
  split
  · exact Nat.le_succ _
  · exact Nat.le_refl _
theorem says_ok (hb : BS0 E0 G0 L0 r0 E G L r a v t) (hc : LWC E0 r0 G0) (hx : -2147483648 ≤ x ∧ x < 2147483648) (hL : t.length ≤ 170) : ∃ E' G' L' r' v', BS0 E0 G0 L0 r0 E' G' L' r' a v' (t ++ sayT x) ∧ ∀ Q, RK ML_says 0 [.ref a, .int (zi x), jk] [] (0, 0) (E, zg G, zk L, r) Q = Q (E', zg G', zk L', r') .null := by
  have p6 := pt_b x 6 (by decide)
  have eP := fun x n (hn : 0 < n ∧ n < 1000) h Q => c_part (x := x) (n := n) (h := h) (Q := Q) hn
  obtain ⟨-, ⟨k1047, k1052, k1054, -⟩, ⟨q1, q2, q3⟩, q4⟩ := id hc
  by_cases c4 : pt x 6 < 4
  · obtain ⟨s, s1, s2⟩ := q4 (pt x 6).toNat (by omega)
    have n7 := nmT_l (pt x 6).toNat
    obtain ⟨E1, G1, L1, r1, v1, h1, e1⟩ := s_text hb s2 (by omega)
    have kr := (hb.2.1 _ q3).2.2
    obtain ⟨kk, kl⟩ := hb.1.kd q3
    refine ⟨E1, G1, L1, r1, v1, ?_, fun Q => ?_⟩
    · have es : sayT x = nmT (pt x 6).toNat := if_pos c4
      rw [es]
      exact h1
    · rw [fL_says_0, fL_says_1, fL_says_3 (by decide) (by decide), eP _ _ (by decide), fL_says_6 (c2_int _), fL_says_7, fL_says_8, fL_says_9 (by omega) (by decide), if_pos c4, fL_says_12, fL_says_13, fL_says_16, (BS0_k hb).2, fL_says_17 (Or.inr (Or.inr (kk.trans q1))) (by rw [kl, q2]; omega) (by rw [kl, q2]; decide) (by rw [kr]; exact s1), fL_says_18 (by decide) (by decide) (BS0_k hb).1, e1]
      rw [fL_says_21 (c2_ref _), fL_says_22, fL_says_129]
  · by_cases c5 : pt x 6 = 4
    · have p1 := pt_b (x / 8) 9 (by decide)
      have p2 := pt_b (x / 64) 6 (by decide)
      have d1 := dig2_l (2 + pt (x / 8) 9)
      have l1 : tw1047.length = 6 := rfl
      have l2 : tw1052.length = 8 := rfl
      obtain ⟨E1, G1, L1, r1, v1, h1, e1⟩ := s_text hb k1047 (by omega)
      have n1 : (t ++ tw1047).length = t.length + 6 := List.length_append
      obtain ⟨E2, G2, L2, r2, v2, h2, e2⟩ := s_int (x := 2 + pt (x / 8) 9) h1 hc (by omega) (by omega)
      have n2 : (t ++ tw1047 ++ dig2 (2 + pt (x / 8) 9)).length = (t ++ tw1047).length + (dig2 (2 + pt (x / 8) 9)).length := List.length_append
      obtain ⟨E3, G3, L3, r3, v3, h3, e3⟩ := s_text h2 k1052 (by omega)
      have n3 : (t ++ tw1047 ++ dig2 (2 + pt (x / 8) 9) ++ tw1052).length = (t ++ tw1047 ++ dig2 (2 + pt (x / 8) 9)).length + 8 := List.length_append
      obtain ⟨E4, G4, L4, r4, v4, h4, e4⟩ := s_int (x := 1 + pt (x / 64) 6) h3 hc (by omega) (by omega)
      refine ⟨E4, G4, L4, r4, v4, ?_, fun Q => ?_⟩
      · have es : sayT x = tw1047 ++ dig2 (2 + pt (x / 8) 9) ++ tw1052 ++ dig2 (1 + pt (x / 64) 6) := (if_neg c4).trans (if_pos c5)
        rw [es, ← List.append_assoc, ← List.append_assoc, ← List.append_assoc]
        exact h4
      · rw [fL_says_0, fL_says_1, fL_says_3 (by decide) (by decide), eP _ _ (by decide), fL_says_6 (c2_int _), fL_says_7, fL_says_8, fL_says_9 (by omega) (by decide), if_neg c4, fL_says_25, fL_says_26, fL_says_27 (by omega) (by decide), if_pos c5, fL_says_30, fL_says_31, (BS0_k hb).2, fL_says_33 (by decide) (by decide) (BS0_k hb).1, e1]
        rw [fL_says_36, fL_says_37, fL_says_38, fL_says_39, sh3 hx, fL_says_40, fL_says_42 (by decide) (by decide), eP _ _ (by decide), fL_says_45, fL_says_46 (by decide) (by decide) (BS0_k h1).1, e2]
        rw [fL_says_49, (BS0_k h2).2, fL_says_51 (by decide) (by decide) (BS0_k h2).1, e3]
        rw [fL_says_54, fL_says_55, fL_says_56, fL_says_58, sh6 hx, fL_says_59, fL_says_61 (by decide) (by decide), eP _ _ (by decide), fL_says_64, fL_says_65 (by decide) (by decide) (BS0_k h3).1, e4]
        rw [fL_says_68 (c2_ref _), fL_says_69, fL_says_129]
    · have p1 := pt_b (x / 8) 9 (by decide)
      have p2 := pt_b (x / 64) 30 (by decide)
      have p3 := pt_b (x / 256) 5 (by decide)
      have d1 := dig2_l (2 + pt (x / 8) 9)
      have d2 := dig2_l (2 + pt (x / 64) 30)
      have l1 : tw1054.length = 5 := rfl
      obtain ⟨E1, G1, L1, r1, v1, h1, e1⟩ := s_text hb k1054 (by omega)
      have n1 : (t ++ tw1054).length = t.length + 5 := List.length_append
      obtain ⟨E2, G2, L2, r2, v2, h2, e2⟩ := s_int (x := 2 + pt (x / 8) 9) h1 hc (by omega) (by omega)
      have n2 : (t ++ tw1054 ++ dig2 (2 + pt (x / 8) 9)).length = (t ++ tw1054).length + (dig2 (2 + pt (x / 8) 9)).length := List.length_append
      obtain ⟨E3, G3, L3, r3, v3, h3, e3⟩ := s_char (x := 32) h2 (by omega) (by decide)
      have n3 : (t ++ tw1054 ++ dig2 (2 + pt (x / 8) 9) ++ [32]).length = (t ++ tw1054 ++ dig2 (2 + pt (x / 8) 9)).length + 1 := List.length_append
      obtain ⟨E4, G4, L4, r4, v4, h4, e4⟩ := s_int (x := 2 + pt (x / 64) 30) h3 hc (by omega) (by omega)
      have n4 : (t ++ tw1054 ++ dig2 (2 + pt (x / 8) 9) ++ [32] ++ dig2 (2 + pt (x / 64) 30)).length = (t ++ tw1054 ++ dig2 (2 + pt (x / 8) 9) ++ [32]).length + (dig2 (2 + pt (x / 64) 30)).length := List.length_append
      obtain ⟨E5, G5, L5, r5, v5, h5, e5⟩ := s_char (x := 32) h4 (by omega) (by decide)
      have n5 : (t ++ tw1054 ++ dig2 (2 + pt (x / 8) 9) ++ [32] ++ dig2 (2 + pt (x / 64) 30) ++ [32]).length = (t ++ tw1054 ++ dig2 (2 + pt (x / 8) 9) ++ [32] ++ dig2 (2 + pt (x / 64) 30)).length + 1 := List.length_append
      obtain ⟨E6, G6, L6, r6, v6, h6, e6⟩ := s_int (x := 2 + pt (x / 256) 5) h5 hc (by omega) (by omega)
      refine ⟨E6, G6, L6, r6, v6, ?_, fun Q => ?_⟩
      · have es : sayT x = tw1054 ++ dig2 (2 + pt (x / 8) 9) ++ [32] ++ dig2 (2 + pt (x / 64) 30) ++ [32] ++ dig2 (2 + pt (x / 256) 5) := (if_neg c4).trans (if_neg c5)
        rw [es, ← List.append_assoc, ← List.append_assoc, ← List.append_assoc, ← List.append_assoc, ← List.append_assoc]
        exact h6
      · rw [fL_says_0, fL_says_1, fL_says_3 (by decide) (by decide), eP _ _ (by decide), fL_says_6 (c2_int _), fL_says_7, fL_says_8, fL_says_9 (by omega) (by decide), if_neg c4, fL_says_25, fL_says_26, fL_says_27 (by omega) (by decide), if_neg c5, fL_says_72, fL_says_73, (BS0_k hb).2, fL_says_75 (by decide) (by decide) (BS0_k hb).1, e1]
        rw [fL_says_78, fL_says_79, fL_says_80, fL_says_81, sh3 hx, fL_says_82, fL_says_84 (by decide) (by decide), eP _ _ (by decide), fL_says_87, fL_says_88 (by decide) (by decide) (BS0_k h1).1, e2]
        rw [fL_says_91, fL_says_93 (by decide) (by decide) (BS0_k h2).1, e3]
        rw [fL_says_96, fL_says_97, fL_says_98, fL_says_100, sh6 hx, fL_says_101, fL_says_103 (by decide) (by decide), eP _ _ (by decide), fL_says_106, fL_says_107 (by decide) (by decide) (BS0_k h3).1, e4]
        rw [fL_says_110, fL_says_112 (by decide) (by decide) (BS0_k h4).1, e5]
        rw [fL_says_115, fL_says_116, fL_says_117, fL_says_119, sh8 hx, fL_says_120, fL_says_121 (by decide) (by decide), eP _ _ (by decide), fL_says_124, fL_says_125 (by decide) (by decide) (BS0_k h5).1, e6]
        rw [fL_says_128 (c2_ref _), fL_says_129]
end BS
