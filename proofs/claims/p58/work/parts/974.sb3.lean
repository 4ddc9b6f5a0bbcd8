/-! The builder: a number of at most two digits; made; told as a text. -/
def dig2 (x : Int) : List Int := if x < 10 then [48 + x] else [48 + x / 10, 48 + x % 10]
/-- the digits' rows -/
def DIG (E : AE) (G : Nat → Nat → Int) : Prop := (kd E (E.2.2 2001) = 9 ∧ le E (E.2.2 2001) = 100 ∧ E.2.2 2001 < E.1) ∧ (kd E (E.2.2 2002) = 9 ∧ le E (E.2.2 2002) = 100 ∧ E.2.2 2002 < E.1) ∧ (∀ j : Nat, j < 100 → G (E.2.2 2001) j = 48 + (j : Int) % 10) ∧ ∀ j : Nat, j < 100 → G (E.2.2 2002) j = 48 + (j : Int) / 10
section BS
variable {E E' : AE} {G G' L L' : Nat → Nat → Int} {r r' : Nat → Nat → Option Nat} {h : AH} {Q : AH → Value → Prop} {a v s w : Nat} {x y z n c i : Int} {t u : List Int}
theorem dig2_len (hx : 0 ≤ x ∧ x < 100) : ((dig2 x).length : Int) = (if x < 10 then 1 else 2) ∧ (dig2 x).length ≤ 2 := by
  unfold dig2
  split
  · exact ⟨rfl, Nat.le_succ _⟩
  · exact ⟨rfl, Nat.le_refl _⟩
theorem c6J_stringSize (hx : 0 ≤ x ∧ x < 100) : RK MJ6_stringSize_0f7a4 0 [.int (zi x), jk, jk, jk] [] (0, 0) h Q = Q h (.int (zi (if x < 10 then 1 else 2))) := by
  rw [fJ6_stringSize_0f7a4_0, fJ6_stringSize_0f7a4_1 (c2_int _), fJ6_stringSize_0f7a4_2, fJ6_stringSize_0f7a4_3 (by omega), if_neg (by omega), fJ6_stringSize_0f7a4_6, fJ6_stringSize_0f7a4_7 (c2_int _), fJ6_stringSize_0f7a4_8, fJ6_stringSize_0f7a4_9, fJ6_stringSize_0f7a4_10, fJ6_stringSize_0f7a4_11, fJ6_stringSize_0f7a4_13 (c2_int _), fJ6_stringSize_0f7a4_14, fJ6_stringSize_0f7a4_15 (c2_int _), fJ6_stringSize_0f7a4_16, fJ6_stringSize_0f7a4_17, fJ6_stringSize_0f7a4_19 (by decide) (by decide), if_pos (by decide), fJ6_stringSize_0f7a4_22, fJ6_stringSize_0f7a4_23, fJ6_stringSize_0f7a4_24 (by omega) (by decide)]
  by_cases c : x < 10
  · rw [if_neg (show ¬ (-x ≤ -10) by omega), fJ6_stringSize_0f7a4_27, fJ6_stringSize_0f7a4_28, fJ6_stringSize_0f7a4_29, fJ6_stringSize_0f7a4_30, if_pos c, show (1 : Int) + 0 = 1 from rfl]
  · rw [if_pos (show -x ≤ -10 by omega), fJ6_stringSize_0f7a4_31, fJ6_stringSize_0f7a4_33, fJ6_stringSize_0f7a4_34, fJ6_stringSize_0f7a4_35 (c2_int _), fJ6_stringSize_0f7a4_36 (c2_int _), fJ6_stringSize_0f7a4_39, fJ6_stringSize_0f7a4_16, fJ6_stringSize_0f7a4_17, fJ6_stringSize_0f7a4_19 (by decide) (by decide), if_pos (by decide), fJ6_stringSize_0f7a4_22, fJ6_stringSize_0f7a4_23, fJ6_stringSize_0f7a4_24 (by omega) (by decide), if_neg (show ¬ (-x ≤ 10 * -10) by omega), fJ6_stringSize_0f7a4_27, fJ6_stringSize_0f7a4_28, fJ6_stringSize_0f7a4_29, fJ6_stringSize_0f7a4_30, if_neg c, show (1 : Int) + 1 + 0 = 2 from rfl]
/-- what is written of x before the place n -/
def dgW (G : Nat → Nat → Int) (v : Nat) (n x : Int) : Nat → Nat → Int := if x < 10 then u2 G v (n + (-1)).toNat (48 + x) else u2 (u2 G v (n + (-1)).toNat (48 + x % 10)) v (n + (-1) + (-1)).toNat (48 + x / 10)
theorem c6J_getChars (hD : DIG E G) (hv : kd E v = 2) (hl : le E v ≤ 500) (hx : 0 ≤ x ∧ x < 100) (hn : (if x < 10 then 1 else 2) ≤ n ∧ n ≤ (le E v : Int)) : ∃ w, ∀ Q, RK MJ6_getChars_ba4f3 0 [.int (zi x), .int (zi n), .ref v, jk, jk, jk, jk] [] (0, 0) (E, zg G, zk L, r) Q = Q (E, zg (dgW G v n x), zk L, r) (.int w) := by
  obtain ⟨⟨o1, o2, o3⟩, ⟨t1, t2, t3⟩, o4, t4⟩ := hD
  have ev : E.2.2 2001 ≠ v := fun q => by rw [q, hv] at o1; exact absurd o1 (by decide)
  have tv : E.2.2 2002 ≠ v := fun q => by rw [q, hv] at t1; exact absurd t1 (by decide)
  have ex : - -x = x := Int.neg_neg x
  have eo : G (E.2.2 2001) x.toNat = 48 + x % 10 := by rw [o4 _ (by omega), Int.toNat_of_nonneg hx.1]
  have et : ∀ k y, u2 G v k y (E.2.2 2002) x.toNat = 48 + x / 10 := fun k y => by rw [u2_a _ _ _ _ tv, t4 _ (by omega), Int.toNat_of_nonneg hx.1]
  by_cases c : x < 10
  · rw [if_pos c] at hn
    have e1 : 48 + x % 10 = 48 + x := by omega
    refine ⟨zi (n + (-1)), fun Q => ?_⟩
    rw [fJ6_getChars_ba4f3_0, fJ6_getChars_ba4f3_1 c2_jk, fJ6_getChars_ba4f3_3, fJ6_getChars_ba4f3_4 (by omega), if_neg (by omega), fJ6_getChars_ba4f3_11, fJ6_getChars_ba4f3_12 (c2_int _), fJ6_getChars_ba4f3_14, fJ6_getChars_ba4f3_16 (by decide), if_pos rfl, fJ6_getChars_ba4f3_19, fJ6_getChars_ba4f3_20, fJ6_getChars_ba4f3_21, fJ6_getChars_ba4f3_22, fJ6_getChars_ba4f3_23, fJ6_getChars_ba4f3_25 (by omega) (by decide), if_neg (by omega), fJ6_getChars_ba4f3_72, fJ6_getChars_ba4f3_73 c2_jk, fJ6_getChars_ba4f3_76, fJ6_getChars_ba4f3_78, fJ6_getChars_ba4f3_81, fJ6_getChars_ba4f3_82, ex, fJ6_getChars_ba4f3_83 (Or.inr o1) (by omega) (by omega), eo, e1, fJ6_getChars_ba4f3_84 hv (by omega) (by omega) (by omega), fJ6_getChars_ba4f3_85, fJ6_getChars_ba4f3_86, fJ6_getChars_ba4f3_88 (by omega) (by decide), if_neg (by omega), fJ6_getChars_ba4f3_104, fJ6_getChars_ba4f3_106 (by decide), if_pos rfl, fJ6_getChars_ba4f3_118, fJ6_getChars_ba4f3_120]
    unfold dgW
    rw [if_pos c]
  · rw [if_neg c] at hn
    refine ⟨zi (n + (-1) + (-1)), fun Q => ?_⟩
    rw [fJ6_getChars_ba4f3_0, fJ6_getChars_ba4f3_1 c2_jk, fJ6_getChars_ba4f3_3, fJ6_getChars_ba4f3_4 (by omega), if_neg (by omega), fJ6_getChars_ba4f3_11, fJ6_getChars_ba4f3_12 (c2_int _), fJ6_getChars_ba4f3_14, fJ6_getChars_ba4f3_16 (by decide), if_pos rfl, fJ6_getChars_ba4f3_19, fJ6_getChars_ba4f3_20, fJ6_getChars_ba4f3_21, fJ6_getChars_ba4f3_22, fJ6_getChars_ba4f3_23, fJ6_getChars_ba4f3_25 (by omega) (by decide), if_neg (by omega), fJ6_getChars_ba4f3_72, fJ6_getChars_ba4f3_73 c2_jk, fJ6_getChars_ba4f3_76, fJ6_getChars_ba4f3_78, fJ6_getChars_ba4f3_81, fJ6_getChars_ba4f3_82, ex, fJ6_getChars_ba4f3_83 (Or.inr o1) (by omega) (by omega), eo, fJ6_getChars_ba4f3_84 hv (by omega) (by omega) (by omega), fJ6_getChars_ba4f3_85, fJ6_getChars_ba4f3_86, fJ6_getChars_ba4f3_88 (by omega) (by decide), if_pos (by omega)]
    rw [fJ6_getChars_ba4f3_91, fJ6_getChars_ba4f3_92 c2_jk, fJ6_getChars_ba4f3_95, fJ6_getChars_ba4f3_97, fJ6_getChars_ba4f3_100, fJ6_getChars_ba4f3_101, ex, fJ6_getChars_ba4f3_102 (Or.inr t1) (by omega) (by omega), et, fJ6_getChars_ba4f3_103 hv (by omega) (by omega) (by omega), fJ6_getChars_ba4f3_104, fJ6_getChars_ba4f3_106 (by decide), if_pos rfl, fJ6_getChars_ba4f3_118, fJ6_getChars_ba4f3_120]
    unfold dgW
    rw [if_neg c]
theorem BLD_wr {G2 : Nat → Nat → Int} (hB : BLD E r G a v t) (h1 : G2 a 1 = G a 1) (h3 : G2 a 3 = (t.length : Int) + u.length) (hr : (t.length : Int) + u.length ≤ (le E v : Int)) (h4 : ∀ j, j < t.length → G2 v j = G v j) (h5 : ∀ j, j < u.length → G2 v (t.length + j) = u.getD j 0 ∧ (0 ≤ u.getD j 0 ∧ u.getD j 0 < 128)) : BLD E r G2 a v (t ++ u) := by
  obtain ⟨⟨b1, b2⟩, ⟨b3, b4, b5⟩, ⟨b6, b7⟩, ⟨b8, b9⟩, b10⟩ := hB
  have hl : (t ++ u).length = t.length + u.length := List.length_append
  refine ⟨⟨b1, b2⟩, ⟨b3, b4, b5⟩, ⟨h1.trans b6, ?_⟩, ⟨by rw [hl]; omega, b9⟩, fun j hj => ?_⟩
  · rw [h3, hl, Int.natCast_add]
  · rw [hl] at hj
    by_cases q : j < t.length
    · have e : (t ++ u).getD j 0 = t.getD j 0 := by rw [List.getD_eq_getElem?_getD, List.getElem?_append_left q, ← List.getD_eq_getElem?_getD]
      rw [e, h4 j q]
      exact b10 j q
    · have e : (t ++ u).getD j 0 = u.getD (j - t.length) 0 := by rw [List.getD_eq_getElem?_getD, List.getElem?_append_right (by omega), ← List.getD_eq_getElem?_getD]
      have k := h5 (j - t.length) (by omega)
      rw [show t.length + (j - t.length) = j by omega] at k
      rw [e]
      exact k
theorem dgW_v (hx : 0 ≤ x ∧ x < 100) (hn : n = (t.length : Int) + (dig2 x).length) : (∀ j, j < t.length → dgW G v n x v j = G v j) ∧ (∀ j, j < (dig2 x).length → dgW G v n x v (t.length + j) = (dig2 x).getD j 0 ∧ (0 ≤ (dig2 x).getD j 0 ∧ (dig2 x).getD j 0 < 128)) ∧ ∀ b, b ≠ v → dgW G v n x b = G b := by
  unfold dgW
  by_cases c : x < 10
  · have e : dig2 x = [48 + x] := if_pos c
    rw [e] at hn ⊢
    have en : (n + (-1)).toNat = t.length := by rw [hn]; show ((t.length : Int) + 1 + (-1)).toNat = _; omega
    rw [if_pos c, en]
    refine ⟨fun j hj => u2_i _ _ _ _ (by omega), fun j hj => ?_, fun b hb => u2_a _ _ _ _ hb⟩
    have h0 : j = 0 := Nat.lt_one_iff.mp hj
    subst h0
    rw [Nat.add_zero, u2_s]
    show 48 + x = 48 + x ∧ 0 ≤ 48 + x ∧ 48 + x < 128
    omega
  · have e : dig2 x = [48 + x / 10, 48 + x % 10] := if_neg c
    rw [e] at hn ⊢
    have en : (n + (-1)).toNat = t.length + 1 := by rw [hn]; show ((t.length : Int) + 2 + (-1)).toNat = _; omega
    have en2 : (n + (-1) + (-1)).toNat = t.length := by rw [hn]; show ((t.length : Int) + 2 + (-1) + (-1)).toNat = _; omega
    rw [if_neg c, en, en2]
    refine ⟨fun j hj => by rw [u2_i _ _ _ _ (by omega), u2_i _ _ _ _ (by omega)], fun j hj => ?_, fun b hb => by rw [u2_a _ _ _ _ hb, u2_a _ _ _ _ hb]⟩
    have h2 : j < 2 := hj
    by_cases q : j = 0
    · subst q
      rw [show t.length + 0 = t.length from rfl, u2_s]
      show 48 + x / 10 = 48 + x / 10 ∧ 0 ≤ 48 + x / 10 ∧ 48 + x / 10 < 128
      omega
    · have h1 : j = 1 := by omega
      subst h1
      rw [u2_i _ _ _ _ (by omega), u2_s]
      show 48 + x % 10 = 48 + x % 10 ∧ 0 ≤ 48 + x % 10 ∧ 48 + x % 10 < 128
      omega
theorem DIG_x (h : DIG E G) (hx : XT E E') (h1 : G' (E.2.2 2001) = G (E.2.2 2001)) (h2 : G' (E.2.2 2002) = G (E.2.2 2002)) : DIG E' G' := by
  obtain ⟨⟨o1, o2, o3⟩, ⟨t1, t2, t3⟩, o4, t4⟩ := h
  have k1 := hx.kd o3
  have k2 := hx.kd t3
  unfold DIG
  rw [hx.2.1]
  exact ⟨⟨by rw [k1.1]; exact o1, by rw [k1.2]; exact o2, Nat.lt_of_lt_of_le o3 hx.1⟩, ⟨by rw [k2.1]; exact t1, by rw [k2.2]; exact t2, Nat.lt_of_lt_of_le t3 hx.1⟩, fun j hj => by rw [h1]; exact o4 j hj, fun j hj => by rw [h2]; exact t4 j hj⟩
theorem b_int (hB : BLD E r G a v t) (hva : v ≠ a) (hL : t.length ≤ 198) (hD : DIG E G) (hx : 0 ≤ x ∧ x < 100) : ∃ E' G' L' r' v', FRB E G L r E' G' L' r' a v v' ∧ (BLD E' r' G' a v' (t ++ dig2 x) ∧ v' ≠ a) ∧ ∀ Q, RK MJ4_append_bf812 0 [.ref a, .int (zi x)] [] (0, 0) (E, zg G, zk L, r) Q = Q (E', zg G', zk L', r') (.ref a) := by
  obtain ⟨⟨b1, b2⟩, ⟨b3, b4, b5⟩, ⟨b6, b7⟩, -⟩ := id hB
  obtain ⟨n1, n2⟩ := dig2_len hx
  obtain ⟨⟨o1, o2, o3⟩, ⟨t1, t2, t3⟩, -⟩ := id hD
  have ne1 : ∀ b, kd E b = 9 → b ≠ a ∧ b ≠ v := fun b hb => ⟨fun q => by rw [q, b1] at hb; exact absurd hb (by decide), fun q => by rw [q, b5] at hb; exact absurd hb (by decide)⟩
  obtain ⟨E1, G1, L1, r1, v1, f1, ⟨hB1, hn, hva1⟩, e1⟩ := b_ensure (L := L) (n := (t.length : Int) + (if x < 10 then 1 else 2)) hB (by omega) (by omega)
  obtain ⟨⟨d1, d2⟩, ⟨d3, d4, d5⟩, ⟨d6, d7⟩, ⟨d8, d9⟩, d10⟩ := id hB1
  have hD1 : DIG E1 G1 := DIG_x hD f1.1 (f1.2.2 _ o3 (ne1 _ o1).1 (ne1 _ o1).2).1 (f1.2.2 _ t3 (ne1 _ t1).1 (ne1 _ t1).2).1
  obtain ⟨w, e2⟩ := c6J_getChars (L := L1) (r := r1) (n := (t.length : Int) + (if x < 10 then 1 else 2)) hD1 d5 d9 hx (by omega)
  have eS := fun h Q => c6J_stringSize (h := h) (Q := Q) hx
  have eI := fun Q => c5J_isLatin1 (L := L1) (Q := Q) (r := r1) d1 d6
  obtain ⟨g1, g2, g3⟩ := dgW_v (G := G1) (v := v1) (t := t) (n := (t.length : Int) + (if x < 10 then 1 else 2)) hx (by rw [n1])
  have hne : ∀ x, x < E.1 → x ≠ v → x ≠ v1 := fun x hx h => by rcases f1.2.1 with q | q <;> omega
  obtain ⟨G2, hG2⟩ : ∃ g, g = dgW G1 v1 ((t.length : Int) + (if x < 10 then 1 else 2)) x := ⟨_, rfl⟩
  rw [← hG2] at g1 g2 g3 e2
  have ga2 : G2 a = G1 a := g3 a (Ne.symm hva1)
  refine ⟨E1, u2 G2 a 3 ((t.length : Int) + (if x < 10 then 1 else 2)), L1, r1, v1, ⟨f1.1, f1.2.1, fun y hy h1 h2 => ?_⟩, ⟨BLD_wr hB1 ?_ ?_ ?_ (fun j hj => ?_) (fun j hj => ?_), hva1⟩, fun Q => ?_⟩
  · obtain ⟨q1, q2, q3⟩ := f1.2.2 y hy h1 h2
    refine ⟨?_, q2, q3⟩
    rw [u2_a _ _ _ _ h1, g3 y (hne y hy h2)]
    exact q1
  · rw [u2_i _ _ _ _ (by decide), ga2]
  · rw [u2_s, n1]
  · rw [n1]
    exact hn
  · rw [u2_a _ _ _ _ hva1]
    exact g1 j hj
  · rw [u2_a _ _ _ _ hva1]
    exact g2 j hj
  · rw [fJ4_append_bf812_0, fJ4_append_bf812_1, fJ4_append_bf812_2 (by decide) (by decide) b1]
    rw [fJ5_append_c97b9_0, fJ5_append_c97b9_1 b1, b7, fJ5_append_c97b9_4 (c2_int _), fJ5_append_c97b9_5, fJ5_append_c97b9_6, fJ5_append_c97b9_7 (by decide) (by decide), eS]
    rw [fJ5_append_c97b9_10, fJ5_append_c97b9_11 (c2_int _), fJ5_append_c97b9_12, fJ5_append_c97b9_13, fJ5_append_c97b9_14 (by decide) (by decide) b1, e1]
    rw [fJ5_append_c97b9_17, fJ5_append_c97b9_18 (by decide) (by decide) d1, eI]
    rw [fJ5_append_c97b9_21 (by decide), if_neg (by decide), fJ5_append_c97b9_24, fJ5_append_c97b9_25, fJ5_append_c97b9_26, fJ5_append_c97b9_27 d1 d3, fJ5_append_c97b9_30 (by decide) (by decide), e2]
    rw [fJ5_append_c97b9_33 (c2_int _), fJ5_append_c97b9_34, fJ5_append_c97b9_48, fJ5_append_c97b9_49, fJ5_append_c97b9_50 d1, fJ5_append_c97b9_53, fJ5_append_c97b9_54]
    rw [fJ4_append_bf812_5 (c2_ref _), fJ4_append_bf812_6, fJ4_append_bf812_7]
theorem b_init (hk : kd E a = 17) (ha : a < E.1) (h3 : G a 3 = 0) : ∃ E' G' L' r', (XT E E' ∧ E'.1 = E.1 + 1) ∧ (∀ x, x < E.1 → x ≠ a → G' x = G x ∧ L' x = L x ∧ r' x = r x) ∧ BLD E' r' G' a E.1 [] ∧ ∀ Q, RK MJ4_init_da8c8 0 [.ref a] [] (0, 0) (E, zg G, zk L, r) Q = Q (E', zg G', zk L', r') .null := by
  obtain ⟨k1, k2⟩ := cpE_n E 16
  have xt := cpE_x E 16
  have ka : kd (cpE E 16) a = 17 := ((xt.kd ha).1).trans hk
  refine ⟨cpE E 16, u2 (u1 G E.1 (fun _ => 0)) a 1 0, u1 L E.1 (fun _ => 0), u2 (u1 r E.1 (fun _ => none)) a 0 (some E.1), ⟨xt, rfl⟩, fun x hx h1 => ⟨by rw [u2_a _ _ _ _ h1, v1_a _ _ _ (Nat.ne_of_lt hx)], v1_a _ _ _ (Nat.ne_of_lt hx), by rw [u2_a _ _ _ _ h1, v1_a _ _ _ (Nat.ne_of_lt hx)]⟩, ⟨⟨ka, Nat.lt_succ_of_lt ha⟩, ⟨u2_s _ _ _ _, Nat.lt_succ_self _, k1⟩, ⟨u2_s _ _ _ _, ?_⟩, ⟨Nat.zero_le _, by rw [k2]; decide⟩, fun j hj => absurd hj (Nat.not_lt_zero j)⟩, fun Q => ?_⟩
  · rw [u2_i _ _ _ _ (by decide), v1_a _ _ _ (Nat.ne_of_lt ha), h3]
    rfl
  · rw [fJ4_init_da8c8_0, fJ4_init_da8c8_1, fJ4_init_da8c8_3 (by decide) (by decide) hk]
    rw [fJ5_init_d00df_0, fJ5_init_d00df_1, fJ5_init_d00df_4, fJ5_init_d00df_7 (by decide), if_neg (by decide), fJ5_init_d00df_10, fJ5_init_d00df_11, fJ5_init_d00df_12 (by decide) (by decide) (by decide)]
    rw [show (E.1 + 1, u1 E.2.1 E.1 (2, (16 : Int).toNat), E.2.2) = cpE E 16 from rfl, fJ5_init_d00df_14 ka, fJ5_init_d00df_17, fJ5_init_d00df_18, fJ5_init_d00df_19 ka (Or.inl rfl), fJ5_init_d00df_22, fJ5_init_d00df_38]
    rw [fJ4_init_da8c8_6]
theorem c7J_copyOfRange {m : Nat} (hv : kd E v = 2) (hlt : v < E.1) (hle : le E v ≤ 500) (hm : m ≤ le E v) : ∃ G', ((∀ x, x < E.1 → G' x = G x) ∧ ∀ j, j < m → G' E.1 j = G v j) ∧ ∀ Q, RK MJ7_copyOfRange_39247 0 [.ref v, .int (zi 0), .int (zi (m : Int))] [] (0, 0) (E, zg G, zk L, r) Q = Q (cpE E m, zg G', zk (u1 L E.1 (fun _ => 0)), u1 r E.1 (fun _ => none)) (.ref E.1) := by
  obtain ⟨k1, k2⟩ := cpE_n E m
  obtain ⟨k3, k4⟩ := (cpE_x E m).kd hlt
  rw [hv] at k3
  have hk9 : (1 ≤ kd E v ∧ kd E v ≤ 9) ∧ kd E v ≠ 3 ∧ kd E v ≠ 4 := by omega
  by_cases c : m = le E v
  · refine ⟨u1 G E.1 (G v), ⟨fun x hx => v1_a _ _ _ (Nat.ne_of_lt hx), fun j hj => congrFun (v1_s _ _ _) j⟩, fun Q => ?_⟩
    rw [fJ7_copyOfRange_39247_0, fJ7_copyOfRange_39247_1 (by decide), if_pos rfl, fJ7_copyOfRange_39247_4, fJ7_copyOfRange_39247_5, fJ7_copyOfRange_39247_6 hk9, fJ7_copyOfRange_39247_7 (by omega) (by omega), if_pos (by rw [c]), fJ7_copyOfRange_39247_17, fJ7_copyOfRange_39247_18 hv (by decide) (by omega)]
    rw [← c, show (E.1 + 1, u1 E.2.1 E.1 (2, m), E.2.2) = cpE E m from rfl, fJ7_copyOfRange_39247_21 k1, fJ7_copyOfRange_39247_24]
  · have c0 : ¬ (m : Int) = (le E v : Int) := by omega
    have c1 : (if (m : Int) - 0 < (le E v : Int) - 0 then (m : Int) - 0 else (le E v : Int) - 0) = (m : Int) := by rw [if_pos (by omega)]; omega
    have c2' : (m : Int) - 0 = (m : Int) := by omega
    refine ⟨cpG (u1 G E.1 (fun _ => 0)) v E.1 0 0 m, ⟨fun x hx => (v1_a _ _ _ (Nat.ne_of_lt hx)).trans (v1_a _ _ _ (Nat.ne_of_lt hx)), fun j hj => ?_⟩, fun Q => ?_⟩
    · show u1 (u1 G E.1 (fun _ => 0)) E.1 _ E.1 j = _
      rw [v1_s]
      have c4 : (0 : Int).toNat ≤ j ∧ j < (0 : Int).toNat + ((m : Int)).toNat := by
        rw [Int.toNat_natCast]
        exact ⟨Nat.zero_le _, by show j < 0 + m; omega⟩
      rw [if_pos c4]
      show u1 G E.1 (fun _ => 0) v (0 + (j - 0)) = _
      rw [v1_a _ _ _ (Nat.ne_of_lt hlt), Nat.sub_zero, Nat.zero_add]
    · rw [fJ7_copyOfRange_39247_0, fJ7_copyOfRange_39247_1 (by decide), if_pos rfl, fJ7_copyOfRange_39247_4, fJ7_copyOfRange_39247_5, fJ7_copyOfRange_39247_6 hk9, fJ7_copyOfRange_39247_7 (by omega) (by omega), if_neg c0, fJ7_copyOfRange_39247_10, fJ7_copyOfRange_39247_11, fJ7_copyOfRange_39247_12, fJ7_copyOfRange_39247_13 (by decide) (by decide)]
      rw [fJ7_copyOfRangeByte_39247_0, fJ7_copyOfRangeByte_39247_1, fJ7_copyOfRangeByte_39247_2 (by decide) (by decide)]
      rw [fJ7_checkLength_df160_0, fJ7_checkLength_df160_1, fJ7_checkLength_df160_2 (by omega) (by omega), if_neg (by omega), fJ7_checkLength_df160_37]
      rw [fJ7_copyOfRangeByte_39247_5, fJ7_copyOfRangeByte_39247_6, fJ7_copyOfRangeByte_39247_7, c2', fJ7_copyOfRangeByte_39247_8 (c2_int _), fJ7_copyOfRangeByte_39247_9, fJ7_copyOfRangeByte_39247_10 (by omega) (by decide) (by omega)]
      rw [Int.toNat_natCast, show (E.1 + 1, u1 E.2.1 E.1 (2, m), E.2.2) = cpE E m from rfl, fJ7_copyOfRangeByte_39247_12 (c2_int _), fJ7_copyOfRangeByte_39247_14, fJ7_copyOfRangeByte_39247_15, fJ7_copyOfRangeByte_39247_16, fJ7_copyOfRangeByte_39247_18, fJ7_copyOfRangeByte_39247_19, fJ7_copyOfRangeByte_39247_20 (by rw [k3]; decide), k4, fJ7_copyOfRangeByte_39247_21, fJ7_copyOfRangeByte_39247_22, fJ7_copyOfRangeByte_39247_23, fJ7_copyOfRangeByte_39247_24 (by omega) (by omega)]
      rw [show (if (m : Int) < (le E v : Int) - 0 then (m : Int) else (le E v : Int) - 0) = (m : Int) from if_pos (by omega)]
      rw [fJ7_copyOfRangeByte_39247_27 (Or.inl k3) k1 (by omega) (by omega) (by omega), fJ7_copyOfRangeByte_39247_30, fJ7_copyOfRangeByte_39247_32]
      rw [fJ7_copyOfRange_39247_16]
theorem b_told (hB : BLD E r G a v t) : ∃ E' G' L' r', (XT E E' ∧ E'.1 = E.1 + 2) ∧ (∀ x, x < E.1 → G' x = G x ∧ L' x = L x ∧ r' x = r x) ∧ (STR E' r' G' E.1 (E.1 + 1) ∧ TXT E' G' (E.1 + 1) t) ∧ ∀ Q, RK MJ4_toString_0e30d 0 [.ref a] [] (0, 0) (E, zg G, zk L, r) Q = Q (E', zg G', zk L', r') (.ref E.1) := by
  obtain ⟨⟨b1, b2⟩, ⟨b3, b4, b5⟩, ⟨b6, b7⟩, ⟨b8, b9⟩, b10⟩ := id hB
  obtain ⟨E1, hE1⟩ : ∃ E1 : AE, E1 = (E.1 + 1, u1 E.2.1 E.1 (16, 4), E.2.2) := ⟨_, rfl⟩
  have x1 : XT E E1 := by
    rw [hE1]
    exact ⟨Nat.le_succ _, rfl, fun x hx => v1_a _ _ _ (Nat.ne_of_lt hx)⟩
  have n1 : E1.1 = E.1 + 1 := by rw [hE1]
  have kE : kd E1 E.1 = 16 := by
    rw [hE1]
    exact congrArg Prod.fst (v1_s _ _ _)
  obtain ⟨ka, -⟩ := x1.kd b2
  obtain ⟨kv, lv⟩ := x1.kd b4
  rw [b1] at ka
  rw [b5] at kv
  obtain ⟨G1, hG1⟩ : ∃ g, g = u2 (u1 G E.1 (fun _ => 0)) E.1 1 0 := ⟨_, rfl⟩
  have gx : ∀ x, x < E.1 → G1 x = G x := fun x hx => by rw [hG1, u2_a _ _ _ _ (Nat.ne_of_lt hx), v1_a _ _ _ (Nat.ne_of_lt hx)]
  obtain ⟨G2, ⟨p1, p2⟩, e2⟩ := c7J_copyOfRange (G := G1) (L := u1 L E.1 (fun _ => 0)) (r := u1 r E.1 (fun _ => none)) (m := t.length) kv (by omega) (by omega) (by omega)
  have x2 := cpE_x E1 t.length
  obtain ⟨q1, q2⟩ := cpE_n E1 t.length
  rw [n1] at q1 q2 p1 p2 e2
  obtain ⟨kE2, -⟩ := x2.kd (x := E.1) (by omega)
  rw [kE] at kE2
  have r1a : u1 r E.1 (fun _ => none) a 0 = some v := by rw [v1_a _ _ _ (Nat.ne_of_lt b2)]; exact b3
  have g1a : u1 G E.1 (fun _ => 0) a = G a := v1_a _ _ _ (Nat.ne_of_lt b2)
  have eI := fun Q => c5J_isLatin1 (E := E1) (G := u1 G E.1 (fun _ => 0)) (L := u1 L E.1 (fun _ => 0)) (r := u1 r E.1 (fun _ => none)) (Q := Q) ka (by rw [g1a]; exact b6)
  have gE : G2 E.1 1 = 0 := by rw [p1 E.1 (Nat.lt_succ_self _), hG1, u2_s]
  refine ⟨cpE E1 t.length, G2, u1 (u1 L E.1 (fun _ => 0)) (E.1 + 1) (fun _ => 0), u2 (u1 (u1 r E.1 (fun _ => none)) (E.1 + 1) (fun _ => none)) E.1 0 (some (E.1 + 1)), ⟨x1.trans x2, by show E1.1 + 1 = _; rw [n1]⟩, fun x hx => ⟨(p1 x (by omega)).trans (gx x hx), ?_, ?_⟩, ⟨⟨Or.inl kE2, u2_s _ _ _ _, gE, Or.inl q1, by rw [q2]; omega⟩, ⟨q2, fun j hj => ⟨?_, (b10 j hj).2⟩⟩⟩, fun Q => ?_⟩
  · rw [v1_a _ _ _ (by omega), v1_a _ _ _ (by omega)]
  · rw [u2_a _ _ _ _ (by omega), v1_a _ _ _ (by omega), v1_a _ _ _ (by omega)]
  · rw [p2 j hj, gx v b4]
    exact (b10 j hj).1
  · rw [fJ4_toString_0e30d_0 (by decide) (by decide), ← hE1, fJ4_toString_0e30d_3 (c2_ref _), fJ4_toString_0e30d_4, fJ4_toString_0e30d_5 (by decide) (by decide) (Or.inl kE)]
    rw [fJ0_init_81219_0, fJ0_init_81219_1, fJ0_init_81219_2, fJ0_init_81219_3n (by decide) (by decide) (Or.inl kE)]
    rw [fJ0_init_db425_0, fJ0_init_db425_1, fJ0_init_db425_4, fJ0_init_db425_5 (by decide) (by decide) ka]
    rw [fJ5_getValue_6d5f1_0, fJ5_getValue_6d5f1_1 ka r1a, fJ5_getValue_6d5f1_4]
    rw [fJ0_init_db425_8 c2_null, fJ0_init_db425_9, fJ0_init_db425_10 (by decide) (by decide) ka]
    rw [fJ4_length_8abf5_0, fJ4_length_8abf5_1 ka, fJ5_length_8abf5_0, fJ5_length_8abf5_1 ka, fJ5_length_8abf5_4, fJ4_length_8abf5_4]
    rw [fJ0_init_db425_13 (c2_ref _), fJ0_init_db425_15, fJ0_init_db425_16 (by decide) (by decide) ka, eI]
    rw [fJ0_init_db425_19 (by decide), if_neg (by decide), fJ0_init_db425_22, fJ0_init_db425_23, fJ0_init_db425_24 kE (Or.inl rfl), ← hG1, g1a, b7, fJ0_init_db425_27, fJ0_init_db425_28, fJ0_init_db425_29, fJ0_init_db425_30, fJ0_init_db425_32 (by decide) (by decide), e2]
    rw [fJ0_init_db425_35 kE2, fJ0_init_db425_38, fJ0_init_db425_97, fJ0_init_81219_6, fJ4_toString_0e30d_8]
end BS
