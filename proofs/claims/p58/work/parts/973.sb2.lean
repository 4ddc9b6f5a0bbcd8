/-! The builder: a text. -/
section BS
variable {E E' : AE} {G G' L L' : Nat → Nat → Int} {r r' : Nat → Nat → Option Nat} {h : AH} {Q : AH → Value → Prop} {a v s w : Nat} {x y z n c i : Int} {t u : List Int}
theorem c0J_getBytes (hs : STR E r G s w) (hd : kd E v = 2) (hi : 0 ≤ i ∧ i + (le E w : Int) ≤ (le E v : Int)) (hv : le E v ≤ 500) : RK MJ0_getBytes_840e7 0 [.ref s, .ref v, .int (zi i), .int (zi 0)] [] (0, 0) (E, zg G, zk L, r) Q = Q (E, zg (cpG G w v 0 i (le E w)), zk L, r) .null := by
  have eC := fun Q => cJ_coder (L := L) (Q := Q) hs
  obtain ⟨s0, s1, s2, s3, s4⟩ := hs
  rw [fJ0_getBytes_840e7_0, fJ0_getBytes_840e7_1 s0, eC]
  rw [fJ0_getBytes_840e7_4, fJ0_getBytes_840e7_5 (by decide) (by decide), if_pos rfl, fJ0_getBytes_840e7_8, fJ0_getBytes_840e7_9 s0 s1, fJ0_getBytes_840e7_12, fJ0_getBytes_840e7_13, fJ0_getBytes_840e7_14, fJ0_getBytes_840e7_15, fJ0_getBytes_840e7_16, fJ0_getBytes_840e7_17, fJ0_getBytes_840e7_18 s0 s1, fJ0_getBytes_840e7_21 (by omega), fJ0_getBytes_840e7_22 s3 hd (by omega) (by omega) (by omega), fJ0_getBytes_840e7_25, fJ0_getBytes_840e7_43]
theorem c5J_inflate (hk : kd E a = 17) (h1 : G a 1 = 0) (hs : STR E r G s w) : RK MJ5_inflateIfNeededFor_a7421 0 [.ref a, .ref s] [] (0, 0) (E, zg G, zk L, r) Q = Q (E, zg G, zk L, r) .null := by
  have eC := fun Q => cJ_coder (L := L) (Q := Q) hs
  obtain ⟨s0, s1, s2, s3, s4⟩ := hs
  simp (disch := first | assumption | exact c2_int _ | exact c2_ref _ | exact c2_jk | exact c2_null | omega | (apply rN1; assumption) | (apply rN2; assumption) | (apply rN3; assumption) | (apply rN4; assumption) | exact bI_r _ | exact bI_01 _) only [↓fJ5_inflateIfNeededFor_a7421_0, ↓fJ5_inflateIfNeededFor_a7421_3, ↓fJ5_inflateIfNeededFor_a7421_6, ↓fJ5_inflateIfNeededFor_a7421_7, ↓fJ5_inflateIfNeededFor_a7421_10, ↓fJ5_inflateIfNeededFor_a7421_10n, ↓fJ5_inflateIfNeededFor_a7421_11, ↓fJ5_inflateIfNeededFor_a7421_14, ↓fJ5_inflateIfNeededFor_a7421_17, ↓fJ5_inflateIfNeededFor_a7421_21, ↓eC, h1, and_self, true_and, and_true, false_and, and_false, not_true_eq_false, not_false_eq_true, or_self, true_or, or_true, false_or, or_false, ite_not, Decidable.not_not, decide_eq_true_eq, Bool.not_true, Bool.not_false, Bool.false_eq_true, Bool.not_eq_true, n10, n20, n21, n30, n31, n32, n40, n41, n42, n43, ↓reduceIte]
theorem c5J_putString (hk : kd E a = 17) (hr : r a 0 = some v) (h1 : G a 1 = 0) (hs : STR E r G s w) (hd : kd E v = 2) (hi : 0 ≤ i ∧ i + (le E w : Int) ≤ (le E v : Int)) (hv : le E v ≤ 500) : RK MJ5_putStringAt_47b60 0 [.ref a, .int (zi i), .ref s] [] (0, 0) (E, zg G, zk L, r) Q = Q (E, zg (cpG G w v 0 i (le E w)), zk L, r) .null := by
  have e1 := fun Q => c5J_inflate (L := L) (Q := Q) hk h1 hs
  have e2 := fun Q => c0J_getBytes (L := L) (Q := Q) hs hd hi hv
  obtain ⟨s0, s1, s2, s3, s4⟩ := hs
  rw [fJ5_putStringAt_47b60_0, fJ5_putStringAt_47b60_1, fJ5_putStringAt_47b60_2 hk, e1]
  rw [fJ5_putStringAt_47b60_5, fJ5_putStringAt_47b60_6, fJ5_putStringAt_47b60_7 hk hr, fJ5_putStringAt_47b60_10, fJ5_putStringAt_47b60_11, fJ5_putStringAt_47b60_12 hk, h1, fJ5_putStringAt_47b60_15 s0, e2]
  rw [fJ5_putStringAt_47b60_18]
/-- a String's letters -/
def TXT (E : AE) (G : Nat → Nat → Int) (w : Nat) (u : List Int) : Prop := le E w = u.length ∧ ∀ j, j < u.length → G w j = u.getD j 0 ∧ (0 ≤ u.getD j 0 ∧ u.getD j 0 < 128)
theorem BLD_cat {G2 : Nat → Nat → Int} (hB : BLD E r G a v t) (hva : v ≠ a) (hwv : w ≠ v) (hw : TXT E G w u) (hr : (t.length : Int) + u.length ≤ (le E v : Int)) (h2 : G2 = u2 (cpG G w v 0 t.length (le E w)) a 3 ((t.length : Int) + u.length)) : BLD E r G2 a v (t ++ u) := by
  obtain ⟨⟨b1, b2⟩, ⟨b3, b4, b5⟩, ⟨b6, b7⟩, ⟨b8, b9⟩, b10⟩ := hB
  obtain ⟨w1, w2⟩ := hw
  have hl : (t ++ u).length = t.length + u.length := List.length_append
  have gv : ∀ j, G2 v j = if t.length ≤ j ∧ j < t.length + u.length then G w (j - t.length) else G v j := fun j => by
    rw [h2, u2_a _ _ _ _ hva]
    show u1 G v _ v j = _
    rw [v1_s, w1]
    show (if ((t.length : Int)).toNat ≤ j ∧ j < ((t.length : Int)).toNat + ((u.length : Int)).toNat then G w ((0 : Int).toNat + (j - ((t.length : Int)).toNat)) else G v j) = _
    rw [Int.toNat_natCast, Int.toNat_natCast, show (0 : Int).toNat = 0 from rfl, Nat.zero_add]
  have ga : ∀ j, j ≠ 3 → G2 a j = G a j := fun j hj => by
    rw [h2, u2_i _ _ _ _ hj]
    exact congrFun (v1_a _ _ _ (Ne.symm hva)) j
  refine ⟨⟨b1, b2⟩, ⟨b3, b4, b5⟩, ⟨?_, ?_⟩, ⟨by rw [hl]; omega, b9⟩, fun j hj => ?_⟩
  · rw [ga 1 (by decide)]
    exact b6
  · rw [h2, u2_s, hl, Int.natCast_add]
  · rw [hl] at hj
    rw [gv]
    by_cases q : j < t.length
    · have e : (t ++ u).getD j 0 = t.getD j 0 := by rw [List.getD_eq_getElem?_getD, List.getElem?_append_left q, ← List.getD_eq_getElem?_getD]
      rw [e, if_neg (by omega)]
      exact b10 j q
    · have e : (t ++ u).getD j 0 = u.getD (j - t.length) 0 := by rw [List.getD_eq_getElem?_getD, List.getElem?_append_right (by omega), ← List.getD_eq_getElem?_getD]
      rw [e, if_pos (by omega)]
      exact w2 _ (by omega)
theorem STR_x (hs : STR E r G s w) (hx : XT E E') (h1 : s < E.1 ∧ w < E.1) (h2 : r' s = r s) (h3 : G' s = G s) : STR E' r' G' s w := by
  obtain ⟨s0, s1, s2, s3, s4⟩ := hs
  have k1 := hx.kd h1.1
  have k2 := hx.kd h1.2
  exact ⟨by rw [k1.1]; exact s0, by rw [h2]; exact s1, by rw [h3]; exact s2, by rw [k2.1]; exact s3, by rw [k2.2]; exact s4⟩
theorem b_text (hB : BLD E r G a v t) (hva : v ≠ a) (hL : t.length + u.length ≤ 200) (hs : STR E r G s w) (hsw : s < E.1 ∧ w < E.1 ∧ kd E w = 9) (hw : TXT E G w u) : ∃ E' G' L' r' v', FRB E G L r E' G' L' r' a v v' ∧ (BLD E' r' G' a v' (t ++ u) ∧ v' ≠ a) ∧ ∀ Q, RK MJ4_append_15ec4 0 [.ref a, .ref s] [] (0, 0) (E, zg G, zk L, r) Q = Q (E', zg G', zk L', r') (.ref a) := by
  obtain ⟨⟨b1, b2⟩, ⟨b3, b4, b5⟩, ⟨b6, b7⟩, -⟩ := id hB
  have hsa : s ≠ a := fun q => by
    have := hs.1
    rw [q, b1] at this
    omega
  have hwa : w ≠ a := fun q => by rw [q, b1] at hsw; exact absurd hsw.2.2 (by decide)
  have hsv : s ≠ v := fun q => by
    have := hs.1
    rw [q, b5] at this
    omega
  have hwv : w ≠ v := fun q => by rw [q, b5] at hsw; exact absurd hsw.2.2 (by decide)
  obtain ⟨E1, G1, L1, r1, v1, f1, ⟨hB1, hn, hva1⟩, e1⟩ := b_ensure (L := L) (n := (t.length : Int) + u.length) hB (by omega) (by omega)
  obtain ⟨⟨d1, d2⟩, ⟨d3, d4, d5⟩, ⟨d6, d7⟩, ⟨d8, d9⟩, d10⟩ := id hB1
  obtain ⟨gs1, gs2, gs3⟩ := f1.2.2 s hsw.1 hsa hsv
  obtain ⟨gw1, gw2, gw3⟩ := f1.2.2 w hsw.2.1 hwa hwv
  have hs1 : STR E1 r1 G1 s w := STR_x hs f1.1 ⟨hsw.1, hsw.2.1⟩ gs3 gs1
  have kw := f1.1.kd hsw.2.1
  have hw1 : TXT E1 G1 w u := ⟨kw.2.trans hw.1, fun j hj => by rw [gw1]; exact hw.2 j hj⟩
  have hwv1 : w ≠ v1 := fun q => by
    rw [← q, kw.1, hsw.2.2] at d5
    exact absurd d5 (by decide)
  have eL := fun Q => cJ_length (L := L) (Q := Q) hs
  have eP := fun Q => c5J_putString (L := L1) (Q := Q) (i := (t.length : Int)) d1 d3 d6 hs1 d5 (by rw [hw1.1]; omega) d9
  have hne : ∀ x, x < E.1 → x ≠ v → x ≠ v1 := fun x hx h => by rcases f1.2.1 with q | q <;> omega
  obtain ⟨G2, hG2⟩ : ∃ g, g = cpG G1 w v1 0 (t.length : Int) (le E1 w) := ⟨_, rfl⟩
  have ga2 : G2 a = G1 a := by rw [hG2]; exact v1_a _ _ _ (Ne.symm hva1)
  refine ⟨E1, u2 G2 a 3 ((t.length : Int) + u.length), L1, r1, v1, ⟨f1.1, f1.2.1, fun x hx h1 h2 => ?_⟩, ⟨BLD_cat hB1 hva1 hwv1 hw1 (by omega) (by rw [hG2]), hva1⟩, fun Q => ?_⟩
  · obtain ⟨g1, g2, g3⟩ := f1.2.2 x hx h1 h2
    refine ⟨?_, g2, g3⟩
    rw [u2_a _ _ _ _ h1, hG2]
    exact (v1_a _ _ _ (hne x hx h2)).trans g1
  · rw [fJ4_append_15ec4_0, fJ4_append_15ec4_1, fJ4_append_15ec4_2 (by decide) (by decide) b1]
    rw [fJ5_append_cf1ce_0, fJ5_append_cf1ce_1r, fJ5_append_cf1ce_9, fJ5_append_cf1ce_10 (by decide) (by decide) hs.1, eL]
    rw [hw.1, fJ5_append_cf1ce_13 (c2_ref _), fJ5_append_cf1ce_14, fJ5_append_cf1ce_15, fJ5_append_cf1ce_16 b1, b7, fJ5_append_cf1ce_19, fJ5_append_cf1ce_20, fJ5_append_cf1ce_21 (by decide) (by decide) b1, e1]
    rw [fJ5_append_cf1ce_24, fJ5_append_cf1ce_25, fJ5_append_cf1ce_26 d1, d7, fJ5_append_cf1ce_29, fJ5_append_cf1ce_30 (by decide) (by decide) d1, eP]
    rw [← hG2, fJ5_append_cf1ce_33, fJ5_append_cf1ce_34 (c2_ref _), fJ5_append_cf1ce_35 d1, ga2, d7, fJ5_append_cf1ce_38, fJ5_append_cf1ce_39, fJ5_append_cf1ce_40 d1, fJ5_append_cf1ce_43, fJ5_append_cf1ce_44]
    rw [fJ4_append_15ec4_5 (c2_ref _), fJ4_append_15ec4_6, fJ4_append_15ec4_7]
end BS
