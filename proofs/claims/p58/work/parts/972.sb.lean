/-! The builder: room, a letter. -/
/-- what was there before stands; the constants stay -/
def XT (E E' : AE) : Prop := E.1 ≤ E'.1 ∧ E'.2.2 = E.2.2 ∧ ∀ x, x < E.1 → E'.2.1 x = E.2.1 x
theorem XT.rf (E : AE) : XT E E := ⟨Nat.le_refl _, rfl, fun _ _ => rfl⟩
theorem XT.trans {E E1 E2 : AE} (h1 : XT E E1) (h2 : XT E1 E2) : XT E E2 := ⟨Nat.le_trans h1.1 h2.1, h2.2.1.trans h1.2.1, fun x hx => (h2.2.2 x (Nat.lt_of_lt_of_le hx h1.1)).trans (h1.2.2 x hx)⟩
/-- a builder at a holds the letters t, in the row v -/
def BLD (E : AE) (r : Nat → Nat → Option Nat) (G : Nat → Nat → Int) (a v : Nat) (t : List Int) : Prop := (kd E a = 17 ∧ a < E.1) ∧ (r a 0 = some v ∧ v < E.1 ∧ kd E v = 2) ∧ (G a 1 = 0 ∧ G a 3 = t.length) ∧ (t.length ≤ le E v ∧ le E v ≤ 500) ∧ ∀ j, j < t.length → G v j = t.getD j 0 ∧ (0 ≤ t.getD j 0 ∧ t.getD j 0 < 128)
/-- all old rows but the builder's own stand -/
def FRB (E : AE) (G L : Nat → Nat → Int) (r : Nat → Nat → Option Nat) (E' : AE) (G' L' : Nat → Nat → Int) (r' : Nat → Nat → Option Nat) (a v v' : Nat) : Prop := XT E E' ∧ (v' = v ∨ E.1 ≤ v') ∧ ∀ x, x < E.1 → x ≠ a → x ≠ v → G' x = G x ∧ L' x = L x ∧ r' x = r x
theorem FRB.trans {E E1 E2 : AE} {G L G1 L1 G2 L2 : Nat → Nat → Int} {r r1 r2 : Nat → Nat → Option Nat} {a v v1 v2 : Nat} (h1 : FRB E G L r E1 G1 L1 r1 a v v1) (h2 : FRB E1 G1 L1 r1 E2 G2 L2 r2 a v1 v2) : FRB E G L r E2 G2 L2 r2 a v v2 := by
  refine ⟨h1.1.trans h2.1, ?_, fun x hx xa xv => ?_⟩
  · have a1 := h1.1.1
    rcases h2.2.1 with q | q
    · rw [q]
      exact h1.2.1
    · exact Or.inr (Nat.le_trans a1 q)
  · have a1 := h1.1.1
    obtain ⟨b1, b2, b3⟩ := h1.2.2 x hx xa xv
    obtain ⟨c1, c2, c3⟩ := h2.2.2 x (Nat.lt_of_lt_of_le hx a1) xa (by rcases h1.2.1 with q | q <;> omega)
    exact ⟨c1.trans b1, c2.trans b2, c3.trans b3⟩
section BS
variable {E E' : AE} {G G' L L' : Nat → Nat → Int} {r r' : Nat → Nat → Option Nat} {h : AH} {Q : AH → Value → Prop} {a v : Nat} {x y z n c : Int} {t : List Int}
theorem c8J_newLength (hx : 0 ≤ x ∧ x ≤ 1000) (hy : -1000 ≤ y ∧ y ≤ 1000) (hz : 1 ≤ z ∧ z ≤ 3000) : RK MJ8_newLength_cabcc 0 [.int (zi x), .int (zi y), .int (zi z), jk] [] (0, 0) h Q = Q h (.int (zi (x + (if y < z then z else y)))) := by
  obtain ⟨m, hm⟩ : ∃ m : Int, m = if y < z then z else y := ⟨_, rfl⟩
  have hm2 : 1 ≤ m ∧ m ≤ 3000 := by rw [hm]; split <;> omega
  rw [fJ8_newLength_cabcc_0, fJ8_newLength_cabcc_1, fJ8_newLength_cabcc_2, fJ8_newLength_cabcc_3 (by omega) (by omega), ← hm, fJ8_newLength_cabcc_6, fJ8_newLength_cabcc_7 (c2_int _), fJ8_newLength_cabcc_8, fJ8_newLength_cabcc_9, fJ8_newLength_cabcc_10 (by omega) (by omega), if_pos (by omega), fJ8_newLength_cabcc_13, fJ8_newLength_cabcc_14, fJ8_newLength_cabcc_16 (by omega) (by omega), if_pos (by omega), fJ8_newLength_cabcc_19, fJ8_newLength_cabcc_20]
/-- the new row's length -/
def nCap (m n : Int) : Int := m + (if n - m < m + 2 then m + 2 else n - m)
theorem nCap_b (hn : 0 ≤ n ∧ n ≤ 200) (hx : 0 ≤ x ∧ x < n) : n ≤ nCap x n ∧ nCap x n ≤ 500 ∧ x < nCap x n := by
  unfold nCap
  split <;> omega
theorem c5J_newCapacity (hk : kd E a = 17) (hr : r a 0 = some v) (hv : kd E v = 2) (h1 : G a 1 = 0) (hl : le E v ≤ 500) (hn : 0 ≤ n ∧ n ≤ 500) : RK MJ5_newCapacity_0f7a4 0 [.ref a, .int (zi n), jk, jk, jk, jk] [] (0, 0) (E, zg G, zk L, r) Q = Q (E, zg G, zk L, r) (.int (zi (nCap (le E v) n))) := by
  have hm2 : 0 ≤ nCap (le E v) n ∧ nCap (le E v) n ≤ 2000 := by unfold nCap; split <;> omega
  have e := fun Q => c8J_newLength (h := (E, zg G, zk L, r)) (Q := Q) (x := (le E v : Int)) (y := n - (le E v : Int)) (z := (le E v : Int) + 2) (by omega) (by omega) (by omega)
  have hc : ¬ nCap (le E v) n = 2147483647 := by omega
  rw [fJ5_newCapacity_0f7a4_0, fJ5_newCapacity_0f7a4_1 hk hr, fJ5_newCapacity_0f7a4_4 (by omega), fJ5_newCapacity_0f7a4_5 (c2_int _), fJ5_newCapacity_0f7a4_6, fJ5_newCapacity_0f7a4_7, fJ5_newCapacity_0f7a4_8 hk, h1, fJ5_newCapacity_0f7a4_11, fJ5_newCapacity_0f7a4_12 (c2_int _), fJ5_newCapacity_0f7a4_13, fJ5_newCapacity_0f7a4_14, fJ5_newCapacity_0f7a4_15, fJ5_newCapacity_0f7a4_16 (c2_int _), fJ5_newCapacity_0f7a4_18, fJ5_newCapacity_0f7a4_19, fJ5_newCapacity_0f7a4_21, fJ5_newCapacity_0f7a4_22, fJ5_newCapacity_0f7a4_23, fJ5_newCapacity_0f7a4_24 hk, h1, fJ5_newCapacity_0f7a4_27, fJ5_newCapacity_0f7a4_28, fJ5_newCapacity_0f7a4_29, e]
  rw [show (le E v : Int) + (if n - (le E v : Int) < (le E v : Int) + 2 then (le E v : Int) + 2 else n - (le E v : Int)) = nCap (le E v) n from rfl]
  rw [fJ5_newCapacity_0f7a4_32 (c2_int _), fJ5_newCapacity_0f7a4_34, fJ5_newCapacity_0f7a4_36, fJ5_newCapacity_0f7a4_38 (by omega) (by omega), if_neg hc, fJ5_newCapacity_0f7a4_51, fJ5_newCapacity_0f7a4_53, fJ5_newCapacity_0f7a4_54 hk, h1, fJ5_newCapacity_0f7a4_57, fJ5_newCapacity_0f7a4_58]
/-- a longer row with the old one's start -/
def cpE (E : AE) (n : Nat) : AE := (E.1 + 1, u1 E.2.1 E.1 (2, n), E.2.2)
theorem cpE_x (E : AE) (n : Nat) : XT E (cpE E n) := ⟨Nat.le_succ _, rfl, fun x hx => v1_a _ _ _ (Nat.ne_of_lt hx)⟩
theorem cpE_n (E : AE) (n : Nat) : kd (cpE E n) E.1 = 2 ∧ le (cpE E n) E.1 = n := by
  have e : (cpE E n).2.1 E.1 = (2, n) := v1_s _ _ _
  unfold kd le
  rw [e]
  exact ⟨rfl, rfl⟩
theorem XT.kd (h : XT E E') {x : Nat} (hx : x < E.1) : kd E' x = kd E x ∧ le E' x = le E x := by
  show (E'.2.1 x).1 = (E.2.1 x).1 ∧ (E'.2.1 x).2 = (E.2.1 x).2
  rw [h.2.2 x hx]
  exact ⟨rfl, rfl⟩
theorem c7J_copyOf (hv : kd E v = 2) (hlt : v < E.1) (hle : le E v ≤ 500) (hn : (le E v : Int) < n ∧ n ≤ 600) : RK MJ7_copyOf_9075b 0 [.ref v, .int (zi n), jk] [] (0, 0) (E, zg G, zk L, r) Q = Q (cpE E n.toNat, zg (cpG (u1 G E.1 (fun _ => 0)) v E.1 0 0 (le E v)), zk (u1 L E.1 (fun _ => 0)), u1 r E.1 (fun _ => none)) (.ref E.1) := by
  obtain ⟨k1, k2⟩ := cpE_n E n.toNat
  obtain ⟨k3, k4⟩ := (cpE_x E n.toNat).kd hlt
  rw [hv] at k3
  obtain ⟨E1, hE1⟩ : ∃ E1 : AE, E1 = cpE E n.toNat := ⟨_, rfl⟩
  rw [← hE1] at k1 k2 k3 k4 ⊢
  have hE2 : E1 = (E.1 + 1, u1 E.2.1 E.1 (2, n.toNat), E.2.2) := hE1
  have c0 : ¬ n = (le E v : Int) := by omega
  have c1 : ¬ n < (le E v : Int) := by omega
  have c3 : (if n < (le E v : Int) then n else (le E v : Int)) = (le E v : Int) := if_neg c1
  rw [fJ7_copyOf_9075b_0, fJ7_copyOf_9075b_1, fJ7_copyOf_9075b_2 (by omega), fJ7_copyOf_9075b_3 (by omega) (by omega), if_neg c0, fJ7_copyOf_9075b_14, fJ7_copyOf_9075b_15 (by omega) (by omega) (by omega), ← hE2, fJ7_copyOf_9075b_17 (c2_int _), fJ7_copyOf_9075b_18, fJ7_copyOf_9075b_19, fJ7_copyOf_9075b_20, fJ7_copyOf_9075b_21, fJ7_copyOf_9075b_22, fJ7_copyOf_9075b_23 (by omega), k4, fJ7_copyOf_9075b_24, fJ7_copyOf_9075b_25 (by omega) (by omega), c3, fJ7_copyOf_9075b_28 (Or.inl k3) k1 (by omega) (by omega) (by omega), fJ7_copyOf_9075b_31, fJ7_copyOf_9075b_32]
theorem b_ensure (hB : BLD E r G a v t) (hn : 0 ≤ n ∧ n ≤ 200) (hL : t.length ≤ 200) : ∃ E' G' L' r' v', FRB E G L r E' G' L' r' a v v' ∧ (BLD E' r' G' a v' t ∧ n ≤ (le E' v' : Int) ∧ v' ≠ a) ∧ ∀ Q, RK MJ5_ensureCapacityInternal_d00df 0 [.ref a, .int (zi n), jk] [] (0, 0) (E, zg G, zk L, r) Q = Q (E', zg G', zk L', r') .null := by
  obtain ⟨⟨b1, b2⟩, ⟨b3, b4, b5⟩, ⟨b6, b7⟩, ⟨b8, b9⟩, b10⟩ := id hB
  have nva : v ≠ a := fun q => by rw [q, b1] at b5; exact absurd b5 (by decide)
  by_cases c : n - (le E v : Int) ≤ 0
  · refine ⟨E, G, L, r, v, ⟨XT.rf E, Or.inl rfl, fun x _ _ _ => ⟨rfl, rfl, rfl⟩⟩, ⟨hB, by omega, nva⟩, fun Q => ?_⟩
    rw [fJ5_ensureCapacityInternal_d00df_0, fJ5_ensureCapacityInternal_d00df_1 b1 b3, fJ5_ensureCapacityInternal_d00df_4 (by omega), fJ5_ensureCapacityInternal_d00df_5, fJ5_ensureCapacityInternal_d00df_6 b1, b6, fJ5_ensureCapacityInternal_d00df_9, fJ5_ensureCapacityInternal_d00df_10 (c2_int _), fJ5_ensureCapacityInternal_d00df_11, fJ5_ensureCapacityInternal_d00df_12, fJ5_ensureCapacityInternal_d00df_13, fJ5_ensureCapacityInternal_d00df_14 (by omega), if_pos c, fJ5_ensureCapacityInternal_d00df_38]
  · obtain ⟨q1, q2, q3⟩ := nCap_b (n := n) (x := (le E v : Int)) hn (by omega)
    obtain ⟨N, hN⟩ : ∃ N : Int, N = nCap (le E v) n := ⟨_, rfl⟩
    rw [← hN] at q1 q2 q3
    obtain ⟨k1, k2⟩ := cpE_n E N.toNat
    have xt := cpE_x E N.toNat
    have e1 := fun Q => c5J_newCapacity (L := L) (Q := Q) (n := n) b1 b3 b5 b6 b9 (by omega)
    rw [← hN] at e1
    have e2 := fun Q => c7J_copyOf (G := G) (L := L) (r := r) (Q := Q) (n := N) b5 b4 b9 (by omega)
    have ka : kd (cpE E N.toNat) a = 17 := ((xt.kd b2).1).trans b1
    have gv : ∀ x, x < E.1 → cpG (u1 G E.1 (fun _ => 0)) v E.1 0 0 (le E v) x = G x := fun x hx => (v1_a _ _ _ (Nat.ne_of_lt hx)).trans (v1_a _ _ _ (Nat.ne_of_lt hx))
    refine ⟨cpE E N.toNat, cpG (u1 G E.1 (fun _ => 0)) v E.1 0 0 (le E v), u1 L E.1 (fun _ => 0), u2 (u1 r E.1 (fun _ => none)) a 0 (some E.1), E.1, ⟨xt, Or.inr (Nat.le_refl _), fun x hx h1 h2 => ⟨gv x hx, v1_a _ _ _ (Nat.ne_of_lt hx), by rw [u2_a _ _ _ _ h1, v1_a _ _ _ (Nat.ne_of_lt hx)]⟩⟩, ⟨⟨⟨ka, Nat.lt_succ_of_lt b2⟩, ⟨u2_s _ _ _ _, Nat.lt_succ_self _, k1⟩, ?_, ?_, fun j hj => ⟨?_, (b10 j hj).2⟩⟩, ?_, ?_⟩, fun Q => ?_⟩
    · rw [gv a b2]
      exact ⟨b6, b7⟩
    · rw [k2]
      omega
    · rw [← (b10 j hj).1]
      show u1 (u1 G E.1 (fun _ => 0)) E.1 _ E.1 j = _
      rw [v1_s]
      have c4 : (0 : Int).toNat ≤ j ∧ j < (0 : Int).toNat + ((le E v : Int)).toNat := by
        rw [Int.toNat_natCast]
        exact ⟨Nat.zero_le _, by show j < 0 + le E v; omega⟩
      rw [if_pos c4]
      show u1 G E.1 (fun _ => 0) v (0 + (j - 0)) = _
      rw [v1_a _ _ _ (Nat.ne_of_lt b4), Nat.sub_zero, Nat.zero_add]
    · rw [k2]
      omega
    · exact fun q => absurd q (Nat.ne_of_gt b2)
    · rw [fJ5_ensureCapacityInternal_d00df_0, fJ5_ensureCapacityInternal_d00df_1 b1 b3, fJ5_ensureCapacityInternal_d00df_4 (by omega), fJ5_ensureCapacityInternal_d00df_5, fJ5_ensureCapacityInternal_d00df_6 b1, b6, fJ5_ensureCapacityInternal_d00df_9, fJ5_ensureCapacityInternal_d00df_10 (c2_int _), fJ5_ensureCapacityInternal_d00df_11, fJ5_ensureCapacityInternal_d00df_12, fJ5_ensureCapacityInternal_d00df_13, fJ5_ensureCapacityInternal_d00df_14 (by omega), if_neg c, fJ5_ensureCapacityInternal_d00df_17, fJ5_ensureCapacityInternal_d00df_18, fJ5_ensureCapacityInternal_d00df_19 b1 b3, fJ5_ensureCapacityInternal_d00df_22, fJ5_ensureCapacityInternal_d00df_23, fJ5_ensureCapacityInternal_d00df_24 (by decide) (by decide) b1, e1]
      rw [fJ5_ensureCapacityInternal_d00df_27, fJ5_ensureCapacityInternal_d00df_28 b1, b6, fJ5_ensureCapacityInternal_d00df_31, fJ5_ensureCapacityInternal_d00df_32 (by decide) (by decide), e2]
      rw [fJ5_ensureCapacityInternal_d00df_35 ka, fJ5_ensureCapacityInternal_d00df_38]
theorem c5J_isLatin1 (hk : kd E a = 17) (h1 : G a 1 = 0) : RK MJ5_isLatin1_aae02 0 [.ref a] [] (0, 0) (E, zg G, zk L, r) Q = Q (E, zg G, zk L, r) (.int (zi 1)) := by
  simp (disch := first | assumption | exact c2_int _ | exact c2_ref _ | exact c2_jk | exact c2_null | omega | (apply rN1; assumption) | (apply rN2; assumption) | (apply rN3; assumption) | (apply rN4; assumption) | exact bI_r _ | exact bI_01 _) only [↓fJ5_isLatin1_aae02_0, ↓fJ5_isLatin1_aae02_3, ↓fJ5_isLatin1_aae02_6, ↓fJ5_isLatin1_aae02_7, ↓fJ5_isLatin1_aae02_10, ↓fJ5_isLatin1_aae02_13, ↓fJ5_isLatin1_aae02_14, ↓fJ5_isLatin1_aae02_17, ↓fJ5_isLatin1_aae02_18, h1, and_self, true_and, and_true, false_and, and_false, not_true_eq_false, not_false_eq_true, or_self, true_or, or_true, false_or, or_false, ite_not, Decidable.not_not, decide_eq_true_eq, Bool.not_true, Bool.not_false, Bool.false_eq_true, Bool.not_eq_true, n10, n20, n21, n30, n31, n32, n40, n41, n42, n43, ↓reduceIte]
theorem c1J_canEncode (hc : 0 ≤ c ∧ c < 128) : RK MJ1_canEncode_fc78d 0 [.int (zi c)] [] (0, 0) h Q = Q h (.int (zi 1)) := by
  have c1 : c ≤ 255 := by omega
  simp (disch := first | assumption | exact c2_int _ | exact c2_ref _ | exact c2_jk | exact c2_null | omega | (apply rN1; assumption) | (apply rN2; assumption) | (apply rN3; assumption) | (apply rN4; assumption) | exact bI_r _ | exact bI_01 _) only [↓fJ1_canEncode_fc78d_0, ↓fJ1_canEncode_fc78d_1, ↓fJ1_canEncode_fc78d_4, ↓fJ1_canEncode_fc78d_7, ↓fJ1_canEncode_fc78d_8, ↓fJ1_canEncode_fc78d_11, ↓fJ1_canEncode_fc78d_12, c1, and_self, true_and, and_true, false_and, and_false, not_true_eq_false, not_false_eq_true, or_self, true_or, or_true, false_or, or_false, ite_not, Decidable.not_not, decide_eq_true_eq, Bool.not_true, Bool.not_false, Bool.false_eq_true, Bool.not_eq_true, n10, n20, n21, n30, n31, n32, n40, n41, n42, n43, ↓reduceIte]
/-- a builder that holds t behind a letter -/
theorem BLD_put {G2 : Nat → Nat → Int} (hB : BLD E r G a v t) (hva : v ≠ a) (hr : (t.length : Int) < (le E v : Int)) (hc : 0 ≤ c ∧ c < 128) (h2 : G2 = u2 (u2 G a 3 ((t.length : Int) + 1)) v t.length c) : BLD E r G2 a v (t ++ [c]) := by
  obtain ⟨⟨b1, b2⟩, ⟨b3, b4, b5⟩, ⟨b6, b7⟩, ⟨b8, b9⟩, b10⟩ := hB
  have hl : (t ++ [c]).length = t.length + 1 := by rw [List.length_append]; rfl
  refine ⟨⟨b1, b2⟩, ⟨b3, b4, b5⟩, ⟨?_, ?_⟩, ⟨by rw [hl]; omega, b9⟩, fun j hj => ?_⟩
  · rw [h2, u2_a _ _ _ _ (Ne.symm hva), u2_i _ _ _ _ (by decide)]
    exact b6
  · rw [h2, u2_a _ _ _ _ (Ne.symm hva), u2_s, hl]
    rfl
  · rw [hl] at hj
    by_cases q : j = t.length
    · have e : (t ++ [c]).getD j 0 = c := by rw [q, List.getD_eq_getElem?_getD, List.getElem?_append_right (Nat.le_refl _), Nat.sub_self]; rfl
      rw [e, h2, q, u2_s]
      exact ⟨rfl, hc⟩
    · have e : (t ++ [c]).getD j 0 = t.getD j 0 := by rw [List.getD_eq_getElem?_getD, List.getElem?_append_left (by omega), ← List.getD_eq_getElem?_getD]
      rw [e, h2, u2_i _ _ _ _ q, u2_a _ _ _ _ hva]
      exact b10 j (by omega)
theorem b_char (hB : BLD E r G a v t) (hL : t.length < 200) (hc : 0 ≤ c ∧ c < 128) : ∃ E' G' L' r' v', FRB E G L r E' G' L' r' a v v' ∧ (BLD E' r' G' a v' (t ++ [c]) ∧ v' ≠ a) ∧ ∀ Q, RK MJ4_append_cf468 0 [.ref a, .int (zi c)] [] (0, 0) (E, zg G, zk L, r) Q = Q (E', zg G', zk L', r') (.ref a) := by
  obtain ⟨E1, G1, L1, r1, v1, f1, ⟨hB1, hn, hva⟩, e1⟩ := b_ensure (L := L) (n := (t.length : Int) + 1) hB (by omega) (by omega)
  obtain ⟨⟨b1, b2⟩, -, ⟨-, b7⟩, -⟩ := id hB
  obtain ⟨⟨d1, d2⟩, ⟨d3, d4, d5⟩, ⟨d6, d7⟩, ⟨d8, d9⟩, d10⟩ := id hB1
  have e2 := fun Q => c5J_isLatin1 (L := L1) (Q := Q) (r := r1) d1 d6
  have e3 := fun Q => c1J_canEncode (h := (E1, zg G1, zk L1, r1)) (Q := Q) hc
  refine ⟨E1, u2 (u2 G1 a 3 ((t.length : Int) + 1)) v1 t.length c, L1, r1, v1, ⟨f1.1, f1.2.1, fun x hx h1 h2 => ?_⟩, ⟨BLD_put hB1 hva (by omega) hc rfl, hva⟩, fun Q => ?_⟩
  · obtain ⟨g1, g2, g3⟩ := f1.2.2 x hx h1 h2
    refine ⟨?_, g2, g3⟩
    have n1 : x ≠ v1 := by rcases f1.2.1 with q | q <;> omega
    rw [u2_a _ _ _ _ n1, u2_a _ _ _ _ h1]
    exact g1
  · rw [fJ4_append_cf468_0, fJ4_append_cf468_1, fJ4_append_cf468_2 (by decide) (by decide) b1]
    rw [fJ5_append_3fe6f_0, fJ5_append_3fe6f_1, fJ5_append_3fe6f_2 b1, b7, fJ5_append_3fe6f_5, fJ5_append_3fe6f_6, fJ5_append_3fe6f_7 (by decide) (by decide) b1, e1]
    rw [fJ5_append_3fe6f_10, fJ5_append_3fe6f_11 (by decide) (by decide) d1, e2]
    rw [fJ5_append_3fe6f_14 (by decide), if_neg (by decide), fJ5_append_3fe6f_17, fJ5_append_3fe6f_18 (by decide) (by decide), e3]
    rw [fJ5_append_3fe6f_21 (by decide), if_neg (by decide), fJ5_append_3fe6f_24, fJ5_append_3fe6f_25 d1 d3, fJ5_append_3fe6f_28, fJ5_append_3fe6f_29 (c2_ref _), fJ5_append_3fe6f_30 d1, d7, fJ5_append_3fe6f_33 (c2_int _) (c2_ref _), fJ5_append_3fe6f_34, fJ5_append_3fe6f_35, fJ5_append_3fe6f_36 d1, fJ5_append_3fe6f_39, fJ5_append_3fe6f_40 hc, fJ5_append_3fe6f_41 d5 (by omega) (by omega) hc, fJ5_append_3fe6f_42, fJ5_append_3fe6f_75, fJ5_append_3fe6f_76, Int.toNat_natCast]
    rw [fJ4_append_cf468_5 (c2_ref _), fJ4_append_cf468_6, fJ4_append_cf468_7]
end BS
