/-! feed: the bytes of a whole number. -/
theorem sh_k (k : Int) (hk : k = 0 ∨ k = 8 ∨ k = 16 ∨ k = 24) : (zi k).toUInt32 &&& Int32.toUInt32 31 = UInt32.ofNat k.toNat := by
  rcases hk with h | h | h | h <;> subst h <;> decide
theorem zi_nat (n : Int) : (zi n).toUInt32.toNat = (n % 4294967296).toNat := by
  show (BitVec.ofInt 32 n).toNat = _
  rw [BitVec.toNat_ofInt]
  rfl
theorem zi_ext {a b : Int32} (h : a.toUInt32.toNat = b.toUInt32.toNat) : a = b := by
  have h1 : a.toUInt32 = b.toUInt32 := UInt32.toNat_inj.mp h
  have h2 : a.toUInt32.toInt32 = b.toUInt32.toInt32 := by rw [h1]
  simpa using h2
theorem zi_byte (n k : Int) (hk : k = 0 ∨ k = 8 ∨ k = 16 ∨ k = 24) : (((zi n).toUInt32 >>> ((zi k).toUInt32 &&& Int32.toUInt32 31)).toInt32 &&& zi 255) = zi (n / 2 ^ k.toNat % 256) := by
  apply zi_ext
  rw [sh_k k hk, zi_nat]
  have e : (((zi n).toUInt32 >>> UInt32.ofNat k.toNat).toInt32 &&& zi 255).toUInt32.toNat = (((zi n).toUInt32 >>> UInt32.ofNat k.toNat).toNat &&& 255) := by
    show ((((zi n).toUInt32 >>> UInt32.ofNat k.toNat).toBitVec &&& (BitVec.ofInt 32 255)).toNat) = _
    rw [BitVec.toNat_and]
    rfl
  rw [e]
  have e2 : ((zi n).toUInt32 >>> UInt32.ofNat k.toNat).toNat = (zi n).toUInt32.toNat / 2 ^ k.toNat := by
    rw [UInt32.toNat_shiftRight, Nat.shiftRight_eq_div_pow]
    rcases hk with h | h | h | h <;> subst h <;> rfl
  rw [e2, zi_nat]
  have e3 : ∀ m : Nat, m &&& 255 = m % 256 := fun m => Nat.and_two_pow_sub_one_eq_mod m 8
  rw [e3]
  rcases hk with h | h | h | h <;> subst h
  · show (n % 4294967296).toNat / 1 % 256 = (n / 1 % 256 % 4294967296).toNat
    omega
  · show (n % 4294967296).toNat / 256 % 256 = (n / 256 % 256 % 4294967296).toNat
    omega
  · show (n % 4294967296).toNat / 65536 % 256 = (n / 65536 % 256 % 4294967296).toNat
    omega
  · show (n % 4294967296).toNat / 16777216 % 256 = (n / 16777216 % 256 % 4294967296).toNat
    omega
def btS (n : Int) : List Int := [n / 2 ^ 24 % 256, n / 2 ^ 16 % 256, n / 2 ^ 8 % 256, n / 2 ^ 0 % 256]
section BS
variable {E : AE} {G G' L : Nat → Nat → Int} {r : Nat → Nat → Option Nat} {h : AH} {Q : AH → Value → Prop} {D : Nat} {n k a b c d e : Int}
theorem ai_step (hD : shD E r D) (hf : 0 ≤ G D 1 ∧ G D 1 ≤ 100000) (hk : k = 0 ∨ k = 8 ∨ k = 16 ∨ k = 24) : RK MX5_appendInt 3 [.ref D, .int (zi n), .int (zi k)] [] (0, 0) (E, zg G, zk L, r) Q = RK MX5_appendInt 3 [.ref D, .int (zi n), .int (zi (k + -8))] [] (0, 0) (E, zg (wrL G D 1 (D + 1) 600 [n / 2 ^ k.toNat % 256]), zk L, r) Q := by
  obtain ⟨h0, ⟨h1, h2, h3, h4, h5⟩, ⟨l1, l2, l3, l4, l5⟩, ⟨r0, r2, r4, r5, r6⟩, -⟩ := id hD
  have hb := zi_byte n k hk
  have c0 : ¬ k < 0 := by omega
  have kr : I32 k := by omega
  rw [← wrL_1 hf.1 (by omega)]
  have ee : ((600 : Nat) : Int) = (le E (D + 1) : Int) := by rw [l1]
  rw [ee]
  have pp : ∀ Q, RK MX9_put 0 [.ref (D + 1), .int (zi (G D 1)), .int (((zi n).toUInt32 >>> ((zi k).toUInt32 &&& Int32.toUInt32 31)).toInt32 &&& zi 255)] [] (0, 0) (E, zg G, zk L, r) Q = Q (E, zg (if 0 ≤ G D 1 ∧ G D 1 < (le E (D + 1) : Int) then u2 G (D + 1) (G D 1).toNat (n / 2 ^ k.toNat % 256) else G), zk L, r) .null := fun Q => by
    rw [hb, c9_put h1 (by omega) (by omega)]
  rw [fX5_appendInt_3]
  simp (disch := first | assumption | exact c2_int _ | exact c2_ref _ | exact c2_jk | exact c2_null | omega | (apply rN1; assumption) | (apply rN2; assumption) | (apply rN3; assumption) | (apply rN4; assumption) | exact bI_r _ | exact bI_01 _) only [↓fX5_appendInt_0, ↓fX5_appendInt_2, ↓fX5_appendInt_4, ↓fX5_appendInt_7, ↓fX5_appendInt_8, ↓fX5_appendInt_11, ↓fX5_appendInt_12, ↓fX5_appendInt_15, ↓fX5_appendInt_16, ↓fX5_appendInt_17, ↓fX5_appendInt_18, ↓fX5_appendInt_21, ↓fX5_appendInt_22, ↓fX5_appendInt_25, ↓fX5_appendInt_26, ↓fX5_appendInt_27, ↓fX5_appendInt_30, ↓fX5_appendInt_31, ↓fX5_appendInt_32, ↓fX5_appendInt_35, ↓fX5_appendInt_38, ↓fX5_appendInt_41, ↓pp, c0, and_self, true_and, and_true, false_and, and_false, not_true_eq_false, not_false_eq_true, or_self, true_or, or_true, false_or, or_false, ite_not, Decidable.not_not, decide_eq_true_eq, Bool.not_true, Bool.not_false, Bool.false_eq_true, Bool.not_eq_true, n10, n20, n21, n30, n31, n32, n40, n41, n42, n43, ↓reduceIte]
theorem c5_appendInt (hD : shD E r D) (hf : 0 ≤ G D 1 ∧ G D 1 ≤ 90000) : RK MX5_appendInt 0 [.ref D, .int (zi n), jk] [] (0, 0) (E, zg G, zk L, r) Q = Q (E, zg (wrL G D 1 (D + 1) 600 (btS n)), zk L, r) .null := by
  have h0 := hD.1
  have hN : ∀ ys, wrL G D 1 (D + 1) 600 ys D 1 = G D 1 + ys.length := fun ys => wrL_n
  have hE : ∀ xs ys, wrL (wrL G D 1 (D + 1) 600 xs) D 1 (D + 1) 600 ys = wrL G D 1 (D + 1) 600 (xs ++ ys) := fun xs ys => wrL_app hf.1 (by omega)
  have e0 : RK MX5_appendInt 0 [.ref D, .int (zi n), jk] [] (0, 0) (E, zg G, zk L, r) Q = RK MX5_appendInt 3 [.ref D, .int (zi n), .int (zi 24)] [] (0, 0) (E, zg G, zk L, r) Q := by
    simp (disch := first | assumption | exact c2_int _ | exact c2_ref _ | exact c2_jk | exact c2_null | omega | (apply rN1; assumption) | (apply rN2; assumption) | (apply rN3; assumption) | (apply rN4; assumption) | exact bI_r _ | exact bI_01 _) only [↓fX5_appendInt_0, ↓fX5_appendInt_2, ↓fX5_appendInt_4, ↓fX5_appendInt_7, ↓fX5_appendInt_8, ↓fX5_appendInt_11, ↓fX5_appendInt_12, ↓fX5_appendInt_15, ↓fX5_appendInt_16, ↓fX5_appendInt_17, ↓fX5_appendInt_18, ↓fX5_appendInt_21, ↓fX5_appendInt_22, ↓fX5_appendInt_25, ↓fX5_appendInt_26, ↓fX5_appendInt_27, ↓fX5_appendInt_30, ↓fX5_appendInt_31, ↓fX5_appendInt_32, ↓fX5_appendInt_35, ↓fX5_appendInt_38, ↓fX5_appendInt_41, and_self, true_and, and_true, false_and, and_false, not_true_eq_false, not_false_eq_true, or_self, true_or, or_true, false_or, or_false, ite_not, Decidable.not_not, decide_eq_true_eq, Bool.not_true, Bool.not_false, Bool.false_eq_true, Bool.not_eq_true, n10, n20, n21, n30, n31, n32, n40, n41, n42, n43, ↓reduceIte]
  have e1 := ai_step (L := L) (Q := Q) (n := n) (k := 24) hD (G := G) (by omega) (by omega)
  have e2 := ai_step (L := L) (Q := Q) (n := n) (k := 24 + -8) hD (G := wrL G D 1 (D + 1) 600 [n / 2 ^ 24 % 256]) (by rw [hN]; simp only [List.length_cons, List.length_nil]; omega) (by omega)
  have e3 := ai_step (L := L) (Q := Q) (n := n) (k := 24 + -8 + -8) hD (G := wrL G D 1 (D + 1) 600 ([n / 2 ^ 24 % 256] ++ [n / 2 ^ 16 % 256])) (by rw [hN]; simp only [List.length_cons, List.length_nil, List.length_append]; omega) (by omega)
  have e4 := ai_step (L := L) (Q := Q) (n := n) (k := 24 + -8 + -8 + -8) hD (G := wrL G D 1 (D + 1) 600 ([n / 2 ^ 24 % 256] ++ [n / 2 ^ 16 % 256] ++ [n / 2 ^ 8 % 256])) (by rw [hN]; simp only [List.length_cons, List.length_nil, List.length_append]; omega) (by omega)
  rw [hE] at e2 e3 e4
  have t1 : RK MX5_appendInt 3 [.ref D, .int (zi n), .int (zi 24)] [] (0, 0) (E, zg G, zk L, r) Q = RK MX5_appendInt 3 [.ref D, .int (zi n), .int (zi (24 + -8))] [] (0, 0) (E, zg (wrL G D 1 (D + 1) 600 [n / 2 ^ 24 % 256]), zk L, r) Q := e1
  have t2 : RK MX5_appendInt 3 [.ref D, .int (zi n), .int (zi (24 + -8))] [] (0, 0) (E, zg (wrL G D 1 (D + 1) 600 [n / 2 ^ 24 % 256]), zk L, r) Q = RK MX5_appendInt 3 [.ref D, .int (zi n), .int (zi (24 + -8 + -8))] [] (0, 0) (E, zg (wrL G D 1 (D + 1) 600 ([n / 2 ^ 24 % 256] ++ [n / 2 ^ 16 % 256])), zk L, r) Q := e2
  have t3 : RK MX5_appendInt 3 [.ref D, .int (zi n), .int (zi (24 + -8 + -8))] [] (0, 0) (E, zg (wrL G D 1 (D + 1) 600 ([n / 2 ^ 24 % 256] ++ [n / 2 ^ 16 % 256])), zk L, r) Q = RK MX5_appendInt 3 [.ref D, .int (zi n), .int (zi (24 + -8 + -8 + -8))] [] (0, 0) (E, zg (wrL G D 1 (D + 1) 600 ([n / 2 ^ 24 % 256] ++ [n / 2 ^ 16 % 256] ++ [n / 2 ^ 8 % 256])), zk L, r) Q := e3
  have t4 : RK MX5_appendInt 3 [.ref D, .int (zi n), .int (zi (24 + -8 + -8 + -8))] [] (0, 0) (E, zg (wrL G D 1 (D + 1) 600 ([n / 2 ^ 24 % 256] ++ [n / 2 ^ 16 % 256] ++ [n / 2 ^ 8 % 256])), zk L, r) Q = RK MX5_appendInt 3 [.ref D, .int (zi n), .int (zi (24 + -8 + -8 + -8 + -8))] [] (0, 0) (E, zg (wrL G D 1 (D + 1) 600 (btS n)), zk L, r) Q := e4
  rw [e0, t1, t2, t3, t4]
  have c0 : (24 + -8 + -8 + -8 + -8 : Int) < 0 := by decide
  simp (disch := first | assumption | exact c2_int _ | exact c2_ref _ | exact c2_jk | exact c2_null | omega | (apply rN1; assumption) | (apply rN2; assumption) | (apply rN3; assumption) | (apply rN4; assumption) | exact bI_r _ | exact bI_01 _) only [↓fX5_appendInt_0, ↓fX5_appendInt_2, ↓fX5_appendInt_3, ↓fX5_appendInt_4, ↓fX5_appendInt_7, ↓fX5_appendInt_8, ↓fX5_appendInt_11, ↓fX5_appendInt_12, ↓fX5_appendInt_15, ↓fX5_appendInt_16, ↓fX5_appendInt_17, ↓fX5_appendInt_18, ↓fX5_appendInt_21, ↓fX5_appendInt_22, ↓fX5_appendInt_25, ↓fX5_appendInt_26, ↓fX5_appendInt_27, ↓fX5_appendInt_30, ↓fX5_appendInt_31, ↓fX5_appendInt_32, ↓fX5_appendInt_35, ↓fX5_appendInt_38, ↓fX5_appendInt_41, c0, and_self, true_and, and_true, false_and, and_false, not_true_eq_false, not_false_eq_true, or_self, true_or, or_true, false_or, or_false, ite_not, Decidable.not_not, decide_eq_true_eq, Bool.not_true, Bool.not_false, Bool.false_eq_true, Bool.not_eq_true, n10, n20, n21, n30, n31, n32, n40, n41, n42, n43, ↓reduceIte]
theorem btS_len (n : Int) : (btS n).length = 4 := rfl
theorem c5_append (hD : shD E r D) (hf : 0 ≤ G D 1 ∧ G D 1 ≤ 600) : RK MX5_append 0 [.ref D, .int (zi a), .int (zi b), .int (zi c), .int (zi d), .int (zi e)] [] (0, 0) (E, zg G, zk L, r) Q = if G D 1 + 20 ≤ 600 then Q (E, zg (wrL G D 1 (D + 1) 600 (btS a ++ btS b ++ btS c ++ btS d ++ btS e)), zk L, r) (.int (zi (G D 1 + 20))) else Q (E, zg G, zk L, r) (.int (zi (-1))) := by
  have h0 := hD.1
  have hN : ∀ ys, wrL G D 1 (D + 1) 600 ys D 1 = G D 1 + ys.length := fun ys => wrL_n
  have hE : ∀ xs ys, wrL (wrL G D 1 (D + 1) 600 xs) D 1 (D + 1) 600 ys = wrL G D 1 (D + 1) 600 (xs ++ ys) := fun xs ys => wrL_app hf.1 (by omega)
  by_cases q : G D 1 + 20 ≤ 600
  · rw [if_pos q]
    have s1 := fun Q => c5_appendInt (L := L) (Q := Q) (n := a) (G := G) hD (by omega)
    have s2 : ∀ (ys : List Int) (n : Int) Q, ys.length ≤ 100 → RK MX5_appendInt 0 [.ref D, .int (zi n), jk] [] (0, 0) (E, zg (wrL G D 1 (D + 1) 600 ys), zk L, r) Q = Q (E, zg (wrL G D 1 (D + 1) 600 (ys ++ btS n)), zk L, r) .null := fun ys n Q hy => by
      rw [c5_appendInt hD (by rw [hN]; omega), hE]
    have s2' := fun Q => s2 (btS a) b Q (by rw [btS_len]; omega)
    have s3' := fun Q => s2 (btS a ++ btS b) c Q (by simp only [List.length_append, btS_len]; omega)
    have s4' := fun Q => s2 (btS a ++ btS b ++ btS c) d Q (by simp only [List.length_append, btS_len]; omega)
    have s5' := fun Q => s2 (btS a ++ btS b ++ btS c ++ btS d) e Q (by simp only [List.length_append, btS_len]; omega)
    have e9 : wrL G D 1 (D + 1) 600 (btS a ++ btS b ++ btS c ++ btS d ++ btS e) D 1 = G D 1 + 20 := by
      rw [hN]
      simp only [List.length_append, btS_len]
      rfl
    simp (disch := first | assumption | exact c2_int _ | exact c2_ref _ | exact c2_jk | exact c2_null | omega | (apply rN1; assumption) | (apply rN2; assumption) | (apply rN3; assumption) | (apply rN4; assumption) | exact bI_r _ | exact bI_01 _) only [↓fX5_append_0, ↓fX5_append_1, ↓fX5_append_4, ↓fX5_append_6, ↓fX5_append_7, ↓fX5_append_10, ↓fX5_append_13, ↓fX5_append_14, ↓fX5_append_15, ↓fX5_append_16, ↓fX5_append_17, ↓fX5_append_20, ↓fX5_append_21, ↓fX5_append_22, ↓fX5_append_25, ↓fX5_append_26, ↓fX5_append_27, ↓fX5_append_30, ↓fX5_append_31, ↓fX5_append_33, ↓fX5_append_36, ↓fX5_append_37, ↓fX5_append_39, ↓fX5_append_42, ↓fX5_append_43, ↓fX5_append_46, ↓s1, ↓s2', ↓s3', ↓s4', ↓s5', q, e9, and_self, true_and, and_true, false_and, and_false, not_true_eq_false, not_false_eq_true, or_self, true_or, or_true, false_or, or_false, ite_not, Decidable.not_not, decide_eq_true_eq, Bool.not_true, Bool.not_false, Bool.false_eq_true, Bool.not_eq_true, n10, n20, n21, n30, n31, n32, n40, n41, n42, n43, ↓reduceIte]
  · rw [if_neg q]
    simp (disch := first | assumption | exact c2_int _ | exact c2_ref _ | exact c2_jk | exact c2_null | omega | (apply rN1; assumption) | (apply rN2; assumption) | (apply rN3; assumption) | (apply rN4; assumption) | exact bI_r _ | exact bI_01 _) only [↓fX5_append_0, ↓fX5_append_1, ↓fX5_append_4, ↓fX5_append_6, ↓fX5_append_7, ↓fX5_append_10, ↓fX5_append_13, ↓fX5_append_14, ↓fX5_append_15, ↓fX5_append_16, ↓fX5_append_17, ↓fX5_append_20, ↓fX5_append_21, ↓fX5_append_22, ↓fX5_append_25, ↓fX5_append_26, ↓fX5_append_27, ↓fX5_append_30, ↓fX5_append_31, ↓fX5_append_33, ↓fX5_append_36, ↓fX5_append_37, ↓fX5_append_39, ↓fX5_append_42, ↓fX5_append_43, ↓fX5_append_46, q, and_self, true_and, and_true, false_and, and_false, not_true_eq_false, not_false_eq_true, or_self, true_or, or_true, false_or, or_false, ite_not, Decidable.not_not, decide_eq_true_eq, Bool.not_true, Bool.not_false, Bool.false_eq_true, Bool.not_eq_true, n10, n20, n21, n30, n31, n32, n40, n41, n42, n43, ↓reduceIte]
end BS
