/-! feed out of the reference: bytes with a sign. -/
theorem bmod_2 (x : Int) : (x.bmod 256).bmod 256 = x.bmod 256 := by
  simp only [Int.bmod_def]
  omega
theorem sg8_bm (x : Int) : sg8 (x % 256) = x.bmod 256 := by
  unfold sg8
  simp only [Int.bmod_def]
  omega
theorem sh_i (x : Int32) (k : Int) (hk : k = 0 ∨ k = 8 ∨ k = 16 ∨ k = 24) : (x >>> (zi k &&& 31)).toInt = x.toInt / 2 ^ k.toNat := by
  have e : ∀ j : Nat, (zi k &&& 31).toBitVec.smod 32 = BitVec.ofNat 32 j → j < 32 → (x >>> (zi k &&& 31)).toInt = x.toInt / 2 ^ j := fun j hj h => by
    show (x >>> (zi k &&& 31)).toBitVec.toInt = _
    rw [Int32.toBitVec_shiftRight, hj, BitVec.sshiftRight_eq', BitVec.toInt_sshiftRight, BitVec.toNat_ofNat, Nat.mod_eq_of_lt (by omega), Int.shiftRight_eq_div_pow]
    rfl
  rcases hk with h | h | h | h <;> subst h
  · exact e 0 (by decide) (by decide)
  · exact e 8 (by decide) (by decide)
  · exact e 16 (by decide) (by decide)
  · exact e 24 (by decide) (by decide)
theorem zi_sb (n k : Int) (hn : -2147483648 ≤ n ∧ n < 2147483648) (hk : k = 0 ∨ k = 8 ∨ k = 16 ∨ k = 24) : (zi n >>> (zi k &&& 31)).toInt8.toInt32.toInt8.toInt32 = zi (sg8 (n / 2 ^ k.toNat % 256)) := by
  rw [sg8_bm]
  have hb : ∀ x : Int, -128 ≤ x.bmod 256 ∧ x.bmod 256 < 128 := fun x => by
    simp only [Int.bmod_def]
    omega
  have h1 := hb (n / 2 ^ k.toNat)
  apply Int32.toInt_inj.mp
  rw [zi_t (by omega), Int8.toInt_toInt32, Int32.toInt_toInt8, Int8.toInt_toInt32, Int32.toInt_toInt8, sh_i _ _ hk, zi_t hn]
  exact bmod_2 _
def btM (n : Int) : List Int := [sg8 (n / 2 ^ 24 % 256), sg8 (n / 2 ^ 16 % 256), sg8 (n / 2 ^ 8 % 256), sg8 (n / 2 ^ 0 % 256)]
theorem btM_len (n : Int) : (btM n).length = 4 := rfl
theorem btM_map (n : Int) : btM n = (btS n).map sg8 := rfl
section BM
variable {E : AE} {G G1 G2 G' L : Nat → Nat → Int} {r : Nat → Nat → Option Nat} {h : AH} {Q : AH → Value → Prop} {m : Nat} {n k a b c d e : Int}
theorem fs_step (hm : shM E r m) (hf : 0 ≤ G m 18 ∧ G m 18 < 600) (hn : I32 n) (hk : k = 0 ∨ k = 8 ∨ k = 16 ∨ k = 24) : RK MX10_feeds 3 [.ref m, .int (zi n), .int (zi k)] [] (0, 0) (E, zg G, zk L, r) Q = RK MX10_feeds 3 [.ref m, .int (zi n), .int (zi (k + -8))] [] (0, 0) (E, zg (wrL G m 18 (m + 11) 600 [sg8 (n / 2 ^ k.toNat % 256)]), zk L, r) Q := by
  have m0 := hm.1
  obtain ⟨ka11, la11, ra11⟩ := hm.2.2.2.2.2.2.2.2.2.2.2.1
  have hb := zi_sb n k hn hk
  have c0 : ¬ k < 0 := by omega
  have kr : I32 k := by omega
  have hw := wrL_1 (G := G) (o := m) (f := 18) (a := m + 11) (cap := 600) (b := sg8 (n / 2 ^ k.toNat % 256)) hf.1 (by omega)
  have cc : 0 ≤ G m 18 ∧ G m 18 < ((600 : Nat) : Int) := by omega
  rw [if_pos cc] at hw
  have hin : inr (zi (G m 18)) (le E (m + 11)) = true := zi_inr (by rw [la11]; omega) (by rw [la11]; decide)
  have e19 : ∀ ls Q, RK MX10_feeds 19 ls [.int (zi n >>> (zi k &&& 31)).toInt8.toInt32, .int (zi (G m 18)), .ref (m + 11)] (0, 0) (E, zg G, zk L, r) Q = RK MX10_feeds 20 ls [] (0, 0) (E, zg (u2 G (m + 11) (G m 18).toNat (sg8 (n / 2 ^ k.toNat % 256))), zk L, r) Q := fun ls Q => by
    rw [fX10_feeds_19 ka11 hin, zi_cl (by omega)]
    have ev : vp_nar .byte (zi n >>> (zi k &&& 31)).toInt8.toInt32 = zi (sg8 (n / 2 ^ k.toNat % 256)) := hb
    rw [ev, zg_u]
  have e18 : u2 G (m + 11) (G m 18).toNat (sg8 (n / 2 ^ k.toNat % 256)) m 18 = G m 18 := congrFun (u2_a _ _ _ _ (by omega)) 18
  rw [e18] at hw
  rw [fX10_feeds_3]
  simp (disch := first | assumption | exact c2_int _ | exact c2_ref _ | exact c2_jk | exact c2_null | omega | exact bI_r _ | exact bI_01 _) only [↓fX10_feeds_0, ↓fX10_feeds_2, ↓fX10_feeds_4, ↓fX10_feeds_7, ↓fX10_feeds_8, ↓fX10_feeds_11, ↓fX10_feeds_12, ↓fX10_feeds_15, ↓fX10_feeds_16, ↓fX10_feeds_17, ↓fX10_feeds_18, ↓fX10_feeds_20, ↓fX10_feeds_21, ↓fX10_feeds_22, ↓fX10_feeds_25, ↓fX10_feeds_26, ↓fX10_feeds_27, ↓fX10_feeds_30, ↓fX10_feeds_33, ↓fX10_feeds_36, ↓e19, e18, hw, c0, and_self, true_and, and_true, false_and, and_false, not_true_eq_false, not_false_eq_true, or_self, true_or, or_true, false_or, or_false, ite_not, Decidable.not_not, decide_eq_true_eq, Bool.not_true, Bool.not_false, Bool.false_eq_true, Bool.not_eq_true, n10, n20, n21, n30, n31, n32, n40, n41, n42, n43, ↓reduceIte]
theorem m_feeds (hm : shM E r m) (hf : 0 ≤ G m 18 ∧ G m 18 ≤ 596) (hn : I32 n) : RK MX10_feeds 0 [.ref m, .int (zi n), jk] [] (0, 0) (E, zg G, zk L, r) Q = Q (E, zg (wrL G m 18 (m + 11) 600 (btM n)), zk L, r) .null := by
  have m0 := hm.1
  have hN : ∀ ys, wrL G m 18 (m + 11) 600 ys m 18 = G m 18 + ys.length := fun ys => wrL_n
  have hE : ∀ xs ys, wrL (wrL G m 18 (m + 11) 600 xs) m 18 (m + 11) 600 ys = wrL G m 18 (m + 11) 600 (xs ++ ys) := fun xs ys => wrL_app hf.1 (by omega)
  have e0 : RK MX10_feeds 0 [.ref m, .int (zi n), jk] [] (0, 0) (E, zg G, zk L, r) Q = RK MX10_feeds 3 [.ref m, .int (zi n), .int (zi 24)] [] (0, 0) (E, zg G, zk L, r) Q := by
    simp (disch := first | assumption | exact c2_int _ | exact c2_ref _ | exact c2_jk | exact c2_null | omega | exact bI_r _ | exact bI_01 _) only [↓fX10_feeds_0, ↓fX10_feeds_2, ↓fX10_feeds_4, ↓fX10_feeds_7, ↓fX10_feeds_8, ↓fX10_feeds_11, ↓fX10_feeds_12, ↓fX10_feeds_15, ↓fX10_feeds_16, ↓fX10_feeds_17, ↓fX10_feeds_18, ↓fX10_feeds_19, ↓fX10_feeds_19z, ↓fX10_feeds_20, ↓fX10_feeds_21, ↓fX10_feeds_22, ↓fX10_feeds_25, ↓fX10_feeds_26, ↓fX10_feeds_27, ↓fX10_feeds_30, ↓fX10_feeds_33, ↓fX10_feeds_36, and_self, true_and, and_true, false_and, and_false, not_true_eq_false, not_false_eq_true, or_self, true_or, or_true, false_or, or_false, ite_not, Decidable.not_not, decide_eq_true_eq, Bool.not_true, Bool.not_false, Bool.false_eq_true, Bool.not_eq_true, n10, n20, n21, n30, n31, n32, n40, n41, n42, n43, ↓reduceIte]
  have e1 := fs_step (L := L) (Q := Q) (n := n) (k := 24) hm (G := G) (by omega) hn (by omega)
  have e2 := fs_step (L := L) (Q := Q) (n := n) (k := 24 + -8) hm (G := wrL G m 18 (m + 11) 600 [sg8 (n / 2 ^ 24 % 256)]) (by rw [hN]; simp only [List.length_cons, List.length_nil]; omega) hn (by omega)
  have e3 := fs_step (L := L) (Q := Q) (n := n) (k := 24 + -8 + -8) hm (G := wrL G m 18 (m + 11) 600 ([sg8 (n / 2 ^ 24 % 256)] ++ [sg8 (n / 2 ^ 16 % 256)])) (by rw [hN]; simp only [List.length_cons, List.length_nil, List.length_append]; omega) hn (by omega)
  have e4 := fs_step (L := L) (Q := Q) (n := n) (k := 24 + -8 + -8 + -8) hm (G := wrL G m 18 (m + 11) 600 ([sg8 (n / 2 ^ 24 % 256)] ++ [sg8 (n / 2 ^ 16 % 256)] ++ [sg8 (n / 2 ^ 8 % 256)])) (by rw [hN]; simp only [List.length_cons, List.length_nil, List.length_append]; omega) hn (by omega)
  rw [hE] at e2 e3 e4
  have t1 : RK MX10_feeds 3 [.ref m, .int (zi n), .int (zi 24)] [] (0, 0) (E, zg G, zk L, r) Q = RK MX10_feeds 3 [.ref m, .int (zi n), .int (zi (24 + -8))] [] (0, 0) (E, zg (wrL G m 18 (m + 11) 600 [sg8 (n / 2 ^ 24 % 256)]), zk L, r) Q := e1
  have t2 : RK MX10_feeds 3 [.ref m, .int (zi n), .int (zi (24 + -8))] [] (0, 0) (E, zg (wrL G m 18 (m + 11) 600 [sg8 (n / 2 ^ 24 % 256)]), zk L, r) Q = RK MX10_feeds 3 [.ref m, .int (zi n), .int (zi (24 + -8 + -8))] [] (0, 0) (E, zg (wrL G m 18 (m + 11) 600 ([sg8 (n / 2 ^ 24 % 256)] ++ [sg8 (n / 2 ^ 16 % 256)])), zk L, r) Q := e2
  have t3 : RK MX10_feeds 3 [.ref m, .int (zi n), .int (zi (24 + -8 + -8))] [] (0, 0) (E, zg (wrL G m 18 (m + 11) 600 ([sg8 (n / 2 ^ 24 % 256)] ++ [sg8 (n / 2 ^ 16 % 256)])), zk L, r) Q = RK MX10_feeds 3 [.ref m, .int (zi n), .int (zi (24 + -8 + -8 + -8))] [] (0, 0) (E, zg (wrL G m 18 (m + 11) 600 ([sg8 (n / 2 ^ 24 % 256)] ++ [sg8 (n / 2 ^ 16 % 256)] ++ [sg8 (n / 2 ^ 8 % 256)])), zk L, r) Q := e3
  have t4 : RK MX10_feeds 3 [.ref m, .int (zi n), .int (zi (24 + -8 + -8 + -8))] [] (0, 0) (E, zg (wrL G m 18 (m + 11) 600 ([sg8 (n / 2 ^ 24 % 256)] ++ [sg8 (n / 2 ^ 16 % 256)] ++ [sg8 (n / 2 ^ 8 % 256)])), zk L, r) Q = RK MX10_feeds 3 [.ref m, .int (zi n), .int (zi (24 + -8 + -8 + -8 + -8))] [] (0, 0) (E, zg (wrL G m 18 (m + 11) 600 (btM n)), zk L, r) Q := e4
  rw [e0, t1, t2, t3, t4]
  have c0 : (24 + -8 + -8 + -8 + -8 : Int) < 0 := by decide
  simp (disch := first | assumption | exact c2_int _ | exact c2_ref _ | exact c2_jk | exact c2_null | omega | exact bI_r _ | exact bI_01 _) only [↓fX10_feeds_0, ↓fX10_feeds_2, ↓fX10_feeds_3, ↓fX10_feeds_4, ↓fX10_feeds_7, ↓fX10_feeds_8, ↓fX10_feeds_11, ↓fX10_feeds_12, ↓fX10_feeds_15, ↓fX10_feeds_16, ↓fX10_feeds_17, ↓fX10_feeds_18, ↓fX10_feeds_19, ↓fX10_feeds_19z, ↓fX10_feeds_20, ↓fX10_feeds_21, ↓fX10_feeds_22, ↓fX10_feeds_25, ↓fX10_feeds_26, ↓fX10_feeds_27, ↓fX10_feeds_30, ↓fX10_feeds_33, ↓fX10_feeds_36, c0, and_self, true_and, and_true, false_and, and_false, not_true_eq_false, not_false_eq_true, or_self, true_or, or_true, false_or, or_false, ite_not, Decidable.not_not, decide_eq_true_eq, Bool.not_true, Bool.not_false, Bool.false_eq_true, Bool.not_eq_true, n10, n20, n21, n30, n31, n32, n40, n41, n42, n43, ↓reduceIte]
theorem z_feed (hm : shM E r m) (hf : 0 ≤ G m 18 ∧ G m 18 ≤ 600) (ha : I32 a) (hb : I32 b) (hc : I32 c) (hd : I32 d) (he : I32 e) : RK MX10_feed 0 [.ref m, .int (zi a), .int (zi b), .int (zi c), .int (zi d), .int (zi e)] [] (0, 0) (E, zg G, zk L, r) Q = if G m 18 + 20 ≤ 600 then Q (E, zg (wrL (u2 G m 1 0) m 18 (m + 11) 600 (btM a ++ btM b ++ btM c ++ btM d ++ btM e)), zk L, r) (.int (zi (G m 18 + 20))) else Q (E, zg (u2 G m 1 0), zk L, r) (.int (zi (-1))) := by
  have m0 := hm.1
  have k18 : u2 G m 1 0 m 18 = G m 18 := u2_i _ _ _ _ (by decide)
  by_cases q : G m 18 + 20 ≤ 600
  · rw [if_pos q]
    obtain ⟨H, hH⟩ : ∃ H, H = u2 G m 1 0 := ⟨_, rfl⟩
    rw [← hH] at k18 ⊢
    have hN : ∀ ys, wrL H m 18 (m + 11) 600 ys m 18 = H m 18 + ys.length := fun ys => wrL_n
    have hE : ∀ xs ys, wrL (wrL H m 18 (m + 11) 600 xs) m 18 (m + 11) 600 ys = wrL H m 18 (m + 11) 600 (xs ++ ys) := fun xs ys => wrL_app (by omega) (by omega)
    have s1 := fun Q => m_feeds (L := L) (Q := Q) (n := a) (G := H) hm (by omega) ha
    have s2 : ∀ (ys : List Int) (n : Int) Q, ys.length ≤ 16 → I32 n → RK MX10_feeds 0 [.ref m, .int (zi n), jk] [] (0, 0) (E, zg (wrL H m 18 (m + 11) 600 ys), zk L, r) Q = Q (E, zg (wrL H m 18 (m + 11) 600 (ys ++ btM n)), zk L, r) .null := fun ys n Q hy hn => by
      rw [m_feeds hm (by rw [hN]; omega) hn, hE]
    have s2' := fun Q => s2 (btM a) b Q (by rw [btM_len]; omega) hb
    have s3' := fun Q => s2 (btM a ++ btM b) c Q (by simp only [List.length_append, btM_len]; omega) hc
    have s4' := fun Q => s2 (btM a ++ btM b ++ btM c) d Q (by simp only [List.length_append, btM_len]; omega) hd
    have s5' := fun Q => s2 (btM a ++ btM b ++ btM c ++ btM d) e Q (by simp only [List.length_append, btM_len]; omega) he
    have e9 : wrL H m 18 (m + 11) 600 (btM a ++ btM b ++ btM c ++ btM d ++ btM e) m 18 = G m 18 + 20 := by
      rw [hN, k18]
      simp only [List.length_append, btM_len]
      rfl
    have eH : u2 G m 1 0 = H := hH.symm
    clear hH
    simp (disch := first | assumption | exact c2_int _ | exact c2_ref _ | exact c2_jk | exact c2_null | omega | exact bI_r _ | exact bI_01 _) only [↓fX10_feed_0, ↓fX10_feed_1, ↓fX10_feed_2, ↓fX10_feed_5, ↓fX10_feed_6, ↓fX10_feed_9, ↓fX10_feed_11, ↓fX10_feed_12, ↓fX10_feed_15, ↓fX10_feed_18, ↓fX10_feed_19, ↓fX10_feed_20, ↓fX10_feed_21, ↓fX10_feed_22, ↓fX10_feed_25, ↓fX10_feed_26, ↓fX10_feed_27, ↓fX10_feed_30, ↓fX10_feed_31, ↓fX10_feed_32, ↓fX10_feed_35, ↓fX10_feed_36, ↓fX10_feed_38, ↓fX10_feed_41, ↓fX10_feed_42, ↓fX10_feed_44, ↓fX10_feed_47, ↓fX10_feed_48, ↓fX10_feed_51, eH, k18, ↓s1, ↓s2', ↓s3', ↓s4', ↓s5', q, e9, and_self, true_and, and_true, false_and, and_false, not_true_eq_false, not_false_eq_true, or_self, true_or, or_true, false_or, or_false, ite_not, Decidable.not_not, decide_eq_true_eq, Bool.not_true, Bool.not_false, Bool.false_eq_true, Bool.not_eq_true, n10, n20, n21, n30, n31, n32, n40, n41, n42, n43, ↓reduceIte]
  · rw [if_neg q]
    simp (disch := first | assumption | exact c2_int _ | exact c2_ref _ | exact c2_jk | exact c2_null | omega | exact bI_r _ | exact bI_01 _) only [↓fX10_feed_0, ↓fX10_feed_1, ↓fX10_feed_2, ↓fX10_feed_5, ↓fX10_feed_6, ↓fX10_feed_9, ↓fX10_feed_11, ↓fX10_feed_12, ↓fX10_feed_15, ↓fX10_feed_18, ↓fX10_feed_19, ↓fX10_feed_20, ↓fX10_feed_21, ↓fX10_feed_22, ↓fX10_feed_25, ↓fX10_feed_26, ↓fX10_feed_27, ↓fX10_feed_30, ↓fX10_feed_31, ↓fX10_feed_32, ↓fX10_feed_35, ↓fX10_feed_36, ↓fX10_feed_38, ↓fX10_feed_41, ↓fX10_feed_42, ↓fX10_feed_44, ↓fX10_feed_47, ↓fX10_feed_48, ↓fX10_feed_51, k18, q, and_self, true_and, and_true, false_and, and_false, not_true_eq_false, not_false_eq_true, or_self, true_or, or_true, false_or, or_false, ite_not, Decidable.not_not, decide_eq_true_eq, Bool.not_true, Bool.not_false, Bool.false_eq_true, Bool.not_eq_true, n10, n20, n21, n30, n31, n32, n40, n41, n42, n43, ↓reduceIte]
end BM
