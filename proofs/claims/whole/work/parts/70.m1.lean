/-! The reference: its object, slots, what is laid at hand. -/
def shM (E : AE) (r : Nat → Nat → Option Nat) (m : Nat) : Prop := kd E m = 16 ∧ (kd E (m + 1) = 1 ∧ le E (m + 1) = 9120 ∧ r m 2 = some (m + 1)) ∧ (kd E (m + 2) = 1 ∧ le E (m + 2) = 7296 ∧ r m 3 = some (m + 2)) ∧ (kd E (m + 3) = 1 ∧ le E (m + 3) = 58368 ∧ r m 4 = some (m + 3)) ∧ (kd E (m + 4) = 1 ∧ le E (m + 4) = 8 ∧ r m 5 = some (m + 4)) ∧ (kd E (m + 5) = 1 ∧ le E (m + 5) = 33 ∧ r m 9 = some (m + 5)) ∧ (kd E (m + 6) = 1 ∧ le E (m + 6) = 33 ∧ r m 10 = some (m + 6)) ∧ (kd E (m + 7) = 1 ∧ le E (m + 7) = 600 ∧ r m 11 = some (m + 7)) ∧ (kd E (m + 8) = 3 ∧ le E (m + 8) = 600 ∧ r m 13 = some (m + 8)) ∧ (kd E (m + 9) = 1 ∧ le E (m + 9) = 600 ∧ r m 14 = some (m + 9)) ∧ (kd E (m + 10) = 1 ∧ le E (m + 10) = 4000 ∧ r m 15 = some (m + 10)) ∧ (kd E (m + 11) = 2 ∧ le E (m + 11) = 600 ∧ r m 17 = some (m + 11)) ∧ (kd E (m + 12) = 4 ∧ le E (m + 12) = 7 ∧ r m 31 = some (m + 12)) ∧ (kd E (m + 13) = 4 ∧ le E (m + 13) = 12 ∧ r m 33 = some (m + 13))
/-- a slot of the reference holds σ -/
def SL (G : Nat → Nat → Int) (m : Nat) (s : Int) (σ : Nat → Int) : Prop := ∀ k : Nat, k < 1824 → G (m + 1) (1824 * s + k).toNat = σ k
/-- the indices that have P are laid at hand -/
def LAP (G : Nat → Nat → Int) (m : Nat) (P : Int → Bool) (M : Nat) : Prop := G m 12 = ctN P M ∧ ∀ p : Int, 1 ≤ p → p ≤ ctN P M → G (m + 7) (p - 1).toNat = (ixN P M p : Int)
abbrev LAS (G : Nat → Nat → Int) (m : Nat) (σ : Nat → Int) : Prop := LAP G m (hbS σ) (σ 3).toNat
def iG (G : Nat → Nat → Int) (m : Nat) (y : Int) : Nat → Nat → Int := u2 (u2 G m 1 0) m 0 y
def lyG (G : Nat → Nat → Int) (m : Nat) (P : Int → Bool) (M : Nat) : Nat → Nat → Int := fun x j => if x = m + 7 ∧ (j : Int) < ctN P M then (ixN P M ((j : Int) + 1) : Int) else if x = m ∧ j = 12 then ctN P M else G x j
def lyP (σ : Nat → Int) (t b : Int) (i : Int) : Bool := decide (σ (20 + i.toNat) = 0 ∨ ¬ (t = 0 ∨ σ (20 + i.toNat) < t ∨ (b ≠ 0 ∧ σ (20 + i.toNat) = t)))
/-- only looked at -/
def lkM (G G' : Nat → Nat → Int) (m : Nat) : Prop := (∀ x, x ≠ m → x ≠ m + 1 → x ≠ m + 7 → x ≠ m + 8 → x ≠ m + 9 → G' x = G x) ∧ (∀ j, j ≠ 0 → j ≠ 1 → j ≠ 12 → G' m j = G m j) ∧ ∀ k, k < 7296 → G' (m + 1) k = G (m + 1) k
theorem ixN_st (P : Int → Bool) {m : Nat} {p : Int} (h : p ≤ ctN P m) : ixN P (m + 1) p = ixN P m p := by
  rw [ixN, if_neg (fun z => by omega)]
theorem ixN_new (P : Int → Bool) {m : Nat} (h : P (m : Int) = true) : ixN P (m + 1) (ctN P m + 1) = m := by
  rw [ixN, if_pos ⟨h, by omega⟩]
section BM
variable {E : AE} {G G1 G2 G' L : Nat → Nat → Int} {r : Nat → Nat → Option Nat} {h : AH} {Q : AH → Value → Prop} {m M : Nat} {σ : Nat → Int} {P : Int → Bool} {s y x w i p v lo hi t b : Int}
theorem iG_x (hx : x ≠ x + 1) {q : Nat} (hq : q ≠ m) : iG G m y q = G q := (u2_a _ _ _ _ hq).trans (u2_a _ _ _ _ hq)
theorem iG_q {q : Nat} (hq : q ≠ m) : iG G m y q = G q := (u2_a _ _ _ _ hq).trans (u2_a _ _ _ _ hq)
theorem iG_0 : iG G m y m 0 = y := u2_s _ _ _ _
theorem iG_j {j : Nat} (h0 : j ≠ 0) (h1 : j ≠ 1) : iG G m y m j = G m j := (u2_i _ _ _ _ h0).trans (u2_i _ _ _ _ h1)
theorem lyG_q {q : Nat} (h : q ≠ m) (h7 : q ≠ m + 7) : lyG G m P M q = G q := by
  funext j
  unfold lyG
  rw [if_neg (fun z => h7 z.1), if_neg (fun z => h z.1)]
theorem lyG_j {j : Nat} (h : j ≠ 12) : lyG G m P M m j = G m j := by
  unfold lyG
  rw [if_neg (fun z => by omega), if_neg (fun z => h z.2)]
theorem lyG_12 : lyG G m P M m 12 = ctN P M := by
  unfold lyG
  rw [if_neg (fun z => by omega), if_pos ⟨rfl, rfl⟩]
theorem lyG_LAP : LAP (lyG G m P M) m P M := by
  refine ⟨lyG_12, fun p h1 h2 => ?_⟩
  unfold lyG
  rw [if_pos ⟨rfl, by omega⟩, show (((p - 1).toNat : Nat) : Int) + 1 = p by omega]
theorem SL_c (h : SL G m s σ) (e : G' (m + 1) = G (m + 1)) : SL G' m s σ := fun k hk => by rw [e]; exact h k hk
theorem LAP_c (h : LAP G m P M) (e : G' (m + 7) = G (m + 7)) (e2 : G' m 12 = G m 12) : LAP G' m P M := ⟨e2.trans h.1, fun p h1 h2 => by rw [e]; exact h.2 p h1 h2⟩
theorem SL_i (h : SL G m s σ) : SL (iG G m y) m s σ := SL_c h (iG_q (by omega))
theorem SL_0 (h : SL G m s σ) {j : Nat} : SL (u2 G m j y) m s σ := SL_c h (u2_a _ _ _ _ (by omega))
theorem SL_ly (h : SL G m s σ) : SL (lyG G m P M) m s σ := SL_c h (lyG_q (by omega) (by omega))
theorem SL_n (h : SL G m s σ) (hs : 0 ≤ s) {k : Nat} (hk : k < 1824) : G (m + 1) (1824 * s + (k : Int)).toNat = σ k := h k hk
theorem lkM.rf (G : Nat → Nat → Int) (m : Nat) : lkM G G m := ⟨fun _ _ _ _ _ _ => rfl, fun _ _ _ _ => rfl, fun _ _ => rfl⟩
theorem lkM.trans (h1 : lkM G G1 m) (h2 : lkM G1 G2 m) : lkM G G2 m := ⟨fun x a b c d e => (h2.1 x a b c d e).trans (h1.1 x a b c d e), fun j a b c => (h2.2.1 j a b c).trans (h1.2.1 j a b c), fun k hk => (h2.2.2 k hk).trans (h1.2.2 k hk)⟩
theorem lkM_i : lkM G (iG G m y) m := ⟨fun x a b c d e => iG_q a, fun j a b c => iG_j a b, fun k hk => by rw [iG_q (by omega)]⟩
theorem lkM_0 : lkM G (u2 G m 0 y) m := ⟨fun x a b c d e => u2_a _ _ _ _ a, fun j a b c => u2_i _ _ _ _ a, fun k hk => by rw [u2_a _ _ _ _ (by omega)]⟩
theorem lkM_ly : lkM G (lyG G m P M) m := ⟨fun x a b c d e => lyG_q a c, fun j a b c => lyG_j c, fun k hk => by rw [lyG_q (by omega) (by omega)]⟩
theorem lkM_h {q : Nat} (hq : q = m + 7 ∨ q = m + 8 ∨ q = m + 9) (h : ∀ x, x ≠ q → G1 x = G x) : lkM G G1 m := ⟨fun x a b c d e => h x (by omega), fun j a b c => by rw [h m (by omega)], fun k hk => by rw [h (m + 1) (by omega)]⟩
theorem m_isIn (hx : I64 x) (hl : I64 lo) (hh : I64 hi) : RK MX10_isIn 0 [.long (zl x), jk, .long (zl lo), jk, .long (zl hi), jk] [] (0, 0) h Q = Q h (.int (zi (bI (lo ≤ x ∧ x ≤ hi)))) := by
  simp (disch := first | assumption | exact c2_int _ | exact c2_ref _ | exact c2_jk | exact c2_null | omega | exact bI_r _ | exact bI_01 _) only [↓fX10_isIn_0, ↓fX10_isIn_1, ↓fX10_isIn_2, ↓fX10_isIn_6, ↓fX10_isIn_7, ↓fX10_isIn_9, ↓fX10_isIn_13, ↓fX10_isIn_14, ↓fX10_isIn_17, ↓fX10_isIn_18]
  unfold bI
  by_cases h1 : x < lo
  · rw [if_pos h1, if_neg (by omega)]
  · by_cases h2 : x ≤ hi
    · rw [if_neg h1, if_pos h2, if_pos (by omega)]
    · rw [if_neg h1, if_neg h2, if_neg (by omega)]
theorem m_is (hm : shM E r m) (hy : I32 y) : RK MX10_is 0 [.ref m, .int (zi y)] [] (0, 0) (E, zg G, zk L, r) Q = Q (E, zg (iG G m y), zk L, r) (.int (zi (bI (y = 0)))) := by
  have m0 := hm.1
  simp (disch := first | assumption | exact c2_int _ | exact c2_ref _ | exact c2_jk | exact c2_null | omega | exact bI_r _ | exact bI_01 _) only [↓fX10_is_0, ↓fX10_is_1, ↓fX10_is_2, ↓fX10_is_5, ↓fX10_is_6, ↓fX10_is_7, ↓fX10_is_10, ↓fX10_is_11, ↓fX10_is_14, ↓fX10_is_15, ↓fX10_is_18, ↓fX10_is_19]
  exact Q_bI Q _
theorem m_refuse (hm : shM E r m) : RK MX10_refuse 0 [.ref m, .int (zi y)] [] (0, 0) (E, zg G, zk L, r) Q = Q (E, zg (u2 G m 0 y), zk L, r) (.int (zi (-1))) := by
  have m0 := hm.1
  simp (disch := first | assumption | exact c2_int _ | exact c2_ref _ | exact c2_jk | exact c2_null | omega | exact bI_r _ | exact bI_01 _) only [↓fX10_refuse_0, ↓fX10_refuse_1, ↓fX10_refuse_2, ↓fX10_refuse_5, ↓fX10_refuse_6]
theorem m_isSieve (hm : shM E r m) (hs : I32 s) (h6 : 0 ≤ G m 6 ∧ G m 6 ≤ 4) : RK MX10_isSieve 0 [.ref m, .int (zi s)] [] (0, 0) (E, zg G, zk L, r) Q = Q (E, zg G, zk L, r) (.int (zi (bI (0 ≤ s ∧ s ≤ G m 6 - 1)))) := by
  have m0 := hm.1
  simp (disch := first | assumption | exact c2_int _ | exact c2_ref _ | exact c2_jk | exact c2_null | omega | exact bI_r _ | exact bI_01 _) only [↓fX10_isSieve_0, ↓fX10_isSieve_1, ↓fX10_isSieve_2, ↓fX10_isSieve_3, ↓fX10_isSieve_4, ↓fX10_isSieve_7, ↓fX10_isSieve_8, ↓fX10_isSieve_9, ↓fX10_isSieve_10, ↓fX10_isSieve_13, ↓m_isIn]
theorem m_of0 (hm : shM E r m) (hs : 0 ≤ 1824 * s + w ∧ 1824 * s + w < 9120) : RK MX10_of 0 [.ref m, .int (zi s), .int (zi w)] [] (0, 0) (E, zg G, zk L, r) Q = Q (E, zg G, zk L, r) (.int (zi (G (m + 1) (1824 * s + w).toNat))) := by
  have m0 := hm.1
  obtain ⟨k1, l1, r1⟩ := hm.2.1
  simp (disch := first | assumption | exact c2_int _ | exact c2_ref _ | exact c2_jk | exact c2_null | omega | exact bI_r _ | exact bI_01 _) only [↓fX10_of_0, ↓fX10_of_1, ↓fX10_of_4, ↓fX10_of_7, ↓fX10_of_8, ↓fX10_of_9, ↓fX10_of_10, ↓fX10_of_11, ↓fX10_of_12]
theorem m_of (hm : shM E r m) (hs : 0 ≤ s ∧ s ≤ 4) (hw : 0 ≤ w ∧ w < 1824) (hl : SL G m s σ) : RK MX10_of 0 [.ref m, .int (zi s), .int (zi w)] [] (0, 0) (E, zg G, zk L, r) Q = Q (E, zg G, zk L, r) (.int (zi (σ w.toNat))) := by
  have e := hl w.toNat (by omega)
  rw [Int.toNat_of_nonneg hw.1] at e
  rw [m_of0 hm (by omega), e]
theorem m_goneAt (hm : shM E r m) (hs : 0 ≤ s ∧ s ≤ 4) (hw : 0 ≤ i ∧ i < 600) (hl : SL G m s σ) : RK MX10_goneAt 0 [.ref m, .int (zi s), .int (zi i)] [] (0, 0) (E, zg G, zk L, r) Q = Q (E, zg G, zk L, r) (.int (zi (σ (20 + i.toNat)))) := by
  have m0 := hm.1
  obtain ⟨k1, l1, r1⟩ := hm.2.1
  have e := hl (20 + i.toNat) (by omega)
  rw [show (1824 * s + ((20 + i.toNat : Nat) : Int)).toNat = (1824 * s + 20 + i).toNat by omega] at e
  simp (disch := first | assumption | exact c2_int _ | exact c2_ref _ | exact c2_jk | exact c2_null | omega | exact bI_r _ | exact bI_01 _) only [↓fX10_goneAt_0, ↓fX10_goneAt_1, ↓fX10_goneAt_4, ↓fX10_goneAt_7, ↓fX10_goneAt_8, ↓fX10_goneAt_9, ↓fX10_goneAt_11, ↓fX10_goneAt_12, ↓fX10_goneAt_13, ↓fX10_goneAt_14, ↓fX10_goneAt_15, e]
theorem m_numberAt (hm : shM E r m) (hs : 0 ≤ s ∧ s ≤ 4) (hl : SL G m s σ) : RK MX10_numberAt 0 [.ref m, .int (zi s), .int (zi i)] [] (0, 0) (E, zg G, zk L, r) Q = Q (E, zg G, zk L, r) (.int (zi (σ 1 + σ 2 * i))) := by
  have m0 := hm.1
  simp (disch := first | assumption | exact c2_int _ | exact c2_ref _ | exact c2_jk | exact c2_null | omega | exact bI_r _ | exact bI_01 _) only [↓fX10_numberAt_0, ↓fX10_numberAt_1, ↓fX10_numberAt_2, ↓fX10_numberAt_3, ↓fX10_numberAt_6, ↓fX10_numberAt_7, ↓fX10_numberAt_8, ↓fX10_numberAt_9, ↓fX10_numberAt_10, ↓fX10_numberAt_13, ↓fX10_numberAt_14, ↓fX10_numberAt_15, ↓m_of, Int.reduceToNat]
  rw [Int.mul_comm]
theorem m_indexOf (hm : shM E r m) (hs : 0 ≤ s ∧ s ≤ 4) (hl : SL G m s σ) (hW : WF σ) (hx : I32 x) : RK MX10_indexOf 0 [.ref m, .int (zi s), .int (zi x), jk] [] (0, 0) (E, zg G, zk L, r) Q = Q (E, zg G, zk L, r) (.int (zi (iXS σ x))) := by
  have m0 := hm.1
  obtain ⟨w0, w1, w2, w3, -⟩ := hW
  unfold iXS
  by_cases c1 : x < 0
  · rw [if_pos (by omega)]
    simp (disch := first | assumption | exact c2_int _ | exact c2_ref _ | exact c2_jk | exact c2_null | omega | exact bI_r _ | exact bI_01 _) only [↓fX10_indexOf_0, ↓fX10_indexOf_1, ↓fX10_indexOf_2, ↓fX10_indexOf_3, ↓fX10_indexOf_4, ↓fX10_indexOf_7, ↓fX10_indexOf_8, ↓fX10_indexOf_9, ↓fX10_indexOf_10, ↓fX10_indexOf_13, ↓fX10_indexOf_14, ↓fX10_indexOf_17, ↓fX10_indexOf_18, ↓fX10_indexOf_19, ↓fX10_indexOf_20, ↓fX10_indexOf_21, ↓fX10_indexOf_24, ↓fX10_indexOf_25, ↓fX10_indexOf_28, ↓fX10_indexOf_29, ↓fX10_indexOf_30, ↓fX10_indexOf_31, ↓fX10_indexOf_32, ↓fX10_indexOf_35, ↓fX10_indexOf_36, ↓fX10_indexOf_37, ↓fX10_indexOf_38, ↓fX10_indexOf_39, ↓fX10_indexOf_42, ↓fX10_indexOf_45, ↓fX10_indexOf_46, ↓fX10_indexOf_47, ↓fX10_indexOf_48, ↓fX10_indexOf_49, ↓fX10_indexOf_52, ↓fX10_indexOf_53, ↓fX10_indexOf_56, ↓fX10_indexOf_57, ↓m_of, Int.reduceToNat, c1, and_self, true_and, and_true, false_and, and_false, not_true_eq_false, not_false_eq_true, or_self, true_or, or_true, false_or, or_false, ite_not, Decidable.not_not, decide_eq_true_eq, Bool.not_true, Bool.not_false, Bool.false_eq_true, Bool.not_eq_true, n10, n20, n21, n30, n31, n32, n40, n41, n42, n43, ↓reduceIte]
  · by_cases c2 : x < σ 1
    · have c3 : x - σ 1 < 0 := by omega
      rw [if_pos c2]
      simp (disch := first | assumption | exact c2_int _ | exact c2_ref _ | exact c2_jk | exact c2_null | omega | exact bI_r _ | exact bI_01 _) only [↓fX10_indexOf_0, ↓fX10_indexOf_1, ↓fX10_indexOf_2, ↓fX10_indexOf_3, ↓fX10_indexOf_4, ↓fX10_indexOf_7, ↓fX10_indexOf_8, ↓fX10_indexOf_9, ↓fX10_indexOf_10, ↓fX10_indexOf_13, ↓fX10_indexOf_14, ↓fX10_indexOf_17, ↓fX10_indexOf_18, ↓fX10_indexOf_19, ↓fX10_indexOf_20, ↓fX10_indexOf_21, ↓fX10_indexOf_24, ↓fX10_indexOf_25, ↓fX10_indexOf_28, ↓fX10_indexOf_29, ↓fX10_indexOf_30, ↓fX10_indexOf_31, ↓fX10_indexOf_32, ↓fX10_indexOf_35, ↓fX10_indexOf_36, ↓fX10_indexOf_37, ↓fX10_indexOf_38, ↓fX10_indexOf_39, ↓fX10_indexOf_42, ↓fX10_indexOf_45, ↓fX10_indexOf_46, ↓fX10_indexOf_47, ↓fX10_indexOf_48, ↓fX10_indexOf_49, ↓fX10_indexOf_52, ↓fX10_indexOf_53, ↓fX10_indexOf_56, ↓fX10_indexOf_57, ↓m_of, Int.reduceToNat, c1, c3, and_self, true_and, and_true, false_and, and_false, not_true_eq_false, not_false_eq_true, or_self, true_or, or_true, false_or, or_false, ite_not, Decidable.not_not, decide_eq_true_eq, Bool.not_true, Bool.not_false, Bool.false_eq_true, Bool.not_eq_true, n10, n20, n21, n30, n31, n32, n40, n41, n42, n43, ↓reduceIte]
    · have c3 : ¬ x - σ 1 < 0 := by omega
      have hd : 0 ≤ (x - σ 1) / σ 2 := Int.ediv_nonneg (by omega) (by omega)
      have hd2 : (x - σ 1) / σ 2 ≤ x - σ 1 := Int.ediv_le_self _ (by omega)
      have hm0 : 0 ≤ (x - σ 1) % σ 2 := Int.emod_nonneg _ (by omega)
      have hm2 : (x - σ 1) % σ 2 < σ 2 := Int.emod_lt_of_pos _ (by omega)
      rw [if_neg c2]
      by_cases c4 : (x - σ 1) % σ 2 = 0
      · by_cases c5 : (x - σ 1) / σ 2 < σ 3
        · rw [if_neg (by omega)]
          simp (disch := first | assumption | exact c2_int _ | exact c2_ref _ | exact c2_jk | exact c2_null | omega | exact bI_r _ | exact bI_01 _) only [↓fX10_indexOf_0, ↓fX10_indexOf_1, ↓fX10_indexOf_2, ↓fX10_indexOf_3, ↓fX10_indexOf_4, ↓fX10_indexOf_7, ↓fX10_indexOf_8, ↓fX10_indexOf_9, ↓fX10_indexOf_10, ↓fX10_indexOf_13, ↓fX10_indexOf_14, ↓fX10_indexOf_17, ↓fX10_indexOf_18, ↓fX10_indexOf_19, ↓fX10_indexOf_20, ↓fX10_indexOf_21, ↓fX10_indexOf_24, ↓fX10_indexOf_25, ↓fX10_indexOf_28, ↓fX10_indexOf_29, ↓fX10_indexOf_30, ↓fX10_indexOf_31, ↓fX10_indexOf_32, ↓fX10_indexOf_35, ↓fX10_indexOf_36, ↓fX10_indexOf_37, ↓fX10_indexOf_38, ↓fX10_indexOf_39, ↓fX10_indexOf_42, ↓fX10_indexOf_45, ↓fX10_indexOf_46, ↓fX10_indexOf_47, ↓fX10_indexOf_48, ↓fX10_indexOf_49, ↓fX10_indexOf_52, ↓fX10_indexOf_53, ↓fX10_indexOf_56, ↓fX10_indexOf_57, ↓m_of, Int.reduceToNat, c1, c3, c4, c5, and_self, true_and, and_true, false_and, and_false, not_true_eq_false, not_false_eq_true, or_self, true_or, or_true, false_or, or_false, ite_not, Decidable.not_not, decide_eq_true_eq, Bool.not_true, Bool.not_false, Bool.false_eq_true, Bool.not_eq_true, n10, n20, n21, n30, n31, n32, n40, n41, n42, n43, ↓reduceIte]
        · rw [if_pos (by omega)]
          simp (disch := first | assumption | exact c2_int _ | exact c2_ref _ | exact c2_jk | exact c2_null | omega | exact bI_r _ | exact bI_01 _) only [↓fX10_indexOf_0, ↓fX10_indexOf_1, ↓fX10_indexOf_2, ↓fX10_indexOf_3, ↓fX10_indexOf_4, ↓fX10_indexOf_7, ↓fX10_indexOf_8, ↓fX10_indexOf_9, ↓fX10_indexOf_10, ↓fX10_indexOf_13, ↓fX10_indexOf_14, ↓fX10_indexOf_17, ↓fX10_indexOf_18, ↓fX10_indexOf_19, ↓fX10_indexOf_20, ↓fX10_indexOf_21, ↓fX10_indexOf_24, ↓fX10_indexOf_25, ↓fX10_indexOf_28, ↓fX10_indexOf_29, ↓fX10_indexOf_30, ↓fX10_indexOf_31, ↓fX10_indexOf_32, ↓fX10_indexOf_35, ↓fX10_indexOf_36, ↓fX10_indexOf_37, ↓fX10_indexOf_38, ↓fX10_indexOf_39, ↓fX10_indexOf_42, ↓fX10_indexOf_45, ↓fX10_indexOf_46, ↓fX10_indexOf_47, ↓fX10_indexOf_48, ↓fX10_indexOf_49, ↓fX10_indexOf_52, ↓fX10_indexOf_53, ↓fX10_indexOf_56, ↓fX10_indexOf_57, ↓m_of, Int.reduceToNat, c1, c3, c4, c5, and_self, true_and, and_true, false_and, and_false, not_true_eq_false, not_false_eq_true, or_self, true_or, or_true, false_or, or_false, ite_not, Decidable.not_not, decide_eq_true_eq, Bool.not_true, Bool.not_false, Bool.false_eq_true, Bool.not_eq_true, n10, n20, n21, n30, n31, n32, n40, n41, n42, n43, ↓reduceIte]
      · rw [if_pos (Or.inr c4)]
        simp (disch := first | assumption | exact c2_int _ | exact c2_ref _ | exact c2_jk | exact c2_null | omega | exact bI_r _ | exact bI_01 _) only [↓fX10_indexOf_0, ↓fX10_indexOf_1, ↓fX10_indexOf_2, ↓fX10_indexOf_3, ↓fX10_indexOf_4, ↓fX10_indexOf_7, ↓fX10_indexOf_8, ↓fX10_indexOf_9, ↓fX10_indexOf_10, ↓fX10_indexOf_13, ↓fX10_indexOf_14, ↓fX10_indexOf_17, ↓fX10_indexOf_18, ↓fX10_indexOf_19, ↓fX10_indexOf_20, ↓fX10_indexOf_21, ↓fX10_indexOf_24, ↓fX10_indexOf_25, ↓fX10_indexOf_28, ↓fX10_indexOf_29, ↓fX10_indexOf_30, ↓fX10_indexOf_31, ↓fX10_indexOf_32, ↓fX10_indexOf_35, ↓fX10_indexOf_36, ↓fX10_indexOf_37, ↓fX10_indexOf_38, ↓fX10_indexOf_39, ↓fX10_indexOf_42, ↓fX10_indexOf_45, ↓fX10_indexOf_46, ↓fX10_indexOf_47, ↓fX10_indexOf_48, ↓fX10_indexOf_49, ↓fX10_indexOf_52, ↓fX10_indexOf_53, ↓fX10_indexOf_56, ↓fX10_indexOf_57, ↓m_of, Int.reduceToNat, c1, c3, c4, and_self, true_and, and_true, false_and, and_false, not_true_eq_false, not_false_eq_true, or_self, true_or, or_true, false_or, or_false, ite_not, Decidable.not_not, decide_eq_true_eq, Bool.not_true, Bool.not_false, Bool.false_eq_true, Bool.not_eq_true, n10, n20, n21, n30, n31, n32, n40, n41, n42, n43, ↓reduceIte]
theorem m_isThere (hm : shM E r m) (hs : 0 ≤ s ∧ s ≤ 4) (hl : SL G m s σ) (hW : WF σ) (hx : I32 x) : RK MX10_isThere 0 [.ref m, .int (zi s), .int (zi x), jk] [] (0, 0) (E, zg G, zk L, r) Q = Q (E, zg G, zk L, r) (.int (zi (bI (hasS σ x = true)))) := by
  have m0 := hm.1
  have b := iXS_b hW x
  have w3 := hW.2.2.2.1
  have w9 := hW.2.2.2.2.2.2.2.2.2.1
  have w5 := WF_5 hW
  unfold hasS
  by_cases c1 : iXS σ x < 0
  · have e : (decide (0 ≤ iXS σ x) && hbS σ (iXS σ x)) = false := by rw [decide_eq_false (by omega)]; rfl
    rw [e, bI_n (by decide)]
    simp (disch := first | assumption | exact c2_int _ | exact c2_ref _ | exact c2_jk | exact c2_null | omega | exact bI_r _ | exact bI_01 _) only [↓fX10_isThere_0, ↓fX10_isThere_1, ↓fX10_isThere_2, ↓fX10_isThere_3, ↓fX10_isThere_6, ↓fX10_isThere_7, ↓fX10_isThere_8, ↓fX10_isThere_11, ↓fX10_isThere_12, ↓fX10_isThere_13, ↓fX10_isThere_14, ↓fX10_isThere_17, ↓fX10_isThere_20, ↓fX10_isThere_21, ↓fX10_isThere_24, ↓fX10_isThere_25, ↓m_indexOf, c1, and_self, true_and, and_true, false_and, and_false, not_true_eq_false, not_false_eq_true, or_self, true_or, or_true, false_or, or_false, ite_not, Decidable.not_not, decide_eq_true_eq, Bool.not_true, Bool.not_false, Bool.false_eq_true, Bool.not_eq_true, n10, n20, n21, n30, n31, n32, n40, n41, n42, n43, ↓reduceIte]
  · have e : (decide (0 ≤ iXS σ x) && hbS σ (iXS σ x)) = hbS σ (iXS σ x) := by rw [decide_eq_true (by omega)]; rfl
    have b9 := w9 (iXS σ x).toNat (by omega)
    have b9' : I32 (σ (20 + (iXS σ x).toNat)) := ⟨by omega, by omega⟩
    rw [e]
    unfold hbS
    by_cases c2 : σ (20 + (iXS σ x).toNat) = 0
    · rw [c2, bI_p (by decide)]
      simp (disch := first | assumption | exact c2_int _ | exact c2_ref _ | exact c2_jk | exact c2_null | omega | exact bI_r _ | exact bI_01 _) only [↓fX10_isThere_0, ↓fX10_isThere_1, ↓fX10_isThere_2, ↓fX10_isThere_3, ↓fX10_isThere_6, ↓fX10_isThere_7, ↓fX10_isThere_8, ↓fX10_isThere_11, ↓fX10_isThere_12, ↓fX10_isThere_13, ↓fX10_isThere_14, ↓fX10_isThere_17, ↓fX10_isThere_20, ↓fX10_isThere_21, ↓fX10_isThere_24, ↓fX10_isThere_25, ↓m_indexOf, ↓m_goneAt, c1, c2, and_self, true_and, and_true, false_and, and_false, not_true_eq_false, not_false_eq_true, or_self, true_or, or_true, false_or, or_false, ite_not, Decidable.not_not, decide_eq_true_eq, Bool.not_true, Bool.not_false, Bool.false_eq_true, Bool.not_eq_true, n10, n20, n21, n30, n31, n32, n40, n41, n42, n43, ↓reduceIte]
    · rw [bI_n (by simpa using c2)]
      simp (disch := first | assumption | exact c2_int _ | exact c2_ref _ | exact c2_jk | exact c2_null | omega | exact bI_r _ | exact bI_01 _) only [↓fX10_isThere_0, ↓fX10_isThere_1, ↓fX10_isThere_2, ↓fX10_isThere_3, ↓fX10_isThere_6, ↓fX10_isThere_7, ↓fX10_isThere_8, ↓fX10_isThere_11, ↓fX10_isThere_12, ↓fX10_isThere_13, ↓fX10_isThere_14, ↓fX10_isThere_17, ↓fX10_isThere_20, ↓fX10_isThere_21, ↓fX10_isThere_24, ↓fX10_isThere_25, ↓m_indexOf, ↓m_goneAt, c1, c2, and_self, true_and, and_true, false_and, and_false, not_true_eq_false, not_false_eq_true, or_self, true_or, or_true, false_or, or_false, ite_not, Decidable.not_not, decide_eq_true_eq, Bool.not_true, Bool.not_false, Bool.false_eq_true, Bool.not_eq_true, n10, n20, n21, n30, n31, n32, n40, n41, n42, n43, ↓reduceIte]
theorem ly_put (hc : P (M : Int) = true) : u2 (u2 (lyG G m P M) (m + 7) (ctN P M).toNat (M : Int)) m 12 (ctN P M + 1) = lyG G m P (M + 1) := by
  have hb := ctN_b P M
  funext q j
  show (if q = m ∧ j = 12 then _ else if q = m + 7 ∧ j = (ctN P M).toNat then _ else if q = m + 7 ∧ (j : Int) < ctN P M then _ else if q = m ∧ j = 12 then _ else _) = if q = m + 7 ∧ (j : Int) < ctN P (M + 1) then _ else if q = m ∧ j = 12 then _ else _
  rw [ctN, if_pos hc]
  by_cases h1 : q = m ∧ j = 12
  · rw [if_pos h1, if_neg (by omega), if_pos h1]
  · rw [if_neg h1, if_neg h1, if_neg h1]
    by_cases h2 : q = m + 7 ∧ j = (ctN P M).toNat
    · rw [if_pos h2, if_pos (by omega), show (j : Int) = ctN P M by omega, ixN_new P hc]
    · rw [if_neg h2]
      by_cases h3 : q = m + 7 ∧ (j : Int) < ctN P M
      · rw [if_pos h3, if_pos (by omega), ixN_st P (by omega)]
      · rw [if_neg h3, if_neg (by omega)]
theorem ly_skip (hc : P (M : Int) = false) : lyG G m P M = lyG G m P (M + 1) := by
  funext q j
  unfold lyG
  rw [show ctN P (M + 1) = ctN P M by rw [ctN, hc]; simp]
  by_cases h1 : q = m + 7 ∧ (j : Int) < ctN P M
  · rw [if_pos h1, if_pos h1, ixN_st P (by omega)]
  · rw [if_neg h1, if_neg h1]
theorem m_lays_loop (hm : shM E r m) (hs : 0 ≤ s ∧ s ≤ 4) (hl : SL G m s σ) (hW : WF σ) (ht : I32 t) (hb : b = 0 ∨ b = 1) : ∀ (k : Nat) (i : Nat) (l5 : Value), (σ 3).toNat - i ≤ k → i ≤ (σ 3).toNat →
    RK MX10_lays 8 [.ref m, .int (zi s), .int (zi t), .int (zi b), .int (zi (i : Int)), l5] [] (0, 0) (E, zg (lyG G m (lyP σ t b) i), zk L, r) Q = Q (E, zg (lyG G m (lyP σ t b) (σ 3).toNat), zk L, r) .null := by
  have m0 := hm.1
  obtain ⟨k7, l7, r7⟩ := hm.2.2.2.2.2.2.2.1
  have w3 := hW.2.2.2.1
  have w9 := hW.2.2.2.2.2.2.2.2.2.1
  have w5 := WF_5 hW
  intro k
  induction k with
  | zero =>
    intro i l5 h1 h2
    have e : i = (σ 3).toNat := by omega
    have h6 : ¬ (i : Int) < σ 3 := by omega
    have hl' := SL_ly (P := lyP σ t b) (M := i) hl
    rw [← e]
    simp (disch := first | assumption | exact c2_int _ | exact c2_ref _ | exact c2_jk | exact c2_null | omega | exact bI_r _ | exact bI_01 _) only [↓fX10_lays_0, ↓fX10_lays_1, ↓fX10_lays_2, ↓fX10_lays_5, ↓fX10_lays_6, ↓fX10_lays_8, ↓fX10_lays_10, ↓fX10_lays_11, ↓fX10_lays_12, ↓fX10_lays_13, ↓fX10_lays_16, ↓fX10_lays_19, ↓fX10_lays_20, ↓fX10_lays_21, ↓fX10_lays_23, ↓fX10_lays_26, ↓fX10_lays_28, ↓fX10_lays_30, ↓fX10_lays_33, ↓fX10_lays_34, ↓fX10_lays_37, ↓fX10_lays_39, ↓fX10_lays_40, ↓fX10_lays_43, ↓fX10_lays_44, ↓fX10_lays_47, ↓fX10_lays_49, ↓fX10_lays_50, ↓fX10_lays_53, ↓fX10_lays_56, ↓fX10_lays_57, ↓fX10_lays_60, ↓fX10_lays_61, ↓fX10_lays_64, ↓fX10_lays_66, ↓fX10_lays_67, ↓fX10_lays_68, ↓fX10_lays_69, ↓fX10_lays_72, ↓fX10_lays_73, ↓fX10_lays_74, ↓fX10_lays_77, ↓fX10_lays_80, ↓fX10_lays_83, ↓m_of, Int.reduceToNat, h6, and_self, true_and, and_true, false_and, and_false, not_true_eq_false, not_false_eq_true, or_self, true_or, or_true, false_or, or_false, ite_not, Decidable.not_not, decide_eq_true_eq, Bool.not_true, Bool.not_false, Bool.false_eq_true, Bool.not_eq_true, n10, n20, n21, n30, n31, n32, n40, n41, n42, n43, ↓reduceIte]
  | succ k ih =>
    intro i l5 h1 h2
    by_cases h6 : (i : Int) < σ 3
    · have hl' := SL_ly (P := lyP σ t b) (M := i) hl
      have b9 := w9 i h6
      have ei : (i : Int).toNat = i := Int.toNat_natCast i
      have b9' : I32 (σ (20 + i)) := ⟨by omega, by omega⟩
      have hc := ctN_b (lyP σ t b) i
      have e12 : lyG G m (lyP σ t b) i m 12 = ctN (lyP σ t b) i := lyG_12
      have e12' : u2 (lyG G m (lyP σ t b) i) (m + 7) (ctN (lyP σ t b) i).toNat (i : Int) m 12 = ctN (lyP σ t b) i := by rw [u2_a _ _ _ _ (by omega), e12]
      have ih' := fun l5 => ih (i + 1) l5 (by omega) (by omega)
      rw [Int.natCast_add] at ih'
      have ih'' : ∀ l5, RK MX10_lays 8 [.ref m, .int (zi s), .int (zi t), .int (zi b), .int (zi ((i : Int) + 1)), l5] [] (0, 0) (E, zg (lyG G m (lyP σ t b) (i + 1)), zk L, r) Q = Q (E, zg (lyG G m (lyP σ t b) (σ 3).toNat), zk L, r) .null := ih'
      by_cases hp : lyP σ t b (i : Int) = true
      · have ep := ly_put (G := G) (m := m) hp
        rw [← ep] at ih''
        have hp' := hp
        unfold lyP at hp'
        rw [decide_eq_true_eq, ei] at hp'
        rw [fX10_lays_8]
        by_cases c1 : σ (20 + i) = 0
        · simp (disch := first | assumption | exact c2_int _ | exact c2_ref _ | exact c2_jk | exact c2_null | omega | exact bI_r _ | exact bI_01 _) only [↓fX10_lays_0, ↓fX10_lays_1, ↓fX10_lays_2, ↓fX10_lays_5, ↓fX10_lays_6, ↓fX10_lays_10, ↓fX10_lays_11, ↓fX10_lays_12, ↓fX10_lays_13, ↓fX10_lays_16, ↓fX10_lays_19, ↓fX10_lays_20, ↓fX10_lays_21, ↓fX10_lays_23, ↓fX10_lays_26, ↓fX10_lays_28, ↓fX10_lays_30, ↓fX10_lays_33, ↓fX10_lays_34, ↓fX10_lays_37, ↓fX10_lays_39, ↓fX10_lays_40, ↓fX10_lays_43, ↓fX10_lays_44, ↓fX10_lays_47, ↓fX10_lays_49, ↓fX10_lays_50, ↓fX10_lays_53, ↓fX10_lays_56, ↓fX10_lays_57, ↓fX10_lays_60, ↓fX10_lays_61, ↓fX10_lays_64, ↓fX10_lays_66, ↓fX10_lays_67, ↓fX10_lays_68, ↓fX10_lays_69, ↓fX10_lays_72, ↓fX10_lays_73, ↓fX10_lays_74, ↓fX10_lays_77, ↓fX10_lays_80, ↓fX10_lays_83, ↓m_of, ↓m_goneAt, Int.reduceToNat, ei, e12, e12', h6, c1, ↓ih'', and_self, true_and, and_true, false_and, and_false, not_true_eq_false, not_false_eq_true, or_self, true_or, or_true, false_or, or_false, ite_not, Decidable.not_not, decide_eq_true_eq, Bool.not_true, Bool.not_false, Bool.false_eq_true, Bool.not_eq_true, n10, n20, n21, n30, n31, n32, n40, n41, n42, n43, ↓reduceIte]
        · have c2 : ¬ t = 0 := by omega
          have c3 : ¬ σ (20 + i) < t := by omega
          by_cases c4 : b = 0
          · subst c4
            simp (disch := first | assumption | exact c2_int _ | exact c2_ref _ | exact c2_jk | exact c2_null | omega | exact bI_r _ | exact bI_01 _) only [↓fX10_lays_0, ↓fX10_lays_1, ↓fX10_lays_2, ↓fX10_lays_5, ↓fX10_lays_6, ↓fX10_lays_10, ↓fX10_lays_11, ↓fX10_lays_12, ↓fX10_lays_13, ↓fX10_lays_16, ↓fX10_lays_19, ↓fX10_lays_20, ↓fX10_lays_21, ↓fX10_lays_23, ↓fX10_lays_26, ↓fX10_lays_28, ↓fX10_lays_30, ↓fX10_lays_33, ↓fX10_lays_34, ↓fX10_lays_37, ↓fX10_lays_39, ↓fX10_lays_40, ↓fX10_lays_43, ↓fX10_lays_44, ↓fX10_lays_47, ↓fX10_lays_49, ↓fX10_lays_50, ↓fX10_lays_53, ↓fX10_lays_56, ↓fX10_lays_57, ↓fX10_lays_60, ↓fX10_lays_61, ↓fX10_lays_64, ↓fX10_lays_66, ↓fX10_lays_67, ↓fX10_lays_68, ↓fX10_lays_69, ↓fX10_lays_72, ↓fX10_lays_73, ↓fX10_lays_74, ↓fX10_lays_77, ↓fX10_lays_80, ↓fX10_lays_83, ↓m_of, ↓m_goneAt, Int.reduceToNat, ei, e12, e12', h6, c1, c2, c3, ↓ih'', and_self, true_and, and_true, false_and, and_false, not_true_eq_false, not_false_eq_true, or_self, true_or, or_true, false_or, or_false, ite_not, Decidable.not_not, decide_eq_true_eq, Bool.not_true, Bool.not_false, Bool.false_eq_true, Bool.not_eq_true, n10, n20, n21, n30, n31, n32, n40, n41, n42, n43, ↓reduceIte]
          · have c5 : ¬ σ (20 + i) = t := by omega
            simp (disch := first | assumption | exact c2_int _ | exact c2_ref _ | exact c2_jk | exact c2_null | omega | exact bI_r _ | exact bI_01 _) only [↓fX10_lays_0, ↓fX10_lays_1, ↓fX10_lays_2, ↓fX10_lays_5, ↓fX10_lays_6, ↓fX10_lays_10, ↓fX10_lays_11, ↓fX10_lays_12, ↓fX10_lays_13, ↓fX10_lays_16, ↓fX10_lays_19, ↓fX10_lays_20, ↓fX10_lays_21, ↓fX10_lays_23, ↓fX10_lays_26, ↓fX10_lays_28, ↓fX10_lays_30, ↓fX10_lays_33, ↓fX10_lays_34, ↓fX10_lays_37, ↓fX10_lays_39, ↓fX10_lays_40, ↓fX10_lays_43, ↓fX10_lays_44, ↓fX10_lays_47, ↓fX10_lays_49, ↓fX10_lays_50, ↓fX10_lays_53, ↓fX10_lays_56, ↓fX10_lays_57, ↓fX10_lays_60, ↓fX10_lays_61, ↓fX10_lays_64, ↓fX10_lays_66, ↓fX10_lays_67, ↓fX10_lays_68, ↓fX10_lays_69, ↓fX10_lays_72, ↓fX10_lays_73, ↓fX10_lays_74, ↓fX10_lays_77, ↓fX10_lays_80, ↓fX10_lays_83, ↓m_of, ↓m_goneAt, Int.reduceToNat, ei, e12, e12', h6, c1, c2, c3, c4, c5, ↓ih'', and_self, true_and, and_true, false_and, and_false, not_true_eq_false, not_false_eq_true, or_self, true_or, or_true, false_or, or_false, ite_not, Decidable.not_not, decide_eq_true_eq, Bool.not_true, Bool.not_false, Bool.false_eq_true, Bool.not_eq_true, n10, n20, n21, n30, n31, n32, n40, n41, n42, n43, ↓reduceIte]
      · have hp0 : lyP σ t b (i : Int) = false := by simpa using hp
        have ep := ly_skip (G := G) (m := m) hp0
        rw [← ep] at ih''
        have hp' := hp
        unfold lyP at hp'
        rw [decide_eq_true_eq, ei] at hp'
        have c1 : ¬ σ (20 + i) = 0 := by omega
        rw [fX10_lays_8]
        by_cases c2 : t = 0
        · subst c2
          simp (disch := first | assumption | exact c2_int _ | exact c2_ref _ | exact c2_jk | exact c2_null | omega | exact bI_r _ | exact bI_01 _) only [↓fX10_lays_0, ↓fX10_lays_1, ↓fX10_lays_2, ↓fX10_lays_5, ↓fX10_lays_6, ↓fX10_lays_10, ↓fX10_lays_11, ↓fX10_lays_12, ↓fX10_lays_13, ↓fX10_lays_16, ↓fX10_lays_19, ↓fX10_lays_20, ↓fX10_lays_21, ↓fX10_lays_23, ↓fX10_lays_26, ↓fX10_lays_28, ↓fX10_lays_30, ↓fX10_lays_33, ↓fX10_lays_34, ↓fX10_lays_37, ↓fX10_lays_39, ↓fX10_lays_40, ↓fX10_lays_43, ↓fX10_lays_44, ↓fX10_lays_47, ↓fX10_lays_49, ↓fX10_lays_50, ↓fX10_lays_53, ↓fX10_lays_56, ↓fX10_lays_57, ↓fX10_lays_60, ↓fX10_lays_61, ↓fX10_lays_64, ↓fX10_lays_66, ↓fX10_lays_67, ↓fX10_lays_68, ↓fX10_lays_69, ↓fX10_lays_72, ↓fX10_lays_73, ↓fX10_lays_74, ↓fX10_lays_77, ↓fX10_lays_80, ↓fX10_lays_83, ↓m_of, ↓m_goneAt, Int.reduceToNat, ei, h6, c1, ↓ih'', and_self, true_and, and_true, false_and, and_false, not_true_eq_false, not_false_eq_true, or_self, true_or, or_true, false_or, or_false, ite_not, Decidable.not_not, decide_eq_true_eq, Bool.not_true, Bool.not_false, Bool.false_eq_true, Bool.not_eq_true, n10, n20, n21, n30, n31, n32, n40, n41, n42, n43, ↓reduceIte]
        · by_cases c3 : σ (20 + i) < t
          · simp (disch := first | assumption | exact c2_int _ | exact c2_ref _ | exact c2_jk | exact c2_null | omega | exact bI_r _ | exact bI_01 _) only [↓fX10_lays_0, ↓fX10_lays_1, ↓fX10_lays_2, ↓fX10_lays_5, ↓fX10_lays_6, ↓fX10_lays_10, ↓fX10_lays_11, ↓fX10_lays_12, ↓fX10_lays_13, ↓fX10_lays_16, ↓fX10_lays_19, ↓fX10_lays_20, ↓fX10_lays_21, ↓fX10_lays_23, ↓fX10_lays_26, ↓fX10_lays_28, ↓fX10_lays_30, ↓fX10_lays_33, ↓fX10_lays_34, ↓fX10_lays_37, ↓fX10_lays_39, ↓fX10_lays_40, ↓fX10_lays_43, ↓fX10_lays_44, ↓fX10_lays_47, ↓fX10_lays_49, ↓fX10_lays_50, ↓fX10_lays_53, ↓fX10_lays_56, ↓fX10_lays_57, ↓fX10_lays_60, ↓fX10_lays_61, ↓fX10_lays_64, ↓fX10_lays_66, ↓fX10_lays_67, ↓fX10_lays_68, ↓fX10_lays_69, ↓fX10_lays_72, ↓fX10_lays_73, ↓fX10_lays_74, ↓fX10_lays_77, ↓fX10_lays_80, ↓fX10_lays_83, ↓m_of, ↓m_goneAt, Int.reduceToNat, ei, h6, c1, c2, c3, ↓ih'', and_self, true_and, and_true, false_and, and_false, not_true_eq_false, not_false_eq_true, or_self, true_or, or_true, false_or, or_false, ite_not, Decidable.not_not, decide_eq_true_eq, Bool.not_true, Bool.not_false, Bool.false_eq_true, Bool.not_eq_true, n10, n20, n21, n30, n31, n32, n40, n41, n42, n43, ↓reduceIte]
          · have c4 : ¬ b = 0 := by omega
            have c5 : σ (20 + i) = t := by omega
            simp (disch := first | assumption | exact c2_int _ | exact c2_ref _ | exact c2_jk | exact c2_null | omega | exact bI_r _ | exact bI_01 _) only [↓fX10_lays_0, ↓fX10_lays_1, ↓fX10_lays_2, ↓fX10_lays_5, ↓fX10_lays_6, ↓fX10_lays_10, ↓fX10_lays_11, ↓fX10_lays_12, ↓fX10_lays_13, ↓fX10_lays_16, ↓fX10_lays_19, ↓fX10_lays_20, ↓fX10_lays_21, ↓fX10_lays_23, ↓fX10_lays_26, ↓fX10_lays_28, ↓fX10_lays_30, ↓fX10_lays_33, ↓fX10_lays_34, ↓fX10_lays_37, ↓fX10_lays_39, ↓fX10_lays_40, ↓fX10_lays_43, ↓fX10_lays_44, ↓fX10_lays_47, ↓fX10_lays_49, ↓fX10_lays_50, ↓fX10_lays_53, ↓fX10_lays_56, ↓fX10_lays_57, ↓fX10_lays_60, ↓fX10_lays_61, ↓fX10_lays_64, ↓fX10_lays_66, ↓fX10_lays_67, ↓fX10_lays_68, ↓fX10_lays_69, ↓fX10_lays_72, ↓fX10_lays_73, ↓fX10_lays_74, ↓fX10_lays_77, ↓fX10_lays_80, ↓fX10_lays_83, ↓m_of, ↓m_goneAt, Int.reduceToNat, ei, h6, c1, c2, c3, c4, c5, and_self, true_and, and_true, false_and, and_false, not_true_eq_false, not_false_eq_true, or_self, true_or, or_true, false_or, or_false, ite_not, Decidable.not_not, decide_eq_true_eq, Bool.not_true, Bool.not_false, Bool.false_eq_true, Bool.not_eq_true, n10, n20, n21, n30, n31, n32, n40, n41, n42, n43, ↓reduceIte]
            rw [if_neg (by omega)]
            exact ih'' _
    · have e : i = (σ 3).toNat := by omega
      have hl' := SL_ly (P := lyP σ t b) (M := i) hl
      rw [← e]
      simp (disch := first | assumption | exact c2_int _ | exact c2_ref _ | exact c2_jk | exact c2_null | omega | exact bI_r _ | exact bI_01 _) only [↓fX10_lays_0, ↓fX10_lays_1, ↓fX10_lays_2, ↓fX10_lays_5, ↓fX10_lays_6, ↓fX10_lays_8, ↓fX10_lays_10, ↓fX10_lays_11, ↓fX10_lays_12, ↓fX10_lays_13, ↓fX10_lays_16, ↓fX10_lays_19, ↓fX10_lays_20, ↓fX10_lays_21, ↓fX10_lays_23, ↓fX10_lays_26, ↓fX10_lays_28, ↓fX10_lays_30, ↓fX10_lays_33, ↓fX10_lays_34, ↓fX10_lays_37, ↓fX10_lays_39, ↓fX10_lays_40, ↓fX10_lays_43, ↓fX10_lays_44, ↓fX10_lays_47, ↓fX10_lays_49, ↓fX10_lays_50, ↓fX10_lays_53, ↓fX10_lays_56, ↓fX10_lays_57, ↓fX10_lays_60, ↓fX10_lays_61, ↓fX10_lays_64, ↓fX10_lays_66, ↓fX10_lays_67, ↓fX10_lays_68, ↓fX10_lays_69, ↓fX10_lays_72, ↓fX10_lays_73, ↓fX10_lays_74, ↓fX10_lays_77, ↓fX10_lays_80, ↓fX10_lays_83, ↓m_of, Int.reduceToNat, h6, and_self, true_and, and_true, false_and, and_false, not_true_eq_false, not_false_eq_true, or_self, true_or, or_true, false_or, or_false, ite_not, Decidable.not_not, decide_eq_true_eq, Bool.not_true, Bool.not_false, Bool.false_eq_true, Bool.not_eq_true, n10, n20, n21, n30, n31, n32, n40, n41, n42, n43, ↓reduceIte]
theorem lyG_u : u2 G m 12 0 = lyG G m P 0 := by
  funext q j
  show (if q = m ∧ j = 12 then _ else _) = if q = m + 7 ∧ (j : Int) < 0 then _ else if q = m ∧ j = 12 then (0 : Int) else _
  rw [if_neg (show ¬ (q = m + 7 ∧ (j : Int) < 0) by omega)]
theorem m_lays (hm : shM E r m) (hs : 0 ≤ s ∧ s ≤ 4) (hl : SL G m s σ) (hW : WF σ) (ht : I32 t) (hb : b = 0 ∨ b = 1) :
    RK MX10_lays 0 [.ref m, .int (zi s), .int (zi t), .int (zi b), jk, jk] [] (0, 0) (E, zg G, zk L, r) Q = Q (E, zg (lyG G m (lyP σ t b) (σ 3).toNat), zk L, r) .null := by
  have m0 := hm.1
  have e := m_lays_loop (L := L) (Q := Q) hm hs hl hW ht hb (σ 3).toNat 0 jk (by omega) (by omega)
  rw [← lyG_u] at e
  simp (disch := first | assumption | exact c2_int _ | exact c2_ref _ | exact c2_jk | exact c2_null | omega | exact bI_r _ | exact bI_01 _) only [↓fX10_lays_0, ↓fX10_lays_1, ↓fX10_lays_2, ↓fX10_lays_5, ↓fX10_lays_6, ↓fX10_lays_10, ↓fX10_lays_11, ↓fX10_lays_12, ↓fX10_lays_13, ↓fX10_lays_16, ↓fX10_lays_19, ↓fX10_lays_20, ↓fX10_lays_21, ↓fX10_lays_23, ↓fX10_lays_26, ↓fX10_lays_28, ↓fX10_lays_30, ↓fX10_lays_33, ↓fX10_lays_34, ↓fX10_lays_37, ↓fX10_lays_39, ↓fX10_lays_40, ↓fX10_lays_43, ↓fX10_lays_44, ↓fX10_lays_47, ↓fX10_lays_49, ↓fX10_lays_50, ↓fX10_lays_53, ↓fX10_lays_56, ↓fX10_lays_57, ↓fX10_lays_60, ↓fX10_lays_61, ↓fX10_lays_64, ↓fX10_lays_66, ↓fX10_lays_67, ↓fX10_lays_68, ↓fX10_lays_69, ↓fX10_lays_72, ↓fX10_lays_73, ↓fX10_lays_74, ↓fX10_lays_77, ↓fX10_lays_80, ↓fX10_lays_83]
  exact e
theorem lyP_0 : lyP σ 0 b = hbS σ := by
  funext i
  unfold lyP hbS
  simp
theorem m_laysNow (hm : shM E r m) (hs : 0 ≤ s ∧ s ≤ 4) (hl : SL G m s σ) (hW : WF σ) :
    RK MX10_laysNow 0 [.ref m, .int (zi s)] [] (0, 0) (E, zg G, zk L, r) Q = Q (E, zg (lyG G m (hbS σ) (σ 3).toNat), zk L, r) .null := by
  have m0 := hm.1
  have e := fun Q => m_lays (L := L) (Q := Q) (t := 0) (b := 0) hm hs hl hW (by decide) (Or.inl rfl)
  rw [lyP_0] at e
  simp (disch := first | assumption | exact c2_int _ | exact c2_ref _ | exact c2_jk | exact c2_null | omega | exact bI_r _ | exact bI_01 _) only [↓fX10_laysNow_0, ↓fX10_laysNow_1, ↓fX10_laysNow_2, ↓fX10_laysNow_3, ↓fX10_laysNow_4, ↓fX10_laysNow_7, ↓e]
theorem m_at (hm : shM E r m) (hs : 0 ≤ s ∧ s ≤ 4) (hl : SL G m s σ) (hW : WF σ) (hl2 : LAS G m σ) (hp : 1 ≤ p ∧ p ≤ szS σ) : RK MX10_at 0 [.ref m, .int (zi s), .int (zi p)] [] (0, 0) (E, zg G, zk L, r) Q = Q (E, zg G, zk L, r) (.int (zi (nAS σ p))) := by
  have m0 := hm.1
  obtain ⟨k7, l7, r7⟩ := hm.2.2.2.2.2.2.2.1
  have w3 := hW.2.2.2.1
  have e := hl2.2 p hp.1 hp.2
  have b := ixN_ok (hbS σ) (σ 3).toNat p hp.1 hp.2
  have hz : szS σ ≤ 600 := by
    have := ctN_b (hbS σ) (σ 3).toNat
    unfold szS
    omega
  have en : nAS σ p = σ 1 + σ 2 * (ixN (hbS σ) (σ 3).toNat p : Int) := if_pos hp
  rw [en]
  simp (disch := first | assumption | exact c2_int _ | exact c2_ref _ | exact c2_jk | exact c2_null | omega | exact bI_r _ | exact bI_01 _) only [↓fX10_at_0, ↓fX10_at_1, ↓fX10_at_2, ↓fX10_at_3, ↓fX10_at_6, ↓fX10_at_7, ↓fX10_at_8, ↓fX10_at_9, ↓fX10_at_10, ↓fX10_at_13, ↓m_numberAt, e]
theorem m_gapAt (hm : shM E r m) (hs : 0 ≤ s ∧ s ≤ 4) (hl : SL G m s σ) (hW : WF σ) (hl2 : LAS G m σ) (hp : 1 ≤ p ∧ p < szS σ) : RK MX10_gapAt 0 [.ref m, .int (zi s), .int (zi p)] [] (0, 0) (E, zg G, zk L, r) Q = Q (E, zg G, zk L, r) (.int (zi (gAS σ p))) := by
  have m0 := hm.1
  have en : gAS σ p = nAS σ (p + 1) - nAS σ p := if_pos (by omega)
  rw [en]
  simp (disch := first | assumption | exact c2_int _ | exact c2_ref _ | exact c2_jk | exact c2_null | omega | exact bI_r _ | exact bI_01 _) only [↓fX10_gapAt_0, ↓fX10_gapAt_1, ↓fX10_gapAt_2, ↓fX10_gapAt_3, ↓fX10_gapAt_4, ↓fX10_gapAt_5, ↓fX10_gapAt_8, ↓fX10_gapAt_9, ↓fX10_gapAt_10, ↓fX10_gapAt_11, ↓fX10_gapAt_14, ↓fX10_gapAt_15, ↓m_at]
end BM
