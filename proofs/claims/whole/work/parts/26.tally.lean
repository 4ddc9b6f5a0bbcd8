/-! What a sieve tells with a scratch row. -/
def shT (E : AE) (T : Nat) : Prop := kd E T = 1 ∧ le E T = 1200
def ofS (T S : Nat) : Prop := T < S ∨ S + 5 < T
/-- how many of the first n places have f as told -/
def tcN (f : Int → Int) (v : Int) (n : Nat) : Int := ctN (fun i => decide (f (i + 1) = v)) n
def tyF (G : Nat → Nat → Int) (T : Nat) (f : Int → Int) (n : Nat) : Nat → Nat → Int := fun q j => if q = T ∧ j < 1200 then tcN f j n else G q j
theorem tcN_b (f : Int → Int) (v : Int) (n : Nat) : 0 ≤ tcN f v n ∧ tcN f v n ≤ n := ctN_b _ n
theorem tcN_s (f : Int → Int) (v : Int) (n : Nat) : tcN f v (n + 1) = tcN f v n + (if f (n + 1) = v then 1 else 0) := by
  unfold tcN
  rw [ctN]
  simp only [decide_eq_true_eq]
theorem tyF_q {G : Nat → Nat → Int} {T : Nat} {f : Int → Int} {n q : Nat} (hq : q ≠ T) : tyF G T f n q = G q := by
  funext j
  exact if_neg fun z => hq z.1
theorem tyF_put {G : Nat → Nat → Int} {T : Nat} {f : Int → Int} {n : Nat} (h : 0 ≤ f (n + 1) ∧ f (n + 1) < 1200) : u2 (tyF G T f n) T (f (n + 1)).toNat (tcN f (f (n + 1)) n + 1) = tyF G T f (n + 1) := by
  funext q j
  show (if q = T ∧ j = (f (n + 1)).toNat then _ else if q = T ∧ j < 1200 then tcN f j n else G q j) = if q = T ∧ j < 1200 then tcN f j (n + 1) else G q j
  by_cases hq : q = T
  · simp only [hq, true_and]
    by_cases hj : j = (f (n + 1)).toNat
    · have e : (j : Int) = f (n + 1) := by omega
      rw [if_pos hj, if_pos (by omega), tcN_s, e, if_pos rfl]
    · rw [if_neg hj]
      by_cases h1 : j < 1200
      · rw [if_pos h1, if_pos h1, tcN_s, if_neg (by omega), Int.add_zero]
      · rw [if_neg h1, if_neg h1]
  · simp only [hq, false_and, if_false]
section BS
variable {E : AE} {G L : Nat → Nat → Int} {r : Nat → Nat → Option Nat} {h : AH} {Q : AH → Value → Prop} {S T : Nat} {i v p x kk d e f w m c g : Int}
theorem eqS_tyF {f : Int → Int} {n : Nat} (h : ofS T S) : eqS G (tyF G T f n) S := fun q h1 h2 => tyF_q (by unfold ofS at h; omega)
theorem cAt_ty {f : Int → Int} {n : Nat} (ht : shT E T) (hi : 0 ≤ i ∧ i < 1200) : cAt E (tyF G T f n) T i = tcN f i n := by
  unfold cAt
  rw [if_pos (by have := ht.2; omega)]
  show (if T = T ∧ i.toNat < 1200 then tcN f i.toNat n else _) = _
  rw [if_pos ⟨rfl, by omega⟩, Int.toNat_of_nonneg hi.1]
theorem clG_ty {f : Int → Int} : clG G T 1200 = tyF G T f 0 := by
  funext q j
  rfl
def stF (G : Nat → Nat → Int) (S : Nat) (p : Int) : Int := gA G S p / G S 2
theorem stF_b (hg : rgS G S) (hw : WR G S) (hp : 1 ≤ p ∧ p < G S 13) : 1 ≤ stF G S p ∧ stF G S p < 600 := by
  have h1 := gA_pos hg hw hp
  have h2 := hw.1
  obtain ⟨i, i1, i2, i3, i4⟩ := nA_ix hw (p := p) ⟨hp.1, by omega⟩
  obtain ⟨j, j1, j2, j3, j4⟩ := nA_ix hw (p := p + 1) ⟨by omega, by omega⟩
  have hij : i < j := ctN_ltr (hX G S) (by omega)
  have e : gA G S p = G S 2 * ((j : Int) - i) := by
    unfold gA
    rw [if_pos (by omega), i4, j4, Int.mul_sub]
    omega
  unfold stF
  rw [e, Int.mul_ediv_cancel_left _ (by omega)]
  have := hg.2.2.2.1
  omega
theorem c8_tallyGaps_loop (hs : shS E r S) (hg : rgS G S) (hw : WR G S) (ht : shT E T) (ho : ofS T S) : ∀ (k : Nat) (n : Nat) (l3 : Value), G S 13 - 1 ≤ (n : Int) + k → (n : Int) ≤ G S 13 - 1 → n + k ≤ 10000 →
    RK MX8_tallyGaps 6 [.ref S, .ref T, .int (zi ((n : Int) + 1)), l3] [] (0, 0) (E, zg (tyF G T (stF G S) n), zk L, r) Q = Q (E, zg (tyF G T (stF G S) (G S 13 - 1).toNat), zk L, r) .null := by
  obtain ⟨ht1, ht2⟩ := id ht
  intro k
  induction k with
  | zero =>
    intro n l3 h1 h2 h3
    have e : (G S 13 - 1).toNat = n := by omega
    have h6 : ¬ (n : Int) + 1 < G S 13 := by omega
    have hq := eqS_tyF (G := G) (f := stF G S) (n := n) ho
    have eS := hq S (by omega) (by omega)
    have hgT := rgS_c hq hg
    rw [e]
    obtain ⟨s0, ⟨s1, s2, s3, s4, s5⟩, ⟨l1, l2, l3, l4, l5⟩, r1, r2, r3, r4, r5⟩ := id hs
    obtain ⟨g0, g1, g2, g3, g4, g6, g7, g8, g13, ga1, ga2, ga3, ga4, ga5⟩ := id hg
    simp (disch := first | assumption | exact c2_int _ | exact c2_ref _ | exact c2_jk | exact c2_null | omega | (apply rN1; assumption) | (apply rN2; assumption) | (apply rN3; assumption) | (apply rN4; assumption) | exact bI_r _ | exact bI_01 _) only [↓fX8_tallyGaps_0, ↓fX8_tallyGaps_0n, ↓fX8_tallyGaps_1, ↓fX8_tallyGaps_4, ↓fX8_tallyGaps_5, ↓fX8_tallyGaps_6, ↓fX8_tallyGaps_7, ↓fX8_tallyGaps_7n, ↓fX8_tallyGaps_8, ↓fX8_tallyGaps_11, ↓fX8_tallyGaps_14, ↓fX8_tallyGaps_14n, ↓fX8_tallyGaps_15, ↓fX8_tallyGaps_16, ↓fX8_tallyGaps_19, ↓fX8_tallyGaps_19n, ↓fX8_tallyGaps_20, ↓fX8_tallyGaps_23, ↓fX8_tallyGaps_26, ↓fX8_tallyGaps_27, ↓fX8_tallyGaps_27n, ↓fX8_tallyGaps_28, ↓fX8_tallyGaps_29, ↓fX8_tallyGaps_29n, ↓fX8_tallyGaps_30, ↓fX8_tallyGaps_31, ↓fX8_tallyGaps_34, ↓fX8_tallyGaps_35, ↓fX8_tallyGaps_36, ↓fX8_tallyGaps_39, ↓fX8_tallyGaps_42, ↓fX8_tallyGaps_45, eS, h6, and_self, true_and, and_true, false_and, and_false, not_true_eq_false, not_false_eq_true, or_self, true_or, or_true, false_or, or_false, ite_not, Decidable.not_not, decide_eq_true_eq, Bool.not_true, Bool.not_false, Bool.false_eq_true, Bool.not_eq_true, n10, n20, n21, n30, n31, n32, n40, n41, n42, n43, ↓reduceIte]
  | succ k ih =>
    intro n l3 h1 h2 h3
    by_cases h6 : (n : Int) + 1 < G S 13
    · have hq := eqS_tyF (G := G) (f := stF G S) (n := n) ho
      have eS := hq S (by omega) (by omega)
      have hgT := rgS_c hq hg
      have eG := gA_c hq
      have hb := stF_b hg hw (p := (n : Int) + 1) ⟨by omega, h6⟩
      have hb2 := gA_pos hg hw (p := (n : Int) + 1) ⟨by omega, h6⟩
      have h2' := hw.1.1
      have hc := tcN_b (stF G S) (stF G S ((n : Int) + 1)) n
      have e1 : (if 0 < G S 2 then gA G S ((n : Int) + 1) / G S 2 else -1) = stF G S ((n : Int) + 1) := if_pos (by omega)
      have e2 := cAt_ty (G := G) (f := stF G S) (n := n) (i := stF G S ((n : Int) + 1)) ht ⟨by omega, by omega⟩
      have e3 : (if 0 ≤ stF G S ((n : Int) + 1) ∧ stF G S ((n : Int) + 1) < (le E T : Int) then u2 (tyF G T (stF G S) n) T (stF G S ((n : Int) + 1)).toNat (tcN (stF G S) (stF G S ((n : Int) + 1)) n + 1) else tyF G T (stF G S) n) = tyF G T (stF G S) (n + 1) := by
        rw [if_pos (by omega)]
        exact tyF_put ⟨by omega, by omega⟩
      have hh := ih (n + 1) (.int (zi (stF G S ((n : Int) + 1)))) (by omega) (by omega) (by omega)
      rw [← hh, fX8_tallyGaps_6]
      obtain ⟨s0, ⟨s1, s2, s3, s4, s5⟩, ⟨l1, l2, l3, l4, l5⟩, r1, r2, r3, r4, r5⟩ := id hs
      obtain ⟨g0, g1, g2, g3, g4, g6, g7, g8, g13, ga1, ga2, ga3, ga4, ga5⟩ := id hg
      simp (disch := first | assumption | exact c2_int _ | exact c2_ref _ | exact c2_jk | exact c2_null | omega | (apply rN1; assumption) | (apply rN2; assumption) | (apply rN3; assumption) | (apply rN4; assumption) | exact bI_r _ | exact bI_01 _) only [↓fX8_tallyGaps_0, ↓fX8_tallyGaps_0n, ↓fX8_tallyGaps_1, ↓fX8_tallyGaps_4, ↓fX8_tallyGaps_5, ↓fX8_tallyGaps_7, ↓fX8_tallyGaps_7n, ↓fX8_tallyGaps_8, ↓fX8_tallyGaps_11, ↓fX8_tallyGaps_14, ↓fX8_tallyGaps_14n, ↓fX8_tallyGaps_15, ↓fX8_tallyGaps_16, ↓fX8_tallyGaps_19, ↓fX8_tallyGaps_19n, ↓fX8_tallyGaps_20, ↓fX8_tallyGaps_23, ↓fX8_tallyGaps_26, ↓fX8_tallyGaps_27, ↓fX8_tallyGaps_27n, ↓fX8_tallyGaps_28, ↓fX8_tallyGaps_29, ↓fX8_tallyGaps_29n, ↓fX8_tallyGaps_30, ↓fX8_tallyGaps_31, ↓fX8_tallyGaps_34, ↓fX8_tallyGaps_35, ↓fX8_tallyGaps_36, ↓fX8_tallyGaps_39, ↓fX8_tallyGaps_42, ↓fX8_tallyGaps_45, ↓c7_gapAt, ↓c9_quotient, ↓c9_at, ↓c9_put, eS, eG, e1, e2, e3, h6, and_self, true_and, and_true, false_and, and_false, not_true_eq_false, not_false_eq_true, or_self, true_or, or_true, false_or, or_false, ite_not, Decidable.not_not, decide_eq_true_eq, Bool.not_true, Bool.not_false, Bool.false_eq_true, Bool.not_eq_true, n10, n20, n21, n30, n31, n32, n40, n41, n42, n43, ↓reduceIte]
      rfl
    · have e : (G S 13 - 1).toNat = n := by omega
      have hq := eqS_tyF (G := G) (f := stF G S) (n := n) ho
      have eS := hq S (by omega) (by omega)
      rw [e]
      obtain ⟨s0, ⟨s1, s2, s3, s4, s5⟩, ⟨l1, l2, l3, l4, l5⟩, r1, r2, r3, r4, r5⟩ := id hs
      obtain ⟨g0, g1, g2, g3, g4, g6, g7, g8, g13, ga1, ga2, ga3, ga4, ga5⟩ := id hg
      simp (disch := first | assumption | exact c2_int _ | exact c2_ref _ | exact c2_jk | exact c2_null | omega | (apply rN1; assumption) | (apply rN2; assumption) | (apply rN3; assumption) | (apply rN4; assumption) | exact bI_r _ | exact bI_01 _) only [↓fX8_tallyGaps_0, ↓fX8_tallyGaps_0n, ↓fX8_tallyGaps_1, ↓fX8_tallyGaps_4, ↓fX8_tallyGaps_5, ↓fX8_tallyGaps_6, ↓fX8_tallyGaps_7, ↓fX8_tallyGaps_7n, ↓fX8_tallyGaps_8, ↓fX8_tallyGaps_11, ↓fX8_tallyGaps_14, ↓fX8_tallyGaps_14n, ↓fX8_tallyGaps_15, ↓fX8_tallyGaps_16, ↓fX8_tallyGaps_19, ↓fX8_tallyGaps_19n, ↓fX8_tallyGaps_20, ↓fX8_tallyGaps_23, ↓fX8_tallyGaps_26, ↓fX8_tallyGaps_27, ↓fX8_tallyGaps_27n, ↓fX8_tallyGaps_28, ↓fX8_tallyGaps_29, ↓fX8_tallyGaps_29n, ↓fX8_tallyGaps_30, ↓fX8_tallyGaps_31, ↓fX8_tallyGaps_34, ↓fX8_tallyGaps_35, ↓fX8_tallyGaps_36, ↓fX8_tallyGaps_39, ↓fX8_tallyGaps_42, ↓fX8_tallyGaps_45, eS, h6, and_self, true_and, and_true, false_and, and_false, not_true_eq_false, not_false_eq_true, or_self, true_or, or_true, false_or, or_false, ite_not, Decidable.not_not, decide_eq_true_eq, Bool.not_true, Bool.not_false, Bool.false_eq_true, Bool.not_eq_true, n10, n20, n21, n30, n31, n32, n40, n41, n42, n43, ↓reduceIte]
theorem c8_tallyGaps (hs : shS E r S) (hg : rgS G S) (hw : WR G S) (h1 : 1 ≤ G S 13) (ht : shT E T) (ho : ofS T S) : RK MX8_tallyGaps 0 [.ref S, .ref T, jk, jk] [] (0, 0) (E, zg G, zk L, r) Q = Q (E, zg (tyF G T (stF G S) (G S 13 - 1).toNat), zk L, r) .null := by
  obtain ⟨ht1, ht2⟩ := id ht
  have hl := fun l3 Q => c8_tallyGaps_loop (L := L) (Q := Q) hs hg hw ht ho 600 0 l3 (by obtain ⟨g0, g1, g2, g3, g4, g6, g7, g8, g13, ga1, ga2, ga3, ga4, ga5⟩ := id hg; omega) (by omega) (by omega)
  have hl' : ∀ l3 Q, RK MX8_tallyGaps 6 [.ref S, .ref T, .int (zi 1), l3] [] (0, 0) (E, zg (tyF G T (stF G S) 0), zk L, r) Q = Q (E, zg (tyF G T (stF G S) (G S 13 - 1).toNat), zk L, r) .null := hl
  obtain ⟨s0, ⟨s1, s2, s3, s4, s5⟩, ⟨l1, l2, l3, l4, l5⟩, r1, r2, r3, r4, r5⟩ := id hs
  have e0 : clG G T (le E T) = tyF G T (stF G S) 0 := by rw [ht2]; exact clG_ty
  simp (disch := first | assumption | exact c2_int _ | exact c2_ref _ | exact c2_jk | exact c2_null | omega | (apply rN1; assumption) | (apply rN2; assumption) | (apply rN3; assumption) | (apply rN4; assumption) | exact bI_r _ | exact bI_01 _) only [↓fX8_tallyGaps_0, ↓fX8_tallyGaps_0n, ↓fX8_tallyGaps_1, ↓fX8_tallyGaps_4, ↓fX8_tallyGaps_5, ↓fX8_tallyGaps_7, ↓fX8_tallyGaps_7n, ↓fX8_tallyGaps_8, ↓fX8_tallyGaps_11, ↓fX8_tallyGaps_14, ↓fX8_tallyGaps_14n, ↓fX8_tallyGaps_15, ↓fX8_tallyGaps_16, ↓fX8_tallyGaps_19, ↓fX8_tallyGaps_19n, ↓fX8_tallyGaps_20, ↓fX8_tallyGaps_23, ↓fX8_tallyGaps_26, ↓fX8_tallyGaps_27, ↓fX8_tallyGaps_27n, ↓fX8_tallyGaps_28, ↓fX8_tallyGaps_29, ↓fX8_tallyGaps_29n, ↓fX8_tallyGaps_30, ↓fX8_tallyGaps_31, ↓fX8_tallyGaps_34, ↓fX8_tallyGaps_35, ↓fX8_tallyGaps_36, ↓fX8_tallyGaps_39, ↓fX8_tallyGaps_42, ↓fX8_tallyGaps_45, ↓c9_clearCells, e0, hl', and_self, true_and, and_true, false_and, and_false, not_true_eq_false, not_false_eq_true, or_self, true_or, or_true, false_or, or_false, ite_not, Decidable.not_not, decide_eq_true_eq, Bool.not_true, Bool.not_false, Bool.false_eq_true, Bool.not_eq_true, n10, n20, n21, n30, n31, n32, n40, n41, n42, n43, ↓reduceIte]
/-- how many gaps are so many steps -/
def tgC (G : Nat → Nat → Int) (S : Nat) (v : Int) : Int := tcN (stF G S) v (G S 13 - 1).toNat
theorem c8_unlikeGaps_loop (ht : shT E T) {H : Nat → Nat → Int} {F : Int → Int} {n : Nat} (hn : n ≤ 1000) : ∀ (k : Nat) (l0 : Value) (i c : Int), 600 - i ≤ k → 0 ≤ i → i + k ≤ 10000 → 0 ≤ c → c + k ≤ 10000 →
    RK MX8_unlikeGaps 9 [l0, .ref T, .int (zi c), .int (zi i)] [] (0, 0) (E, zg (tyF H T F n), zk L, r) Q = Q (E, zg (tyF H T F n), zk L, r) (.int (zi (cnL (fun s => decide (0 < tcN F s n)) 600 k i c))) := by
  obtain ⟨ht1, ht2⟩ := id ht
  intro k
  induction k with
  | zero =>
    intro l0 i c h1 h2 h3 h4 h5
    have h6 : ¬ i < 600 := by omega
    simp (disch := first | assumption | exact c2_int _ | exact c2_ref _ | exact c2_jk | exact c2_null | omega | (apply rN1; assumption) | (apply rN2; assumption) | (apply rN3; assumption) | (apply rN4; assumption) | exact bI_r _ | exact bI_01 _) only [↓fX8_unlikeGaps_0, ↓fX8_unlikeGaps_0n, ↓fX8_unlikeGaps_1, ↓fX8_unlikeGaps_1n, ↓fX8_unlikeGaps_2, ↓fX8_unlikeGaps_5, ↓fX8_unlikeGaps_6, ↓fX8_unlikeGaps_7, ↓fX8_unlikeGaps_8, ↓fX8_unlikeGaps_9, ↓fX8_unlikeGaps_10, ↓fX8_unlikeGaps_13, ↓fX8_unlikeGaps_16, ↓fX8_unlikeGaps_16n, ↓fX8_unlikeGaps_17, ↓fX8_unlikeGaps_18, ↓fX8_unlikeGaps_21, ↓fX8_unlikeGaps_24, ↓fX8_unlikeGaps_27, ↓fX8_unlikeGaps_30, ↓fX8_unlikeGaps_33, ↓fX8_unlikeGaps_34, h6, cnL, and_self, true_and, and_true, false_and, and_false, not_true_eq_false, not_false_eq_true, or_self, true_or, or_true, false_or, or_false, ite_not, Decidable.not_not, decide_eq_true_eq, Bool.not_true, Bool.not_false, Bool.false_eq_true, Bool.not_eq_true, n10, n20, n21, n30, n31, n32, n40, n41, n42, n43, ↓reduceIte]
  | succ k ih =>
    intro l0 i c h1 h2 h3 h4 h5
    by_cases h6 : i < 600
    · have e2 := cAt_ty (G := H) (f := F) (n := n) (i := i) ht ⟨by omega, by omega⟩
      have hb := tcN_b F i n
      rw [fX8_unlikeGaps_9]
      by_cases h9 : tcN F i n ≤ 0
      · have h10 : ¬ 0 < tcN F i n := by omega
        simp (disch := first | assumption | exact c2_int _ | exact c2_ref _ | exact c2_jk | exact c2_null | omega | (apply rN1; assumption) | (apply rN2; assumption) | (apply rN3; assumption) | (apply rN4; assumption) | exact bI_r _ | exact bI_01 _) only [↓fX8_unlikeGaps_0, ↓fX8_unlikeGaps_0n, ↓fX8_unlikeGaps_1, ↓fX8_unlikeGaps_1n, ↓fX8_unlikeGaps_2, ↓fX8_unlikeGaps_5, ↓fX8_unlikeGaps_6, ↓fX8_unlikeGaps_7, ↓fX8_unlikeGaps_8, ↓fX8_unlikeGaps_10, ↓fX8_unlikeGaps_13, ↓fX8_unlikeGaps_16, ↓fX8_unlikeGaps_16n, ↓fX8_unlikeGaps_17, ↓fX8_unlikeGaps_18, ↓fX8_unlikeGaps_21, ↓fX8_unlikeGaps_24, ↓fX8_unlikeGaps_27, ↓fX8_unlikeGaps_30, ↓fX8_unlikeGaps_33, ↓fX8_unlikeGaps_34, ↓c9_at, ↓ih, e2, h6, h9, h10, cnL, and_self, true_and, and_true, false_and, and_false, not_true_eq_false, not_false_eq_true, or_self, true_or, or_true, false_or, or_false, ite_not, Decidable.not_not, decide_eq_true_eq, Bool.not_true, Bool.not_false, Bool.false_eq_true, Bool.not_eq_true, n10, n20, n21, n30, n31, n32, n40, n41, n42, n43, ↓reduceIte]
      · have h10 : 0 < tcN F i n := by omega
        simp (disch := first | assumption | exact c2_int _ | exact c2_ref _ | exact c2_jk | exact c2_null | omega | (apply rN1; assumption) | (apply rN2; assumption) | (apply rN3; assumption) | (apply rN4; assumption) | exact bI_r _ | exact bI_01 _) only [↓fX8_unlikeGaps_0, ↓fX8_unlikeGaps_0n, ↓fX8_unlikeGaps_1, ↓fX8_unlikeGaps_1n, ↓fX8_unlikeGaps_2, ↓fX8_unlikeGaps_5, ↓fX8_unlikeGaps_6, ↓fX8_unlikeGaps_7, ↓fX8_unlikeGaps_8, ↓fX8_unlikeGaps_10, ↓fX8_unlikeGaps_13, ↓fX8_unlikeGaps_16, ↓fX8_unlikeGaps_16n, ↓fX8_unlikeGaps_17, ↓fX8_unlikeGaps_18, ↓fX8_unlikeGaps_21, ↓fX8_unlikeGaps_24, ↓fX8_unlikeGaps_27, ↓fX8_unlikeGaps_30, ↓fX8_unlikeGaps_33, ↓fX8_unlikeGaps_34, ↓c9_at, ↓ih, e2, h6, h9, h10, cnL, and_self, true_and, and_true, false_and, and_false, not_true_eq_false, not_false_eq_true, or_self, true_or, or_true, false_or, or_false, ite_not, Decidable.not_not, decide_eq_true_eq, Bool.not_true, Bool.not_false, Bool.false_eq_true, Bool.not_eq_true, n10, n20, n21, n30, n31, n32, n40, n41, n42, n43, ↓reduceIte]
    · simp (disch := first | assumption | exact c2_int _ | exact c2_ref _ | exact c2_jk | exact c2_null | omega | (apply rN1; assumption) | (apply rN2; assumption) | (apply rN3; assumption) | (apply rN4; assumption) | exact bI_r _ | exact bI_01 _) only [↓fX8_unlikeGaps_0, ↓fX8_unlikeGaps_0n, ↓fX8_unlikeGaps_1, ↓fX8_unlikeGaps_1n, ↓fX8_unlikeGaps_2, ↓fX8_unlikeGaps_5, ↓fX8_unlikeGaps_6, ↓fX8_unlikeGaps_7, ↓fX8_unlikeGaps_8, ↓fX8_unlikeGaps_9, ↓fX8_unlikeGaps_10, ↓fX8_unlikeGaps_13, ↓fX8_unlikeGaps_16, ↓fX8_unlikeGaps_16n, ↓fX8_unlikeGaps_17, ↓fX8_unlikeGaps_18, ↓fX8_unlikeGaps_21, ↓fX8_unlikeGaps_24, ↓fX8_unlikeGaps_27, ↓fX8_unlikeGaps_30, ↓fX8_unlikeGaps_33, ↓fX8_unlikeGaps_34, h6, cnL, and_self, true_and, and_true, false_and, and_false, not_true_eq_false, not_false_eq_true, or_self, true_or, or_true, false_or, or_false, ite_not, Decidable.not_not, decide_eq_true_eq, Bool.not_true, Bool.not_false, Bool.false_eq_true, Bool.not_eq_true, n10, n20, n21, n30, n31, n32, n40, n41, n42, n43, ↓reduceIte]
def ugC (G : Nat → Nat → Int) (S : Nat) : Int := cnL (fun s => decide (0 < tgC G S s)) 600 600 1 0
theorem c8_unlikeGaps (hs : shS E r S) (hg : rgS G S) (hw : WR G S) (h1 : 1 ≤ G S 13) (ht : shT E T) (ho : ofS T S) : RK MX8_unlikeGaps 0 [.ref S, .ref T, jk, jk] [] (0, 0) (E, zg G, zk L, r) Q = Q (E, zg (tyF G T (stF G S) (G S 13 - 1).toNat), zk L, r) (.int (zi (ugC G S))) := by
  obtain ⟨ht1, ht2⟩ := id ht
  have hl := fun l0 Q => c8_unlikeGaps_loop (L := L) (r := r) (Q := Q) (H := G) (F := stF G S) (n := (G S 13 - 1).toNat) ht (by obtain ⟨g0, g1, g2, g3, g4, g6, g7, g8, g13, ga1, ga2, ga3, ga4, ga5⟩ := id hg; omega) 600 l0 1 0 (by omega) (by omega) (by omega) (by omega) (by omega)
  simp (disch := first | assumption | exact c2_int _ | exact c2_ref _ | exact c2_jk | exact c2_null | omega | (apply rN1; assumption) | (apply rN2; assumption) | (apply rN3; assumption) | (apply rN4; assumption) | exact bI_r _ | exact bI_01 _) only [↓fX8_unlikeGaps_0, ↓fX8_unlikeGaps_0n, ↓fX8_unlikeGaps_1, ↓fX8_unlikeGaps_1n, ↓fX8_unlikeGaps_2, ↓fX8_unlikeGaps_5, ↓fX8_unlikeGaps_6, ↓fX8_unlikeGaps_7, ↓fX8_unlikeGaps_8, ↓fX8_unlikeGaps_10, ↓fX8_unlikeGaps_13, ↓fX8_unlikeGaps_16, ↓fX8_unlikeGaps_16n, ↓fX8_unlikeGaps_17, ↓fX8_unlikeGaps_18, ↓fX8_unlikeGaps_21, ↓fX8_unlikeGaps_24, ↓fX8_unlikeGaps_27, ↓fX8_unlikeGaps_30, ↓fX8_unlikeGaps_33, ↓fX8_unlikeGaps_34, ↓c8_tallyGaps, ↓hl, and_self, true_and, and_true, false_and, and_false, not_true_eq_false, not_false_eq_true, or_self, true_or, or_true, false_or, or_false, ite_not, Decidable.not_not, decide_eq_true_eq, Bool.not_true, Bool.not_false, Bool.false_eq_true, Bool.not_eq_true, n10, n20, n21, n30, n31, n32, n40, n41, n42, n43, ↓reduceIte]
  rfl
theorem c8_commonestGap_loop (ht : shT E T) {H : Nat → Nat → Int} {F : Int → Int} {n : Nat} (hn : n ≤ 1000) (hS : kd E S = 14) {by_ : Int} (hby : tyF H T F n S 2 = by_) : ∀ (k : Nat) (i b : Int), 600 - i ≤ k → 0 ≤ i → i + k ≤ 10000 → (0 ≤ b ∧ b < 600) →
    RK MX8_commonestGap 19 [.ref S, .ref T, .int (zi b), .int (zi i)] [] (0, 0) (E, zg (tyF H T F n), zk L, r) Q = Q (E, zg (tyF H T F n), zk L, r) (.int (zi (bsL (fun i b => decide (tcN F b n < tcN F i n)) 600 k i b * by_))) := by
  obtain ⟨ht1, ht2⟩ := id ht
  intro k
  induction k with
  | zero =>
    intro i b h1 h2 h3 h4
    have h6 : ¬ i < 600 := by omega
    simp (disch := first | assumption | exact c2_int _ | exact c2_ref _ | exact c2_jk | exact c2_null | omega | (apply rN1; assumption) | (apply rN2; assumption) | (apply rN3; assumption) | (apply rN4; assumption) | exact bI_r _ | exact bI_01 _) only [↓fX8_commonestGap_0, ↓fX8_commonestGap_0n, ↓fX8_commonestGap_1, ↓fX8_commonestGap_4, ↓fX8_commonestGap_5, ↓fX8_commonestGap_8, ↓fX8_commonestGap_9, ↓fX8_commonestGap_10, ↓fX8_commonestGap_10n, ↓fX8_commonestGap_11, ↓fX8_commonestGap_11n, ↓fX8_commonestGap_12, ↓fX8_commonestGap_15, ↓fX8_commonestGap_16, ↓fX8_commonestGap_17, ↓fX8_commonestGap_18, ↓fX8_commonestGap_19, ↓fX8_commonestGap_20, ↓fX8_commonestGap_23, ↓fX8_commonestGap_26, ↓fX8_commonestGap_26n, ↓fX8_commonestGap_27, ↓fX8_commonestGap_28, ↓fX8_commonestGap_31, ↓fX8_commonestGap_31n, ↓fX8_commonestGap_32, ↓fX8_commonestGap_33, ↓fX8_commonestGap_36, ↓fX8_commonestGap_39, ↓fX8_commonestGap_40, ↓fX8_commonestGap_41, ↓fX8_commonestGap_44, ↓fX8_commonestGap_47, ↓fX8_commonestGap_48, ↓fX8_commonestGap_48n, ↓fX8_commonestGap_49, ↓fX8_commonestGap_52, ↓fX8_commonestGap_53, hby, h6, bsL, and_self, true_and, and_true, false_and, and_false, not_true_eq_false, not_false_eq_true, or_self, true_or, or_true, false_or, or_false, ite_not, Decidable.not_not, decide_eq_true_eq, Bool.not_true, Bool.not_false, Bool.false_eq_true, Bool.not_eq_true, n10, n20, n21, n30, n31, n32, n40, n41, n42, n43, ↓reduceIte]
  | succ k ih =>
    intro i b h1 h2 h3 h4
    by_cases h6 : i < 600
    · have e2 := cAt_ty (G := H) (f := F) (n := n) (i := i) ht ⟨by omega, by omega⟩
      have e3 := cAt_ty (G := H) (f := F) (n := n) (i := b) ht ⟨by omega, by omega⟩
      have hb := tcN_b F i n
      have hb2 := tcN_b F b n
      rw [fX8_commonestGap_19]
      by_cases h9 : tcN F i n ≤ tcN F b n
      · have h10 : ¬ tcN F b n < tcN F i n := by omega
        simp (disch := first | assumption | exact c2_int _ | exact c2_ref _ | exact c2_jk | exact c2_null | omega | (apply rN1; assumption) | (apply rN2; assumption) | (apply rN3; assumption) | (apply rN4; assumption) | exact bI_r _ | exact bI_01 _) only [↓fX8_commonestGap_0, ↓fX8_commonestGap_0n, ↓fX8_commonestGap_1, ↓fX8_commonestGap_4, ↓fX8_commonestGap_5, ↓fX8_commonestGap_8, ↓fX8_commonestGap_9, ↓fX8_commonestGap_10, ↓fX8_commonestGap_10n, ↓fX8_commonestGap_11, ↓fX8_commonestGap_11n, ↓fX8_commonestGap_12, ↓fX8_commonestGap_15, ↓fX8_commonestGap_16, ↓fX8_commonestGap_17, ↓fX8_commonestGap_18, ↓fX8_commonestGap_20, ↓fX8_commonestGap_23, ↓fX8_commonestGap_26, ↓fX8_commonestGap_26n, ↓fX8_commonestGap_27, ↓fX8_commonestGap_28, ↓fX8_commonestGap_31, ↓fX8_commonestGap_31n, ↓fX8_commonestGap_32, ↓fX8_commonestGap_33, ↓fX8_commonestGap_36, ↓fX8_commonestGap_39, ↓fX8_commonestGap_40, ↓fX8_commonestGap_41, ↓fX8_commonestGap_44, ↓fX8_commonestGap_47, ↓fX8_commonestGap_48, ↓fX8_commonestGap_48n, ↓fX8_commonestGap_49, ↓fX8_commonestGap_52, ↓fX8_commonestGap_53, ↓c9_at, ↓ih, e2, e3, h6, h9, h10, bsL, and_self, true_and, and_true, false_and, and_false, not_true_eq_false, not_false_eq_true, or_self, true_or, or_true, false_or, or_false, ite_not, Decidable.not_not, decide_eq_true_eq, Bool.not_true, Bool.not_false, Bool.false_eq_true, Bool.not_eq_true, n10, n20, n21, n30, n31, n32, n40, n41, n42, n43, ↓reduceIte]
      · have h10 : tcN F b n < tcN F i n := by omega
        simp (disch := first | assumption | exact c2_int _ | exact c2_ref _ | exact c2_jk | exact c2_null | omega | (apply rN1; assumption) | (apply rN2; assumption) | (apply rN3; assumption) | (apply rN4; assumption) | exact bI_r _ | exact bI_01 _) only [↓fX8_commonestGap_0, ↓fX8_commonestGap_0n, ↓fX8_commonestGap_1, ↓fX8_commonestGap_4, ↓fX8_commonestGap_5, ↓fX8_commonestGap_8, ↓fX8_commonestGap_9, ↓fX8_commonestGap_10, ↓fX8_commonestGap_10n, ↓fX8_commonestGap_11, ↓fX8_commonestGap_11n, ↓fX8_commonestGap_12, ↓fX8_commonestGap_15, ↓fX8_commonestGap_16, ↓fX8_commonestGap_17, ↓fX8_commonestGap_18, ↓fX8_commonestGap_20, ↓fX8_commonestGap_23, ↓fX8_commonestGap_26, ↓fX8_commonestGap_26n, ↓fX8_commonestGap_27, ↓fX8_commonestGap_28, ↓fX8_commonestGap_31, ↓fX8_commonestGap_31n, ↓fX8_commonestGap_32, ↓fX8_commonestGap_33, ↓fX8_commonestGap_36, ↓fX8_commonestGap_39, ↓fX8_commonestGap_40, ↓fX8_commonestGap_41, ↓fX8_commonestGap_44, ↓fX8_commonestGap_47, ↓fX8_commonestGap_48, ↓fX8_commonestGap_48n, ↓fX8_commonestGap_49, ↓fX8_commonestGap_52, ↓fX8_commonestGap_53, ↓c9_at, ↓ih, e2, e3, h6, h9, h10, bsL, and_self, true_and, and_true, false_and, and_false, not_true_eq_false, not_false_eq_true, or_self, true_or, or_true, false_or, or_false, ite_not, Decidable.not_not, decide_eq_true_eq, Bool.not_true, Bool.not_false, Bool.false_eq_true, Bool.not_eq_true, n10, n20, n21, n30, n31, n32, n40, n41, n42, n43, ↓reduceIte]
    · simp (disch := first | assumption | exact c2_int _ | exact c2_ref _ | exact c2_jk | exact c2_null | omega | (apply rN1; assumption) | (apply rN2; assumption) | (apply rN3; assumption) | (apply rN4; assumption) | exact bI_r _ | exact bI_01 _) only [↓fX8_commonestGap_0, ↓fX8_commonestGap_0n, ↓fX8_commonestGap_1, ↓fX8_commonestGap_4, ↓fX8_commonestGap_5, ↓fX8_commonestGap_8, ↓fX8_commonestGap_9, ↓fX8_commonestGap_10, ↓fX8_commonestGap_10n, ↓fX8_commonestGap_11, ↓fX8_commonestGap_11n, ↓fX8_commonestGap_12, ↓fX8_commonestGap_15, ↓fX8_commonestGap_16, ↓fX8_commonestGap_17, ↓fX8_commonestGap_18, ↓fX8_commonestGap_19, ↓fX8_commonestGap_20, ↓fX8_commonestGap_23, ↓fX8_commonestGap_26, ↓fX8_commonestGap_26n, ↓fX8_commonestGap_27, ↓fX8_commonestGap_28, ↓fX8_commonestGap_31, ↓fX8_commonestGap_31n, ↓fX8_commonestGap_32, ↓fX8_commonestGap_33, ↓fX8_commonestGap_36, ↓fX8_commonestGap_39, ↓fX8_commonestGap_40, ↓fX8_commonestGap_41, ↓fX8_commonestGap_44, ↓fX8_commonestGap_47, ↓fX8_commonestGap_48, ↓fX8_commonestGap_48n, ↓fX8_commonestGap_49, ↓fX8_commonestGap_52, ↓fX8_commonestGap_53, hby, h6, bsL, and_self, true_and, and_true, false_and, and_false, not_true_eq_false, not_false_eq_true, or_self, true_or, or_true, false_or, or_false, ite_not, Decidable.not_not, decide_eq_true_eq, Bool.not_true, Bool.not_false, Bool.false_eq_true, Bool.not_eq_true, n10, n20, n21, n30, n31, n32, n40, n41, n42, n43, ↓reduceIte]
def cmG (G : Nat → Nat → Int) (S : Nat) : Int := if G S 13 < 2 then -1 else bsL (fun i b => decide (tgC G S b < tgC G S i)) 600 600 2 1 * G S 2
theorem c8_commonestGap (hs : shS E r S) (hg : rgS G S) (hw : WR G S) (h1 : 1 ≤ G S 13) (ht : shT E T) (ho : ofS T S) : ∃ G' : Nat → Nat → Int, (∀ q, q ≠ T → G' q = G q) ∧ ∀ Q, RK MX8_commonestGap 0 [.ref S, .ref T, jk, jk] [] (0, 0) (E, zg G, zk L, r) Q = Q (E, zg G', zk L, r) (.int (zi (cmG G S))) := by
  obtain ⟨ht1, ht2⟩ := id ht
  by_cases h2 : G S 13 < 2
  · refine ⟨G, fun _ _ => rfl, fun Q => ?_⟩
    obtain ⟨s0, ⟨s1, s2, s3, s4, s5⟩, ⟨l1, l2, l3, l4, l5⟩, r1, r2, r3, r4, r5⟩ := id hs
    obtain ⟨g0, g1, g2, g3, g4, g6, g7, g8, g13, ga1, ga2, ga3, ga4, ga5⟩ := id hg
    simp (disch := first | assumption | exact c2_int _ | exact c2_ref _ | exact c2_jk | exact c2_null | omega | (apply rN1; assumption) | (apply rN2; assumption) | (apply rN3; assumption) | (apply rN4; assumption) | exact bI_r _ | exact bI_01 _) only [↓fX8_commonestGap_0, ↓fX8_commonestGap_0n, ↓fX8_commonestGap_1, ↓fX8_commonestGap_4, ↓fX8_commonestGap_5, ↓fX8_commonestGap_8, ↓fX8_commonestGap_9, ↓fX8_commonestGap_10, ↓fX8_commonestGap_10n, ↓fX8_commonestGap_11, ↓fX8_commonestGap_11n, ↓fX8_commonestGap_12, ↓fX8_commonestGap_15, ↓fX8_commonestGap_16, ↓fX8_commonestGap_17, ↓fX8_commonestGap_18, ↓fX8_commonestGap_19, ↓fX8_commonestGap_20, ↓fX8_commonestGap_23, ↓fX8_commonestGap_26, ↓fX8_commonestGap_26n, ↓fX8_commonestGap_27, ↓fX8_commonestGap_28, ↓fX8_commonestGap_31, ↓fX8_commonestGap_31n, ↓fX8_commonestGap_32, ↓fX8_commonestGap_33, ↓fX8_commonestGap_36, ↓fX8_commonestGap_39, ↓fX8_commonestGap_40, ↓fX8_commonestGap_41, ↓fX8_commonestGap_44, ↓fX8_commonestGap_47, ↓fX8_commonestGap_48, ↓fX8_commonestGap_48n, ↓fX8_commonestGap_49, ↓fX8_commonestGap_52, ↓fX8_commonestGap_53, h2, cmG, and_self, true_and, and_true, false_and, and_false, not_true_eq_false, not_false_eq_true, or_self, true_or, or_true, false_or, or_false, ite_not, Decidable.not_not, decide_eq_true_eq, Bool.not_true, Bool.not_false, Bool.false_eq_true, Bool.not_eq_true, n10, n20, n21, n30, n31, n32, n40, n41, n42, n43, ↓reduceIte]
  · refine ⟨tyF G T (stF G S) (G S 13 - 1).toNat, fun q hq => tyF_q hq, fun Q => ?_⟩
    have eS : tyF G T (stF G S) (G S 13 - 1).toNat S 2 = G S 2 := by rw [tyF_q (by unfold ofS at ho; omega)]
    have hl := fun Q => c8_commonestGap_loop (L := L) (r := r) (Q := Q) (H := G) (F := stF G S) (n := (G S 13 - 1).toNat) ht (by obtain ⟨g0, g1, g2, g3, g4, g6, g7, g8, g13, ga1, ga2, ga3, ga4, ga5⟩ := id hg; omega) hs.1 eS 600 2 1 (by omega) (by omega) (by omega) (by omega)
    obtain ⟨s0, ⟨s1, s2, s3, s4, s5⟩, ⟨l1, l2, l3, l4, l5⟩, r1, r2, r3, r4, r5⟩ := id hs
    have g13 := hg.2.2.2.2.2.2.2.2.1
    simp (disch := first | assumption | exact c2_int _ | exact c2_ref _ | exact c2_jk | exact c2_null | omega | (apply rN1; assumption) | (apply rN2; assumption) | (apply rN3; assumption) | (apply rN4; assumption) | exact bI_r _ | exact bI_01 _) only [↓fX8_commonestGap_0, ↓fX8_commonestGap_0n, ↓fX8_commonestGap_1, ↓fX8_commonestGap_4, ↓fX8_commonestGap_5, ↓fX8_commonestGap_8, ↓fX8_commonestGap_9, ↓fX8_commonestGap_10, ↓fX8_commonestGap_10n, ↓fX8_commonestGap_11, ↓fX8_commonestGap_11n, ↓fX8_commonestGap_12, ↓fX8_commonestGap_15, ↓fX8_commonestGap_16, ↓fX8_commonestGap_17, ↓fX8_commonestGap_18, ↓fX8_commonestGap_20, ↓fX8_commonestGap_23, ↓fX8_commonestGap_26, ↓fX8_commonestGap_26n, ↓fX8_commonestGap_27, ↓fX8_commonestGap_28, ↓fX8_commonestGap_31, ↓fX8_commonestGap_31n, ↓fX8_commonestGap_32, ↓fX8_commonestGap_33, ↓fX8_commonestGap_36, ↓fX8_commonestGap_39, ↓fX8_commonestGap_40, ↓fX8_commonestGap_41, ↓fX8_commonestGap_44, ↓fX8_commonestGap_47, ↓fX8_commonestGap_48, ↓fX8_commonestGap_48n, ↓fX8_commonestGap_49, ↓fX8_commonestGap_52, ↓fX8_commonestGap_53, ↓c8_tallyGaps, ↓hl, h2, cmG, and_self, true_and, and_true, false_and, and_false, not_true_eq_false, not_false_eq_true, or_self, true_or, or_true, false_or, or_false, ite_not, Decidable.not_not, decide_eq_true_eq, Bool.not_true, Bool.not_false, Bool.false_eq_true, Bool.not_eq_true, n10, n20, n21, n30, n31, n32, n40, n41, n42, n43, ↓reduceIte]
    rfl
/-- rests: unlike ones among the first n places -/
def ruN (f : Int → Int) (n : Nat) : Int := ctN (fun i => decide (tcN f (f (i + 1)) i.toNat = 0)) n
theorem ruN_s (f : Int → Int) (n : Nat) : ruN f (n + 1) = ruN f n + (if tcN f (f (n + 1)) n = 0 then 1 else 0) := by
  unfold ruN
  rw [ctN]
  simp only [decide_eq_true_eq, Int.toNat_natCast]
theorem ruN_b (f : Int → Int) (n : Nat) : 0 ≤ ruN f n ∧ ruN f n ≤ n := ctN_b _ n
def rsF (G : Nat → Nat → Int) (S : Nat) (m p : Int) : Int := nA G S p % m
theorem c0_restsBy_loop (hs : shS E r S) (hg : rgS G S) (ht : shT E T) (ho : ofS T S) (hm : 1 ≤ m ∧ m ≤ 999) (hc : -1 ≤ c ∧ c < m) : ∀ (k : Nat) (n : Nat) (l6 : Value), G S 13 ≤ (n : Int) + k → (n : Int) ≤ G S 13 → n + k ≤ 10000 →
    RK MX0_restsBy 10 [.ref S, .int (zi m), .int (zi c), .ref T, .int (zi (ruN (rsF G S m) n)), .int (zi ((n : Int) + 1)), l6] [] (0, 0) (E, zg (tyF G T (rsF G S m) n), zk L, r) Q = Q (E, zg (tyF G T (rsF G S m) (G S 13).toNat), zk L, r) (.int (zi (if c = -1 then ruN (rsF G S m) (G S 13).toNat else tcN (rsF G S m) c (G S 13).toNat))) := by
  obtain ⟨ht1, ht2⟩ := id ht
  have fin : ∀ n : Nat, (n : Int) = G S 13 → ∀ l5 l6 : Value, RK MX0_restsBy 63 [.ref S, .int (zi m), .int (zi c), .ref T, .int (zi (ruN (rsF G S m) n)), l5, l6] [] (0, 0) (E, zg (tyF G T (rsF G S m) n), zk L, r) Q = Q (E, zg (tyF G T (rsF G S m) n), zk L, r) (.int (zi (if c = -1 then ruN (rsF G S m) n else tcN (rsF G S m) c n))) := by
    intro n hn l5 l6
    by_cases hc1 : c = -1
    · simp (disch := first | assumption | exact c2_int _ | exact c2_ref _ | exact c2_jk | exact c2_null | omega | (apply rN1; assumption) | (apply rN2; assumption) | (apply rN3; assumption) | (apply rN4; assumption) | exact bI_r _ | exact bI_01 _) only [↓fX0_restsBy_0, ↓fX0_restsBy_0n, ↓fX0_restsBy_1, ↓fX0_restsBy_4, ↓fX0_restsBy_5, ↓fX0_restsBy_7, ↓fX0_restsBy_8, ↓fX0_restsBy_10, ↓fX0_restsBy_12, ↓fX0_restsBy_12n, ↓fX0_restsBy_13, ↓fX0_restsBy_16, ↓fX0_restsBy_19, ↓fX0_restsBy_19n, ↓fX0_restsBy_20, ↓fX0_restsBy_22, ↓fX0_restsBy_25, ↓fX0_restsBy_26, ↓fX0_restsBy_29, ↓fX0_restsBy_31, ↓fX0_restsBy_31n, ↓fX0_restsBy_32, ↓fX0_restsBy_34, ↓fX0_restsBy_37, ↓fX0_restsBy_40, ↓fX0_restsBy_43, ↓fX0_restsBy_43n, ↓fX0_restsBy_44, ↓fX0_restsBy_46, ↓fX0_restsBy_46n, ↓fX0_restsBy_47, ↓fX0_restsBy_49, ↓fX0_restsBy_52, ↓fX0_restsBy_53, ↓fX0_restsBy_54, ↓fX0_restsBy_57, ↓fX0_restsBy_60, ↓fX0_restsBy_63, ↓fX0_restsBy_64, ↓fX0_restsBy_65, ↓fX0_restsBy_68, ↓fX0_restsBy_70, ↓fX0_restsBy_73, ↓fX0_restsBy_73n, ↓fX0_restsBy_74, ↓fX0_restsBy_75, ↓fX0_restsBy_78, hc1, and_self, true_and, and_true, false_and, and_false, not_true_eq_false, not_false_eq_true, or_self, true_or, or_true, false_or, or_false, ite_not, Decidable.not_not, decide_eq_true_eq, Bool.not_true, Bool.not_false, Bool.false_eq_true, Bool.not_eq_true, n10, n20, n21, n30, n31, n32, n40, n41, n42, n43, ↓reduceIte]
    · have e2 := cAt_ty (G := G) (f := rsF G S m) (n := n) (i := c) ht ⟨by omega, by omega⟩
      simp (disch := first | assumption | exact c2_int _ | exact c2_ref _ | exact c2_jk | exact c2_null | omega | (apply rN1; assumption) | (apply rN2; assumption) | (apply rN3; assumption) | (apply rN4; assumption) | exact bI_r _ | exact bI_01 _) only [↓fX0_restsBy_0, ↓fX0_restsBy_0n, ↓fX0_restsBy_1, ↓fX0_restsBy_4, ↓fX0_restsBy_5, ↓fX0_restsBy_7, ↓fX0_restsBy_8, ↓fX0_restsBy_10, ↓fX0_restsBy_12, ↓fX0_restsBy_12n, ↓fX0_restsBy_13, ↓fX0_restsBy_16, ↓fX0_restsBy_19, ↓fX0_restsBy_19n, ↓fX0_restsBy_20, ↓fX0_restsBy_22, ↓fX0_restsBy_25, ↓fX0_restsBy_26, ↓fX0_restsBy_29, ↓fX0_restsBy_31, ↓fX0_restsBy_31n, ↓fX0_restsBy_32, ↓fX0_restsBy_34, ↓fX0_restsBy_37, ↓fX0_restsBy_40, ↓fX0_restsBy_43, ↓fX0_restsBy_43n, ↓fX0_restsBy_44, ↓fX0_restsBy_46, ↓fX0_restsBy_46n, ↓fX0_restsBy_47, ↓fX0_restsBy_49, ↓fX0_restsBy_52, ↓fX0_restsBy_53, ↓fX0_restsBy_54, ↓fX0_restsBy_57, ↓fX0_restsBy_60, ↓fX0_restsBy_63, ↓fX0_restsBy_64, ↓fX0_restsBy_65, ↓fX0_restsBy_68, ↓fX0_restsBy_70, ↓fX0_restsBy_73, ↓fX0_restsBy_73n, ↓fX0_restsBy_74, ↓fX0_restsBy_75, ↓fX0_restsBy_78, ↓c9_at, e2, hc1, and_self, true_and, and_true, false_and, and_false, not_true_eq_false, not_false_eq_true, or_self, true_or, or_true, false_or, or_false, ite_not, Decidable.not_not, decide_eq_true_eq, Bool.not_true, Bool.not_false, Bool.false_eq_true, Bool.not_eq_true, n10, n20, n21, n30, n31, n32, n40, n41, n42, n43, ↓reduceIte]
  intro k
  induction k with
  | zero =>
    intro n l6 h1 h2 h3
    have e : (G S 13).toNat = n := by omega
    have h6 : ¬ (n : Int) + 1 ≤ G S 13 := by omega
    have hq := eqS_tyF (G := G) (f := rsF G S m) (n := n) ho
    have eS := hq S (by omega) (by omega)
    have fin' := fin n (by omega)
    rw [e]
    obtain ⟨s0, ⟨s1, s2, s3, s4, s5⟩, ⟨l1, l2, l3, l4, l5⟩, r1, r2, r3, r4, r5⟩ := id hs
    obtain ⟨g0, g1, g2, g3, g4, g6, g7, g8, g13, ga1, ga2, ga3, ga4, ga5⟩ := id hg
    simp (disch := first | assumption | exact c2_int _ | exact c2_ref _ | exact c2_jk | exact c2_null | omega | (apply rN1; assumption) | (apply rN2; assumption) | (apply rN3; assumption) | (apply rN4; assumption) | exact bI_r _ | exact bI_01 _) only [↓fX0_restsBy_0, ↓fX0_restsBy_0n, ↓fX0_restsBy_1, ↓fX0_restsBy_4, ↓fX0_restsBy_5, ↓fX0_restsBy_7, ↓fX0_restsBy_8, ↓fX0_restsBy_10, ↓fX0_restsBy_12, ↓fX0_restsBy_12n, ↓fX0_restsBy_13, ↓fX0_restsBy_16, ↓fX0_restsBy_19, ↓fX0_restsBy_19n, ↓fX0_restsBy_20, ↓fX0_restsBy_22, ↓fX0_restsBy_25, ↓fX0_restsBy_26, ↓fX0_restsBy_29, ↓fX0_restsBy_31, ↓fX0_restsBy_31n, ↓fX0_restsBy_32, ↓fX0_restsBy_34, ↓fX0_restsBy_37, ↓fX0_restsBy_40, ↓fX0_restsBy_43, ↓fX0_restsBy_43n, ↓fX0_restsBy_44, ↓fX0_restsBy_46, ↓fX0_restsBy_46n, ↓fX0_restsBy_47, ↓fX0_restsBy_49, ↓fX0_restsBy_52, ↓fX0_restsBy_53, ↓fX0_restsBy_54, ↓fX0_restsBy_57, ↓fX0_restsBy_60, ↓fX0_restsBy_64, ↓fX0_restsBy_65, ↓fX0_restsBy_68, ↓fX0_restsBy_70, ↓fX0_restsBy_73, ↓fX0_restsBy_73n, ↓fX0_restsBy_74, ↓fX0_restsBy_75, ↓fX0_restsBy_78, ↓fin', eS, h6, and_self, true_and, and_true, false_and, and_false, not_true_eq_false, not_false_eq_true, or_self, true_or, or_true, false_or, or_false, ite_not, Decidable.not_not, decide_eq_true_eq, Bool.not_true, Bool.not_false, Bool.false_eq_true, Bool.not_eq_true, n10, n20, n21, n30, n31, n32, n40, n41, n42, n43, ↓reduceIte]
  | succ k ih =>
    intro n l6 h1 h2 h3
    by_cases h6 : (n : Int) + 1 ≤ G S 13
    · have hq := eqS_tyF (G := G) (f := rsF G S m) (n := n) ho
      have eS := hq S (by omega) (by omega)
      have hgT := rgS_c hq hg
      have eN := nA_c hq
      have hb2 := nA_0 hg (p := (n : Int) + 1) ⟨by omega, h6⟩
      have hr1 : 0 ≤ rsF G S m ((n : Int) + 1) ∧ rsF G S m ((n : Int) + 1) < m := ⟨Int.emod_nonneg _ (by omega), Int.emod_lt_of_pos _ (by omega)⟩
      have hcc := tcN_b (rsF G S m) (rsF G S m ((n : Int) + 1)) n
      have hru := ruN_b (rsF G S m) n
      have e1 : (if 0 < m then nA G S ((n : Int) + 1) % m else -1) = rsF G S m ((n : Int) + 1) := if_pos (by omega)
      have e2 := cAt_ty (G := G) (f := rsF G S m) (n := n) (i := rsF G S m ((n : Int) + 1)) ht ⟨by omega, by omega⟩
      have e3 : (if 0 ≤ rsF G S m ((n : Int) + 1) ∧ rsF G S m ((n : Int) + 1) < (le E T : Int) then u2 (tyF G T (rsF G S m) n) T (rsF G S m ((n : Int) + 1)).toNat (tcN (rsF G S m) (rsF G S m ((n : Int) + 1)) n + 1) else tyF G T (rsF G S m) n) = tyF G T (rsF G S m) (n + 1) := by
        rw [if_pos (by omega)]
        exact tyF_put ⟨by omega, by omega⟩
      have hh := ih (n + 1) (.int (zi (rsF G S m ((n : Int) + 1)))) (by omega) (by omega) (by omega)
      rw [← hh, fX0_restsBy_10, ruN_s]
      by_cases h9 : tcN (rsF G S m) (rsF G S m ((n : Int) + 1)) n = 0
      · have e3' := e3
        rw [h9] at e3'
        obtain ⟨s0, ⟨s1, s2, s3, s4, s5⟩, ⟨l1, l2, l3, l4, l5⟩, r1, r2, r3, r4, r5⟩ := id hs
        obtain ⟨g0, g1, g2, g3, g4, g6, g7, g8, g13, ga1, ga2, ga3, ga4, ga5⟩ := id hg
        simp (disch := first | assumption | exact c2_int _ | exact c2_ref _ | exact c2_jk | exact c2_null | omega | (apply rN1; assumption) | (apply rN2; assumption) | (apply rN3; assumption) | (apply rN4; assumption) | exact bI_r _ | exact bI_01 _) only [↓fX0_restsBy_0, ↓fX0_restsBy_0n, ↓fX0_restsBy_1, ↓fX0_restsBy_4, ↓fX0_restsBy_5, ↓fX0_restsBy_7, ↓fX0_restsBy_8, ↓fX0_restsBy_12, ↓fX0_restsBy_12n, ↓fX0_restsBy_13, ↓fX0_restsBy_16, ↓fX0_restsBy_19, ↓fX0_restsBy_19n, ↓fX0_restsBy_20, ↓fX0_restsBy_22, ↓fX0_restsBy_25, ↓fX0_restsBy_26, ↓fX0_restsBy_29, ↓fX0_restsBy_31, ↓fX0_restsBy_31n, ↓fX0_restsBy_32, ↓fX0_restsBy_34, ↓fX0_restsBy_37, ↓fX0_restsBy_40, ↓fX0_restsBy_43, ↓fX0_restsBy_43n, ↓fX0_restsBy_44, ↓fX0_restsBy_46, ↓fX0_restsBy_46n, ↓fX0_restsBy_47, ↓fX0_restsBy_49, ↓fX0_restsBy_52, ↓fX0_restsBy_53, ↓fX0_restsBy_54, ↓fX0_restsBy_57, ↓fX0_restsBy_60, ↓fX0_restsBy_63, ↓fX0_restsBy_64, ↓fX0_restsBy_65, ↓fX0_restsBy_68, ↓fX0_restsBy_70, ↓fX0_restsBy_73, ↓fX0_restsBy_73n, ↓fX0_restsBy_74, ↓fX0_restsBy_75, ↓fX0_restsBy_78, ↓c7_numberAt, ↓c9_remainder, ↓c9_at, ↓c9_put, eS, eN, e1, e2, e3', h6, h9, and_self, true_and, and_true, false_and, and_false, not_true_eq_false, not_false_eq_true, or_self, true_or, or_true, false_or, or_false, ite_not, Decidable.not_not, decide_eq_true_eq, Bool.not_true, Bool.not_false, Bool.false_eq_true, Bool.not_eq_true, n10, n20, n21, n30, n31, n32, n40, n41, n42, n43, ↓reduceIte]
        rfl
      · obtain ⟨s0, ⟨s1, s2, s3, s4, s5⟩, ⟨l1, l2, l3, l4, l5⟩, r1, r2, r3, r4, r5⟩ := id hs
        obtain ⟨g0, g1, g2, g3, g4, g6, g7, g8, g13, ga1, ga2, ga3, ga4, ga5⟩ := id hg
        simp (disch := first | assumption | exact c2_int _ | exact c2_ref _ | exact c2_jk | exact c2_null | omega | (apply rN1; assumption) | (apply rN2; assumption) | (apply rN3; assumption) | (apply rN4; assumption) | exact bI_r _ | exact bI_01 _) only [↓fX0_restsBy_0, ↓fX0_restsBy_0n, ↓fX0_restsBy_1, ↓fX0_restsBy_4, ↓fX0_restsBy_5, ↓fX0_restsBy_7, ↓fX0_restsBy_8, ↓fX0_restsBy_12, ↓fX0_restsBy_12n, ↓fX0_restsBy_13, ↓fX0_restsBy_16, ↓fX0_restsBy_19, ↓fX0_restsBy_19n, ↓fX0_restsBy_20, ↓fX0_restsBy_22, ↓fX0_restsBy_25, ↓fX0_restsBy_26, ↓fX0_restsBy_29, ↓fX0_restsBy_31, ↓fX0_restsBy_31n, ↓fX0_restsBy_32, ↓fX0_restsBy_34, ↓fX0_restsBy_37, ↓fX0_restsBy_40, ↓fX0_restsBy_43, ↓fX0_restsBy_43n, ↓fX0_restsBy_44, ↓fX0_restsBy_46, ↓fX0_restsBy_46n, ↓fX0_restsBy_47, ↓fX0_restsBy_49, ↓fX0_restsBy_52, ↓fX0_restsBy_53, ↓fX0_restsBy_54, ↓fX0_restsBy_57, ↓fX0_restsBy_60, ↓fX0_restsBy_63, ↓fX0_restsBy_64, ↓fX0_restsBy_65, ↓fX0_restsBy_68, ↓fX0_restsBy_70, ↓fX0_restsBy_73, ↓fX0_restsBy_73n, ↓fX0_restsBy_74, ↓fX0_restsBy_75, ↓fX0_restsBy_78, ↓c7_numberAt, ↓c9_remainder, ↓c9_at, ↓c9_put, eS, eN, e1, e2, e3, h6, h9, Int.add_zero, and_self, true_and, and_true, false_and, and_false, not_true_eq_false, not_false_eq_true, or_self, true_or, or_true, false_or, or_false, ite_not, Decidable.not_not, decide_eq_true_eq, Bool.not_true, Bool.not_false, Bool.false_eq_true, Bool.not_eq_true, n10, n20, n21, n30, n31, n32, n40, n41, n42, n43, ↓reduceIte]
        rfl
    · have e : (G S 13).toNat = n := by omega
      have hq := eqS_tyF (G := G) (f := rsF G S m) (n := n) ho
      have eS := hq S (by omega) (by omega)
      have fin' := fin n (by omega)
      rw [e]
      obtain ⟨s0, ⟨s1, s2, s3, s4, s5⟩, ⟨l1, l2, l3, l4, l5⟩, r1, r2, r3, r4, r5⟩ := id hs
      obtain ⟨g0, g1, g2, g3, g4, g6, g7, g8, g13, ga1, ga2, ga3, ga4, ga5⟩ := id hg
      simp (disch := first | assumption | exact c2_int _ | exact c2_ref _ | exact c2_jk | exact c2_null | omega | (apply rN1; assumption) | (apply rN2; assumption) | (apply rN3; assumption) | (apply rN4; assumption) | exact bI_r _ | exact bI_01 _) only [↓fX0_restsBy_0, ↓fX0_restsBy_0n, ↓fX0_restsBy_1, ↓fX0_restsBy_4, ↓fX0_restsBy_5, ↓fX0_restsBy_7, ↓fX0_restsBy_8, ↓fX0_restsBy_10, ↓fX0_restsBy_12, ↓fX0_restsBy_12n, ↓fX0_restsBy_13, ↓fX0_restsBy_16, ↓fX0_restsBy_19, ↓fX0_restsBy_19n, ↓fX0_restsBy_20, ↓fX0_restsBy_22, ↓fX0_restsBy_25, ↓fX0_restsBy_26, ↓fX0_restsBy_29, ↓fX0_restsBy_31, ↓fX0_restsBy_31n, ↓fX0_restsBy_32, ↓fX0_restsBy_34, ↓fX0_restsBy_37, ↓fX0_restsBy_40, ↓fX0_restsBy_43, ↓fX0_restsBy_43n, ↓fX0_restsBy_44, ↓fX0_restsBy_46, ↓fX0_restsBy_46n, ↓fX0_restsBy_47, ↓fX0_restsBy_49, ↓fX0_restsBy_52, ↓fX0_restsBy_53, ↓fX0_restsBy_54, ↓fX0_restsBy_57, ↓fX0_restsBy_60, ↓fX0_restsBy_64, ↓fX0_restsBy_65, ↓fX0_restsBy_68, ↓fX0_restsBy_70, ↓fX0_restsBy_73, ↓fX0_restsBy_73n, ↓fX0_restsBy_74, ↓fX0_restsBy_75, ↓fX0_restsBy_78, ↓fin', eS, h6, and_self, true_and, and_true, false_and, and_false, not_true_eq_false, not_false_eq_true, or_self, true_or, or_true, false_or, or_false, ite_not, Decidable.not_not, decide_eq_true_eq, Bool.not_true, Bool.not_false, Bool.false_eq_true, Bool.not_eq_true, n10, n20, n21, n30, n31, n32, n40, n41, n42, n43, ↓reduceIte]
def rsC (G : Nat → Nat → Int) (S : Nat) (m c : Int) : Int := if c = -1 then ruN (rsF G S m) (G S 13).toNat else tcN (rsF G S m) c (G S 13).toNat
theorem c0_restsBy (hs : shS E r S) (hg : rgS G S) (ht : shT E T) (ho : ofS T S) (hm : 1 ≤ m ∧ m ≤ 999) (hc : -1 ≤ c ∧ c < m) : RK MX0_restsBy 0 [.ref S, .int (zi m), .int (zi c), .ref T, jk, jk, jk] [] (0, 0) (E, zg G, zk L, r) Q = Q (E, zg (tyF G T (rsF G S m) (G S 13).toNat), zk L, r) (.int (zi (rsC G S m c))) := by
  obtain ⟨ht1, ht2⟩ := id ht
  have hl := fun l6 Q => c0_restsBy_loop (L := L) (Q := Q) hs hg ht ho hm hc 600 0 l6 (by obtain ⟨g0, g1, g2, g3, g4, g6, g7, g8, g13, ga1, ga2, ga3, ga4, ga5⟩ := id hg; omega) (by obtain ⟨g0, g1, g2, g3, g4, g6, g7, g8, g13, ga1, ga2, ga3, ga4, ga5⟩ := id hg; omega) (by omega)
  have hl' : ∀ l6 Q, RK MX0_restsBy 10 [.ref S, .int (zi m), .int (zi c), .ref T, .int (zi 0), .int (zi 1), l6] [] (0, 0) (E, zg (tyF G T (rsF G S m) 0), zk L, r) Q = Q (E, zg (tyF G T (rsF G S m) (G S 13).toNat), zk L, r) (.int (zi (rsC G S m c))) := hl
  obtain ⟨s0, ⟨s1, s2, s3, s4, s5⟩, ⟨l1, l2, l3, l4, l5⟩, r1, r2, r3, r4, r5⟩ := id hs
  have e0 : clG G T (le E T) = tyF G T (rsF G S m) 0 := by rw [ht2]; exact clG_ty
  simp (disch := first | assumption | exact c2_int _ | exact c2_ref _ | exact c2_jk | exact c2_null | omega | (apply rN1; assumption) | (apply rN2; assumption) | (apply rN3; assumption) | (apply rN4; assumption) | exact bI_r _ | exact bI_01 _) only [↓fX0_restsBy_0, ↓fX0_restsBy_0n, ↓fX0_restsBy_1, ↓fX0_restsBy_4, ↓fX0_restsBy_5, ↓fX0_restsBy_7, ↓fX0_restsBy_8, ↓fX0_restsBy_12, ↓fX0_restsBy_12n, ↓fX0_restsBy_13, ↓fX0_restsBy_16, ↓fX0_restsBy_19, ↓fX0_restsBy_19n, ↓fX0_restsBy_20, ↓fX0_restsBy_22, ↓fX0_restsBy_25, ↓fX0_restsBy_26, ↓fX0_restsBy_29, ↓fX0_restsBy_31, ↓fX0_restsBy_31n, ↓fX0_restsBy_32, ↓fX0_restsBy_34, ↓fX0_restsBy_37, ↓fX0_restsBy_40, ↓fX0_restsBy_43, ↓fX0_restsBy_43n, ↓fX0_restsBy_44, ↓fX0_restsBy_46, ↓fX0_restsBy_46n, ↓fX0_restsBy_47, ↓fX0_restsBy_49, ↓fX0_restsBy_52, ↓fX0_restsBy_53, ↓fX0_restsBy_54, ↓fX0_restsBy_57, ↓fX0_restsBy_60, ↓fX0_restsBy_63, ↓fX0_restsBy_64, ↓fX0_restsBy_65, ↓fX0_restsBy_68, ↓fX0_restsBy_70, ↓fX0_restsBy_73, ↓fX0_restsBy_73n, ↓fX0_restsBy_74, ↓fX0_restsBy_75, ↓fX0_restsBy_78, ↓c9_clearCells, e0, hl', and_self, true_and, and_true, false_and, and_false, not_true_eq_false, not_false_eq_true, or_self, true_or, or_true, false_or, or_false, ite_not, Decidable.not_not, decide_eq_true_eq, Bool.not_true, Bool.not_false, Bool.false_eq_true, Bool.not_eq_true, n10, n20, n21, n30, n31, n32, n40, n41, n42, n43, ↓reduceIte]
end BS
