/-! Functional part: a sieve begun, a round done. -/
theorem nA_c2 {G G' : Nat → Nat → Int} {S : Nat} (h : G' S = G S) (h5 : G' (S + 5) = G (S + 5)) : nA G' S = nA G S := by
  funext p
  unfold nA
  rw [h, h5]
theorem iX_c1 {G G' : Nat → Nat → Int} {S : Nat} (h : G' S = G S) : iX G' S = iX G S := by
  funext p
  unfold iX
  rw [h]
/-- filled with v up to n -/
def flG (G : Nat → Nat → Int) (b : Nat) (n : Nat) (v : Int) : Nat → Nat → Int := fun q i => if q = b ∧ i < n then v else G q i
def swP (G : Nat → Nat → Int) (S : Nat) (gap p : Int) (j : Nat) : Bool := decide ((j : Int) < G S 3) && hX G S j && decide (ctN (hX G S) j + 1 < p) && spC (G S 0) (G S 6) (ctN (hX G S) j + 1) (G S 1 + G S 2 * j) gap
def swF (G : Nat → Nat → Int) (S : Nat) (gap ev p : Int) : Nat → Nat → Int := fun q j => if q = S + 2 ∧ swP G S gap p j = true then ev else G q j
/-- only S to S + 5 differ -/
def fr6 (G G' : Nat → Nat → Int) (S : Nat) : Prop := ∀ q, q < S ∨ S + 5 < q → G' q = G q
section BS
variable {E : AE} {G L : Nat → Nat → Int} {r : Nat → Nat → Option Nat} {h : AH} {Q : AH → Value → Prop} {S T : Nat} {i v n p x kk en ev idx gap : Int}
theorem c7_begin_loop (hs : shS E r S) : ∀ (k : Nat) (j : Nat), 600 ≤ k + j → j ≤ 600 → ∀ G,
    RK MX7_begin 17 [.ref S, .int (zi (j : Int))] [] (0, 0) (E, zg (flG G (S + 2) j 2147483647), zk L, r) Q = RK MX7_begin 40 [.ref S, .int (zi 600)] [] (0, 0) (E, zg (flG G (S + 2) 600 2147483647), zk L, r) Q := by
  obtain ⟨s0, ⟨s1, s2, s3, s4, s5⟩, ⟨l1, l2, l3, l4, l5⟩, r1, r2, r3, r4, r5⟩ := id hs
  intro k
  induction k with
  | zero =>
    intro j h1 h2 G
    have e : j = 600 := by omega
    subst e
    have h6 : ¬ ((600 : Nat) : Int) < (le E (S + 2) : Int) := by omega
    simp (disch := first | assumption | exact c2_int _ | exact c2_ref _ | exact c2_jk | exact c2_null | omega | (apply rN1; assumption) | (apply rN2; assumption) | (apply rN3; assumption) | (apply rN4; assumption) | exact bI_r _ | exact bI_01 _) only [↓fX7_begin_0, ↓fX7_begin_1, ↓fX7_begin_2, ↓fX7_begin_5, ↓fX7_begin_6, ↓fX7_begin_7, ↓fX7_begin_10, ↓fX7_begin_11, ↓fX7_begin_12, ↓fX7_begin_15, ↓fX7_begin_16, ↓fX7_begin_17, ↓fX7_begin_18, ↓fX7_begin_19, ↓fX7_begin_22, ↓fX7_begin_23, ↓fX7_begin_26, ↓fX7_begin_27, ↓fX7_begin_30, ↓fX7_begin_31, ↓fX7_begin_33, ↓fX7_begin_34, ↓fX7_begin_37, ↓fX7_begin_41, ↓fX7_begin_44, h6, and_self, true_and, and_true, false_and, and_false, not_true_eq_false, not_false_eq_true, or_self, true_or, or_true, false_or, or_false, ite_not, Decidable.not_not, decide_eq_true_eq, Bool.not_true, Bool.not_false, Bool.false_eq_true, Bool.not_eq_true, n10, n20, n21, n30, n31, n32, n40, n41, n42, n43, ↓reduceIte]
    rfl
  | succ k ih =>
    intro j h1 h2 G
    by_cases h3 : (j : Int) < (le E (S + 2) : Int)
    · rw [fX7_begin_17]
      simp (disch := first | assumption | exact c2_int _ | exact c2_ref _ | exact c2_jk | exact c2_null | omega | (apply rN1; assumption) | (apply rN2; assumption) | (apply rN3; assumption) | (apply rN4; assumption) | exact bI_r _ | exact bI_01 _) only [↓fX7_begin_0, ↓fX7_begin_1, ↓fX7_begin_2, ↓fX7_begin_5, ↓fX7_begin_6, ↓fX7_begin_7, ↓fX7_begin_10, ↓fX7_begin_11, ↓fX7_begin_12, ↓fX7_begin_15, ↓fX7_begin_16, ↓fX7_begin_18, ↓fX7_begin_19, ↓fX7_begin_22, ↓fX7_begin_23, ↓fX7_begin_26, ↓fX7_begin_27, ↓fX7_begin_30, ↓fX7_begin_31, ↓fX7_begin_33, ↓fX7_begin_34, ↓fX7_begin_37, ↓fX7_begin_41, ↓fX7_begin_44, h3, and_self, true_and, and_true, false_and, and_false, not_true_eq_false, not_false_eq_true, or_self, true_or, or_true, false_or, or_false, ite_not, Decidable.not_not, decide_eq_true_eq, Bool.not_true, Bool.not_false, Bool.false_eq_true, Bool.not_eq_true, n10, n20, n21, n30, n31, n32, n40, n41, n42, n43, ↓reduceIte]
      have e : u2 (flG G (S + 2) j 2147483647) (S + 2) (j : Int).toNat 2147483647 = flG G (S + 2) (j + 1) 2147483647 := by
        funext q i
        simp only [u2, flG, Int.toNat_natCast]
        by_cases hq : q = S + 2
        · subst hq
          by_cases hi : i = j
          · subst hi
            simp
          · simp only [hi, and_false, if_false, true_and]
            by_cases hlt : i < j
            · rw [if_pos hlt, if_pos (by omega)]
            · rw [if_neg hlt, if_neg (by omega)]
        · simp [hq]
      rw [e]
      exact ih (j + 1) (by omega) (by omega) G
    · have e : j = 600 := by omega
      subst e
      simp (disch := first | assumption | exact c2_int _ | exact c2_ref _ | exact c2_jk | exact c2_null | omega | (apply rN1; assumption) | (apply rN2; assumption) | (apply rN3; assumption) | (apply rN4; assumption) | exact bI_r _ | exact bI_01 _) only [↓fX7_begin_0, ↓fX7_begin_1, ↓fX7_begin_2, ↓fX7_begin_5, ↓fX7_begin_6, ↓fX7_begin_7, ↓fX7_begin_10, ↓fX7_begin_11, ↓fX7_begin_12, ↓fX7_begin_15, ↓fX7_begin_16, ↓fX7_begin_17, ↓fX7_begin_18, ↓fX7_begin_19, ↓fX7_begin_22, ↓fX7_begin_23, ↓fX7_begin_26, ↓fX7_begin_27, ↓fX7_begin_30, ↓fX7_begin_31, ↓fX7_begin_33, ↓fX7_begin_34, ↓fX7_begin_37, ↓fX7_begin_41, ↓fX7_begin_44, h3, and_self, true_and, and_true, false_and, and_false, not_true_eq_false, not_false_eq_true, or_self, true_or, or_true, false_or, or_false, ite_not, Decidable.not_not, decide_eq_true_eq, Bool.not_true, Bool.not_false, Bool.false_eq_true, Bool.not_eq_true, n10, n20, n21, n30, n31, n32, n40, n41, n42, n43, ↓reduceIte]
      rfl
theorem c7_begin (hs : shS E r S) (hg : rgS G S) (h2 : 1 ≤ G S 2 ∧ 2 ≤ G S 3) :
    ∃ G' : Nat → Nat → Int, fr6 G G' S ∧ (∀ j, j ≤ 4 → G' S j = G S j) ∧ (G' S 6 = 0 ∧ G' S 7 = 0 ∧ G' S 8 = 0) ∧ (∀ q, q = S + 1 ∨ q = S + 3 ∨ q = S + 4 → G' q = G q) ∧ (∀ j, j < 600 → G' (S + 2) j = 2147483647) ∧ rgS G' S ∧ WR G' S ∧ ∀ Q, RK MX7_begin 0 [.ref S, jk] [] (0, 0) (E, zg G, zk L, r) Q = Q (E, zg G', zk L, r) .null := by
  let G1 : Nat → Nat → Int := flG (u2 (u2 (u2 G S 6 0) S 7 0) S 8 0) (S + 2) 600 2147483647
  have e1 : ∀ q j, q ≠ S → q ≠ S + 2 → G1 q j = G q j := by
    intro q j h1 h2
    show (if q = S + 2 ∧ j < 600 then _ else if q = S ∧ j = 8 then _ else if q = S ∧ j = 7 then _ else if q = S ∧ j = 6 then _ else G q j) = _
    rw [if_neg (fun z => h2 z.1), if_neg (fun z => h1 z.1), if_neg (fun z => h1 z.1), if_neg (fun z => h1 z.1)]
  have e2 : ∀ j, G1 (S + 2) j = if j < 600 then 2147483647 else G (S + 2) j := by
    intro j
    show (if S + 2 = S + 2 ∧ j < 600 then _ else if S + 2 = S ∧ j = 8 then _ else if S + 2 = S ∧ j = 7 then _ else if S + 2 = S ∧ j = 6 then _ else G (S + 2) j) = _
    by_cases h : j < 600
    · rw [if_pos ⟨rfl, h⟩, if_pos h]
    · rw [if_neg (fun z => h z.2), if_neg h, if_neg (by omega), if_neg (by omega), if_neg (by omega)]
  have e3 : ∀ j, G1 S j = if j = 8 then 0 else if j = 7 then 0 else if j = 6 then 0 else G S j := by
    intro j
    show (if S = S + 2 ∧ j < 600 then _ else if S = S ∧ j = 8 then _ else if S = S ∧ j = 7 then _ else if S = S ∧ j = 6 then _ else G S j) = _
    rw [if_neg (by omega)]
    simp only [true_and]
  have hg1 : rgS G1 S := by
    obtain ⟨g0, g1, g2, g3, g4, g6, g7, g8, g13, ga1, ga2, ga3, ga4, ga5⟩ := id hg
    unfold rgS
    rw [e3, e3, e3, e3, e3, e3, e3, e3, e3]
    refine ⟨g0, g1, g2, g3, g4, by simp, by simp, by simp, g13, fun t => by rw [e1 _ _ (by omega) (by omega)]; exact ga1 t, fun t => ?_, fun t => by rw [e1 _ _ (by omega) (by omega)]; exact ga3 t, fun t => by rw [e1 _ _ (by omega) (by omega)]; exact ga4 t, fun t => by rw [e1 _ _ (by omega) (by omega)]; exact ga5 t⟩
    rw [e2]
    split
    · decide
    · exact ga2 t
  obtain ⟨G', p1, p2, p3, p4⟩ := c7_closeUp (L := L) hs hg1 (by rw [e3, e3]; exact h2)
  refine ⟨G', fun q hq => ?_, fun j hj => ?_, ⟨?_, ?_, ?_⟩, fun q hq => ?_, fun j hj => ?_, p2, p3, fun Q => ?_⟩
  · funext j
    rw [p1 q j (by omega), e1 q j (by omega) (by omega)]
  · rw [p1 S j (by omega), e3, if_neg (by omega), if_neg (by omega), if_neg (by omega)]
  · rw [p1 S 6 (by omega), e3]; rfl
  · rw [p1 S 7 (by omega), e3]; rfl
  · rw [p1 S 8 (by omega), e3]; rfl
  · funext j
    rw [p1 q j (by omega), e1 q j (by omega) (by omega)]
  · rw [p1 (S + 2) j (by omega), e2, if_pos hj]
  · have hz : flG (u2 (u2 (u2 G S 6 0) S 7 0) S 8 0) (S + 2) 0 2147483647 = u2 (u2 (u2 G S 6 0) S 7 0) S 8 0 := by
      funext q j
      simp [flG]
    have hl := c7_begin_loop (L := L) (Q := Q) hs 600 0 (by omega) (by omega) (u2 (u2 (u2 G S 6 0) S 7 0) S 8 0)
    rw [hz] at hl
    have hl' : RK MX7_begin 17 [.ref S, .int (zi 0)] [] (0, 0) (E, zg (u2 (u2 (u2 G S 6 0) S 7 0) S 8 0), zk L, r) Q = _ := hl
    obtain ⟨s0, ⟨s1, s2, s3, s4, s5⟩, ⟨l1, l2, l3, l4, l5⟩, r1, r2, r3, r4, r5⟩ := id hs
    simp (disch := first | assumption | exact c2_int _ | exact c2_ref _ | exact c2_jk | exact c2_null | omega | (apply rN1; assumption) | (apply rN2; assumption) | (apply rN3; assumption) | (apply rN4; assumption) | exact bI_r _ | exact bI_01 _) only [↓fX7_begin_0, ↓fX7_begin_1, ↓fX7_begin_2, ↓fX7_begin_5, ↓fX7_begin_6, ↓fX7_begin_7, ↓fX7_begin_10, ↓fX7_begin_11, ↓fX7_begin_12, ↓fX7_begin_15, ↓fX7_begin_16, ↓fX7_begin_18, ↓fX7_begin_19, ↓fX7_begin_22, ↓fX7_begin_23, ↓fX7_begin_26, ↓fX7_begin_27, ↓fX7_begin_30, ↓fX7_begin_31, ↓fX7_begin_33, ↓fX7_begin_34, ↓fX7_begin_37, ↓fX7_begin_41, ↓fX7_begin_44, hl', and_self, true_and, and_true, false_and, and_false, not_true_eq_false, not_false_eq_true, or_self, true_or, or_true, false_or, or_false, ite_not, Decidable.not_not, decide_eq_true_eq, Bool.not_true, Bool.not_false, Bool.false_eq_true, Bool.not_eq_true, n10, n20, n21, n30, n31, n32, n40, n41, n42, n43, ↓reduceIte]
    simp (disch := first | assumption | exact c2_int _ | exact c2_ref _ | exact c2_jk | exact c2_null | omega | (apply rN1; assumption) | (apply rN2; assumption) | (apply rN3; assumption) | (apply rN4; assumption) | exact bI_r _ | exact bI_01 _) only [↓fX7_begin_0, ↓fX7_begin_1, ↓fX7_begin_2, ↓fX7_begin_5, ↓fX7_begin_6, ↓fX7_begin_7, ↓fX7_begin_10, ↓fX7_begin_11, ↓fX7_begin_12, ↓fX7_begin_15, ↓fX7_begin_16, ↓fX7_begin_18, ↓fX7_begin_19, ↓fX7_begin_22, ↓fX7_begin_23, ↓fX7_begin_26, ↓fX7_begin_27, ↓fX7_begin_30, ↓fX7_begin_31, ↓fX7_begin_33, ↓fX7_begin_34, ↓fX7_begin_37, ↓fX7_begin_40, ↓fX7_begin_41, ↓fX7_begin_44, and_self, true_and, and_true, false_and, and_false, not_true_eq_false, not_false_eq_true, or_self, true_or, or_true, false_or, or_false, ite_not, Decidable.not_not, decide_eq_true_eq, Bool.not_true, Bool.not_false, Bool.false_eq_true, Bool.not_eq_true, n10, n20, n21, n30, n31, n32, n40, n41, n42, n43, ↓reduceIte]
    exact p4 _
theorem c7_set {ki fr by_ ma : Int} (hs : shS E r S) (hg : rgS G S) (hki : 0 ≤ ki ∧ ki ≤ 5) (hfr : 0 ≤ fr ∧ fr ≤ 999) (hby : 1 ≤ by_ ∧ by_ ≤ 99) (hma : 2 ≤ ma ∧ ma ≤ 600) :
    ∃ G' : Nat → Nat → Int, fr6 G G' S ∧ (G' S 0 = ki ∧ G' S 1 = fr ∧ G' S 2 = by_ ∧ G' S 3 = ma ∧ G' S 4 = 0) ∧ (G' S 6 = 0 ∧ G' S 7 = 0 ∧ G' S 8 = 0) ∧ (∀ q, q = S + 1 ∨ q = S + 3 ∨ q = S + 4 → G' q = G q) ∧ (∀ j, j < 600 → G' (S + 2) j = 2147483647) ∧ rgS G' S ∧ WR G' S ∧ ∀ Q, RK MX7_set 0 [.ref S, .int (zi ki), .int (zi fr), .int (zi by_), .int (zi ma)] [] (0, 0) (E, zg G, zk L, r) Q = Q (E, zg G', zk L, r) .null := by
  let G1 : Nat → Nat → Int := u2 (u2 (u2 (u2 (u2 G S 0 ki) S 1 fr) S 2 by_) S 3 ma) S 4 0
  have e1 : ∀ q j, q ≠ S → G1 q j = G q j := by
    intro q j h1
    show (if q = S ∧ j = 4 then _ else if q = S ∧ j = 3 then _ else if q = S ∧ j = 2 then _ else if q = S ∧ j = 1 then _ else if q = S ∧ j = 0 then _ else G q j) = _
    rw [if_neg (fun z => h1 z.1), if_neg (fun z => h1 z.1), if_neg (fun z => h1 z.1), if_neg (fun z => h1 z.1), if_neg (fun z => h1 z.1)]
  have e3 : ∀ j, G1 S j = if j = 4 then 0 else if j = 3 then ma else if j = 2 then by_ else if j = 1 then fr else if j = 0 then ki else G S j := by
    intro j
    show (if S = S ∧ j = 4 then _ else if S = S ∧ j = 3 then _ else if S = S ∧ j = 2 then _ else if S = S ∧ j = 1 then _ else if S = S ∧ j = 0 then _ else G S j) = _
    simp only [true_and]
  have hg1 : rgS G1 S := by
    obtain ⟨g0, g1, g2, g3, g4, g6, g7, g8, g13, ga1, ga2, ga3, ga4, ga5⟩ := id hg
    unfold rgS
    rw [e3, e3, e3, e3, e3, e3, e3, e3, e3]
    exact ⟨hki, hfr, ⟨by show 0 ≤ by_; omega, hby.2⟩, ⟨by show 0 ≤ ma; omega, hma.2⟩, by simp, g6, g7, g8, g13, fun t => by rw [e1 _ _ (by omega)]; exact ga1 t, fun t => by rw [e1 _ _ (by omega)]; exact ga2 t, fun t => by rw [e1 _ _ (by omega)]; exact ga3 t, fun t => by rw [e1 _ _ (by omega)]; exact ga4 t, fun t => by rw [e1 _ _ (by omega)]; exact ga5 t⟩
  obtain ⟨G', p1, p2, p3, p4, p5, p6, p7, p8⟩ := c7_begin (L := L) hs hg1 (by rw [e3, e3]; exact ⟨hby.1, hma.1⟩)
  refine ⟨G', fun q hq => ?_, ⟨?_, ?_, ?_, ?_, ?_⟩, p3, fun q hq => ?_, p5, p6, p7, fun Q => ?_⟩
  · rw [p1 q hq]
    funext j
    exact e1 q j (by omega)
  · rw [p2 0 (by omega), e3]; rfl
  · rw [p2 1 (by omega), e3]; rfl
  · rw [p2 2 (by omega), e3]; rfl
  · rw [p2 3 (by omega), e3]; rfl
  · rw [p2 4 (by omega), e3]; rfl
  · rw [p4 q hq]
    funext j
    exact e1 q j (by omega)
  · obtain ⟨s0, ⟨s1, s2, s3, s4, s5⟩, ⟨l1, l2, l3, l4, l5⟩, r1, r2, r3, r4, r5⟩ := id hs
    simp (disch := first | assumption | exact c2_int _ | exact c2_ref _ | exact c2_jk | exact c2_null | omega | (apply rN1; assumption) | (apply rN2; assumption) | (apply rN3; assumption) | (apply rN4; assumption) | exact bI_r _ | exact bI_01 _) only [↓fX7_set_0, ↓fX7_set_1, ↓fX7_set_2, ↓fX7_set_5, ↓fX7_set_6, ↓fX7_set_7, ↓fX7_set_10, ↓fX7_set_11, ↓fX7_set_12, ↓fX7_set_15, ↓fX7_set_16, ↓fX7_set_18, ↓fX7_set_21, ↓fX7_set_22, ↓fX7_set_23, ↓fX7_set_26, ↓fX7_set_27, ↓fX7_set_30, and_self, true_and, and_true, false_and, and_false, not_true_eq_false, not_false_eq_true, or_self, true_or, or_true, false_or, or_false, ite_not, Decidable.not_not, decide_eq_true_eq, Bool.not_true, Bool.not_false, Bool.false_eq_true, Bool.not_eq_true, n10, n20, n21, n30, n31, n32, n40, n41, n42, n43, ↓reduceIte]
    exact p8 _
theorem swF_S2 (q : Nat) (hq : q ≠ S + 2) : swF G S gap ev p q = G q := by
  funext j
  exact if_neg fun z => hq z.1
theorem c7_sweep_loop (hs : shS E r S) (hg : rgS G S) (hw : WR G S) (hev : G S 7 = ev) (hgap : 1 ≤ gap ∧ gap ≤ 1000000) : ∀ (k : Nat) (l3 : Value) (p : Int), G S 13 + 1 - p ≤ k → 1 ≤ p → p + k ≤ 10000 → p ≤ G S 13 + 1 →
    ∃ l3' : Value, ∀ Q, RK MX7_sweep 12 [.ref S, .int (zi gap), .int (zi p), l3] [] (0, 0) (E, zg (swF G S gap ev p), zk L, r) Q = RK MX7_sweep 59 [.ref S, .int (zi gap), .int (zi (G S 13 + 1)), l3'] [] (0, 0) (E, zg (swF G S gap ev (G S 13 + 1)), zk L, r) Q := by
  have hgF : ∀ p, rgS (swF G S gap ev p) S := by
    intro p
    obtain ⟨g0, g1, g2, g3, g4, g6, g7, g8, g13, ga1, ga2, ga3, ga4, ga5⟩ := id hg
    unfold rgS
    rw [swF_S2 S (by omega), swF_S2 (S + 1) (by omega), swF_S2 (S + 3) (by omega), swF_S2 (S + 4) (by omega), swF_S2 (S + 5) (by omega)]
    refine ⟨g0, g1, g2, g3, g4, g6, g7, g8, g13, ga1, fun t => ?_, ga3, ga4, ga5⟩
    show 0 ≤ (if S + 2 = S + 2 ∧ swP G S gap p t = true then ev else G (S + 2) t) ∧ (if S + 2 = S + 2 ∧ swP G S gap p t = true then ev else G (S + 2) t) ≤ 2147483647
    split
    · omega
    · exact ga2 t
  intro k
  induction k with
  | zero =>
    intro l3 p h1 h2 h3 h4
    have e : p = G S 13 + 1 := by omega
    refine ⟨l3, fun Q => ?_⟩
    obtain ⟨s0, ⟨s1, s2, s3, s4, s5⟩, ⟨l1, l2, l3, l4, l5⟩, r1, r2, r3, r4, r5⟩ := id hs
    obtain ⟨g0, g1, g2, g3, g4, g6, g7, g8, g13, ga1, ga2, ga3, ga4, ga5⟩ := id hg
    have h6 : ¬ G S 13 + 1 ≤ G S 13 := by omega
    have eS : swF G S gap ev (G S 13 + 1) S = G S := swF_S2 S (by omega)
    rw [e]
    simp (disch := first | assumption | exact c2_int _ | exact c2_ref _ | exact c2_jk | exact c2_null | omega | (apply rN1; assumption) | (apply rN2; assumption) | (apply rN3; assumption) | (apply rN4; assumption) | exact bI_r _ | exact bI_01 _) only [↓fX7_sweep_0, ↓fX7_sweep_1, ↓fX7_sweep_2, ↓fX7_sweep_5, ↓fX7_sweep_6, ↓fX7_sweep_7, ↓fX7_sweep_10, ↓fX7_sweep_11, ↓fX7_sweep_12, ↓fX7_sweep_13, ↓fX7_sweep_14, ↓fX7_sweep_17, ↓fX7_sweep_20, ↓fX7_sweep_21, ↓fX7_sweep_22, ↓fX7_sweep_25, ↓fX7_sweep_26, ↓fX7_sweep_27, ↓fX7_sweep_28, ↓fX7_sweep_29, ↓fX7_sweep_30, ↓fX7_sweep_33, ↓fX7_sweep_36, ↓fX7_sweep_37, ↓fX7_sweep_40, ↓fX7_sweep_41, ↓fX7_sweep_42, ↓fX7_sweep_43, ↓fX7_sweep_46, ↓fX7_sweep_47, ↓fX7_sweep_50, ↓fX7_sweep_53, ↓fX7_sweep_56, ↓fX7_sweep_60, ↓fX7_sweep_61, ↓fX7_sweep_64, ↓fX7_sweep_65, ↓fX7_sweep_66, ↓fX7_sweep_69, ↓fX7_sweep_70, ↓fX7_sweep_73, ↓fX7_sweep_74, ↓fX7_sweep_77, ↓fX7_sweep_78, ↓fX7_sweep_81, ↓fX7_sweep_82, ↓fX7_sweep_85, ↓fX7_sweep_86, ↓fX7_sweep_89, ↓fX7_sweep_90, ↓fX7_sweep_93, ↓fX7_sweep_96, ↓fX7_sweep_97, ↓fX7_sweep_100, ↓fX7_sweep_101, ↓fX7_sweep_102, ↓fX7_sweep_105, ↓fX7_sweep_106, ↓fX7_sweep_107, ↓fX7_sweep_110, ↓fX7_sweep_111, eS, h6, and_self, true_and, and_true, false_and, and_false, not_true_eq_false, not_false_eq_true, or_self, true_or, or_true, false_or, or_false, ite_not, Decidable.not_not, decide_eq_true_eq, Bool.not_true, Bool.not_false, Bool.false_eq_true, Bool.not_eq_true, n10, n20, n21, n30, n31, n32, n40, n41, n42, n43, ↓reduceIte]
  | succ k ih =>
    intro l3 p h1 h2 h3 h4
    by_cases h6 : p ≤ G S 13
    · obtain ⟨i, i1, i2, i3, i4⟩ := nA_ix hw ⟨h2, h6⟩
      have hn := nA_0 hg ⟨h2, h6⟩
      have eS : swF G S gap ev p S = G S := swF_S2 S (by omega)
      have eA : nA (swF G S gap ev p) S = nA G S := nA_c2 eS (swF_S2 (S + 5) (by omega))
      have eI : iX (swF G S gap ev p) S = iX G S := iX_c1 eS
      have eX : iX G S (nA G S p) = i := by rw [i4]; exact iX_of hg hw i1
      obtain ⟨l3', hl⟩ := ih (.int (zi (nA G S p))) (p + 1) (by omega) (by omega) (by omega) (by omega)
      refine ⟨l3', fun Q => ?_⟩
      rw [← hl Q, fX7_sweep_12]
      have hG := hgF p
      by_cases h9 : spC (G S 0) (G S 6) p (nA G S p) gap = true
      · have eF : (if 0 ≤ (i : Int) ∧ (i : Int) < (le E (S + 2) : Int) then u2 (swF G S gap ev p) (S + 2) (i : Int).toNat ev else swF G S gap ev p) = swF G S gap ev (p + 1) := by
          obtain ⟨s0, ⟨s1, s2, s3, s4, s5⟩, ⟨l1, l2, l3, l4, l5⟩, r1, r2, r3, r4, r5⟩ := id hs
          obtain ⟨g0, g1, g2, g3, g4, g6, g7, g8, g13, ga1, ga2, ga3, ga4, ga5⟩ := id hg
          rw [if_pos (by omega), Int.toNat_natCast]
          funext q j
          show (if q = S + 2 ∧ j = i then ev else if q = S + 2 ∧ swP G S gap p j = true then ev else G q j) = if q = S + 2 ∧ swP G S gap (p + 1) j = true then ev else G q j
          by_cases hq : q = S + 2
          · simp only [hq, true_and]
            by_cases hj : j = i
            · subst hj
              have : swP G S gap (p + 1) j = true := by
                unfold swP
                rw [i2, i3, show p - 1 + 1 = p by omega, ← i4, h9]
                simp [i1]
                omega
              rw [if_pos rfl, if_pos this]
            · rw [if_neg hj]
              have : swP G S gap (p + 1) j = swP G S gap p j := by
                unfold swP
                by_cases hx : hX G S j = true
                · have hne : ctN (hX G S) j + 1 ≠ p := fun z => hj (ctN_inj (hX G S) hx i2 (by omega))
                  have e1 : decide (ctN (hX G S) j + 1 < p + 1) = decide (ctN (hX G S) j + 1 < p) := by
                    rw [decide_eq_decide]
                    omega
                  rw [e1]
                · have : hX G S j = false := by simpa using hx
                  rw [this]
                  simp
              rw [this]
          · simp only [hq, false_and, if_false]
        obtain ⟨s0, ⟨s1, s2, s3, s4, s5⟩, ⟨l1, l2, l3, l4, l5⟩, r1, r2, r3, r4, r5⟩ := id hs
        obtain ⟨g0, g1, g2, g3, g4, g6, g7, g8, g13, ga1, ga2, ga3, ga4, ga5⟩ := id hg
        simp (disch := first | assumption | exact c2_int _ | exact c2_ref _ | exact c2_jk | exact c2_null | omega | (apply rN1; assumption) | (apply rN2; assumption) | (apply rN3; assumption) | (apply rN4; assumption) | exact bI_r _ | exact bI_01 _) only [↓fX7_sweep_0, ↓fX7_sweep_1, ↓fX7_sweep_2, ↓fX7_sweep_5, ↓fX7_sweep_6, ↓fX7_sweep_7, ↓fX7_sweep_10, ↓fX7_sweep_11, ↓fX7_sweep_13, ↓fX7_sweep_14, ↓fX7_sweep_17, ↓fX7_sweep_20, ↓fX7_sweep_21, ↓fX7_sweep_22, ↓fX7_sweep_25, ↓fX7_sweep_26, ↓fX7_sweep_27, ↓fX7_sweep_28, ↓fX7_sweep_29, ↓fX7_sweep_30, ↓fX7_sweep_33, ↓fX7_sweep_36, ↓fX7_sweep_37, ↓fX7_sweep_40, ↓fX7_sweep_41, ↓fX7_sweep_42, ↓fX7_sweep_43, ↓fX7_sweep_46, ↓fX7_sweep_47, ↓fX7_sweep_50, ↓fX7_sweep_53, ↓fX7_sweep_56, ↓fX7_sweep_60, ↓fX7_sweep_61, ↓fX7_sweep_64, ↓fX7_sweep_65, ↓fX7_sweep_66, ↓fX7_sweep_69, ↓fX7_sweep_70, ↓fX7_sweep_73, ↓fX7_sweep_74, ↓fX7_sweep_77, ↓fX7_sweep_78, ↓fX7_sweep_81, ↓fX7_sweep_82, ↓fX7_sweep_85, ↓fX7_sweep_86, ↓fX7_sweep_89, ↓fX7_sweep_90, ↓fX7_sweep_93, ↓fX7_sweep_96, ↓fX7_sweep_97, ↓fX7_sweep_100, ↓fX7_sweep_101, ↓fX7_sweep_102, ↓fX7_sweep_105, ↓fX7_sweep_106, ↓fX7_sweep_107, ↓fX7_sweep_110, ↓fX7_sweep_111, ↓c7_numberAt, ↓c7_strikesPlace, ↓c7_indexOf, ↓c9_put, eS, eA, eI, eX, hev, bI_0, h6, h9, eF, and_self, true_and, and_true, false_and, and_false, not_true_eq_false, not_false_eq_true, or_self, true_or, or_true, false_or, or_false, ite_not, Decidable.not_not, decide_eq_true_eq, Bool.not_true, Bool.not_false, Bool.false_eq_true, Bool.not_eq_true, n10, n20, n21, n30, n31, n32, n40, n41, n42, n43, ↓reduceIte]
      · have eF : swF G S gap ev p = swF G S gap ev (p + 1) := by
          funext q j
          show (if q = S + 2 ∧ swP G S gap p j = true then ev else G q j) = if q = S + 2 ∧ swP G S gap (p + 1) j = true then ev else G q j
          have : swP G S gap (p + 1) j = swP G S gap p j := by
            unfold swP
            by_cases hx : hX G S j = true
            · by_cases hp : ctN (hX G S) j + 1 = p
              · have hj : j = i := ctN_inj (hX G S) hx i2 (by omega)
                subst hj
                rw [hp, ← i4]
                have : spC (G S 0) (G S 6) p (nA G S p) gap = false := by simpa using h9
                rw [this]
                simp
              · have e1 : decide (ctN (hX G S) j + 1 < p + 1) = decide (ctN (hX G S) j + 1 < p) := by
                  rw [decide_eq_decide]
                  omega
                rw [e1]
            · have : hX G S j = false := by simpa using hx
              rw [this]
              simp
          rw [this]
        obtain ⟨s0, ⟨s1, s2, s3, s4, s5⟩, ⟨l1, l2, l3, l4, l5⟩, r1, r2, r3, r4, r5⟩ := id hs
        obtain ⟨g0, g1, g2, g3, g4, g6, g7, g8, g13, ga1, ga2, ga3, ga4, ga5⟩ := id hg
        simp (disch := first | assumption | exact c2_int _ | exact c2_ref _ | exact c2_jk | exact c2_null | omega | (apply rN1; assumption) | (apply rN2; assumption) | (apply rN3; assumption) | (apply rN4; assumption) | exact bI_r _ | exact bI_01 _) only [↓fX7_sweep_0, ↓fX7_sweep_1, ↓fX7_sweep_2, ↓fX7_sweep_5, ↓fX7_sweep_6, ↓fX7_sweep_7, ↓fX7_sweep_10, ↓fX7_sweep_11, ↓fX7_sweep_13, ↓fX7_sweep_14, ↓fX7_sweep_17, ↓fX7_sweep_20, ↓fX7_sweep_21, ↓fX7_sweep_22, ↓fX7_sweep_25, ↓fX7_sweep_26, ↓fX7_sweep_27, ↓fX7_sweep_28, ↓fX7_sweep_29, ↓fX7_sweep_30, ↓fX7_sweep_33, ↓fX7_sweep_36, ↓fX7_sweep_37, ↓fX7_sweep_40, ↓fX7_sweep_41, ↓fX7_sweep_42, ↓fX7_sweep_43, ↓fX7_sweep_46, ↓fX7_sweep_47, ↓fX7_sweep_50, ↓fX7_sweep_53, ↓fX7_sweep_56, ↓fX7_sweep_60, ↓fX7_sweep_61, ↓fX7_sweep_64, ↓fX7_sweep_65, ↓fX7_sweep_66, ↓fX7_sweep_69, ↓fX7_sweep_70, ↓fX7_sweep_73, ↓fX7_sweep_74, ↓fX7_sweep_77, ↓fX7_sweep_78, ↓fX7_sweep_81, ↓fX7_sweep_82, ↓fX7_sweep_85, ↓fX7_sweep_86, ↓fX7_sweep_89, ↓fX7_sweep_90, ↓fX7_sweep_93, ↓fX7_sweep_96, ↓fX7_sweep_97, ↓fX7_sweep_100, ↓fX7_sweep_101, ↓fX7_sweep_102, ↓fX7_sweep_105, ↓fX7_sweep_106, ↓fX7_sweep_107, ↓fX7_sweep_110, ↓fX7_sweep_111, ↓c7_numberAt, ↓c7_strikesPlace, eS, eA, bI_0, h6, h9, and_self, true_and, and_true, false_and, and_false, not_true_eq_false, not_false_eq_true, or_self, true_or, or_true, false_or, or_false, ite_not, Decidable.not_not, decide_eq_true_eq, Bool.not_true, Bool.not_false, Bool.false_eq_true, Bool.not_eq_true, n10, n20, n21, n30, n31, n32, n40, n41, n42, n43, ↓reduceIte]
        rw [← eF]
    · have e : p = G S 13 + 1 := by omega
      refine ⟨l3, fun Q => ?_⟩
      obtain ⟨s0, ⟨s1, s2, s3, s4, s5⟩, ⟨l1, l2, l3, l4, l5⟩, r1, r2, r3, r4, r5⟩ := id hs
      obtain ⟨g0, g1, g2, g3, g4, g6, g7, g8, g13, ga1, ga2, ga3, ga4, ga5⟩ := id hg
      have eS : swF G S gap ev (G S 13 + 1) S = G S := swF_S2 S (by omega)
      rw [e] at h6 ⊢
      simp (disch := first | assumption | exact c2_int _ | exact c2_ref _ | exact c2_jk | exact c2_null | omega | (apply rN1; assumption) | (apply rN2; assumption) | (apply rN3; assumption) | (apply rN4; assumption) | exact bI_r _ | exact bI_01 _) only [↓fX7_sweep_0, ↓fX7_sweep_1, ↓fX7_sweep_2, ↓fX7_sweep_5, ↓fX7_sweep_6, ↓fX7_sweep_7, ↓fX7_sweep_10, ↓fX7_sweep_11, ↓fX7_sweep_12, ↓fX7_sweep_13, ↓fX7_sweep_14, ↓fX7_sweep_17, ↓fX7_sweep_20, ↓fX7_sweep_21, ↓fX7_sweep_22, ↓fX7_sweep_25, ↓fX7_sweep_26, ↓fX7_sweep_27, ↓fX7_sweep_28, ↓fX7_sweep_29, ↓fX7_sweep_30, ↓fX7_sweep_33, ↓fX7_sweep_36, ↓fX7_sweep_37, ↓fX7_sweep_40, ↓fX7_sweep_41, ↓fX7_sweep_42, ↓fX7_sweep_43, ↓fX7_sweep_46, ↓fX7_sweep_47, ↓fX7_sweep_50, ↓fX7_sweep_53, ↓fX7_sweep_56, ↓fX7_sweep_60, ↓fX7_sweep_61, ↓fX7_sweep_64, ↓fX7_sweep_65, ↓fX7_sweep_66, ↓fX7_sweep_69, ↓fX7_sweep_70, ↓fX7_sweep_73, ↓fX7_sweep_74, ↓fX7_sweep_77, ↓fX7_sweep_78, ↓fX7_sweep_81, ↓fX7_sweep_82, ↓fX7_sweep_85, ↓fX7_sweep_86, ↓fX7_sweep_89, ↓fX7_sweep_90, ↓fX7_sweep_93, ↓fX7_sweep_96, ↓fX7_sweep_97, ↓fX7_sweep_100, ↓fX7_sweep_101, ↓fX7_sweep_102, ↓fX7_sweep_105, ↓fX7_sweep_106, ↓fX7_sweep_107, ↓fX7_sweep_110, ↓fX7_sweep_111, eS, h6, and_self, true_and, and_true, false_and, and_false, not_true_eq_false, not_false_eq_true, or_self, true_or, or_true, false_or, or_false, ite_not, Decidable.not_not, decide_eq_true_eq, Bool.not_true, Bool.not_false, Bool.false_eq_true, Bool.not_eq_true, n10, n20, n21, n30, n31, n32, n40, n41, n42, n43, ↓reduceIte]
/-- the fields of a sieve that a round changes, as they are behind it -/
def swQ (G G' : Nat → Nat → Int) (S : Nat) (gap : Int) : Prop := fr6 G G' S ∧ (∀ j, j ≤ 4 → G' S j = G S j) ∧ (G' S 6 = G S 6 + 1 ∧ G' S 7 = G S 7 + 1 ∧ G' S 8 = G S 8) ∧ G' (S + 1) = G (S + 1) ∧ (∀ j : Nat, G' (S + 2) j = if (j : Int) < G S 3 ∧ hX G S j = true ∧ spC (G S 0) (G S 6) (ctN (hX G S) j + 1) (G S 1 + G S 2 * j) gap = true then G S 7 + 1 else G (S + 2) j) ∧
  (∀ j : Nat, G' (S + 3) j = if (j : Int) = G S 6 + 1 then gap else G (S + 3) j) ∧ (∀ j : Nat, G' (S + 4) j = if (j : Int) = G S 6 + 1 then G S 7 + 1 else G (S + 4) j) ∧ rgS G' S ∧ WR G' S
theorem c7_sweep (hs : shS E r S) (hg : rgS G S) (hw : WR G S) (hgap : 1 ≤ gap ∧ gap ≤ 100000) (hr : G S 6 < 600) (hv : G S 7 < 1000000) :
    ∃ G' : Nat → Nat → Int, swQ G G' S gap ∧ ∀ Q, RK MX7_sweep 0 [.ref S, .int (zi gap), jk, jk] [] (0, 0) (E, zg G, zk L, r) Q = Q (E, zg G', zk L, r) (.int (zi (G S 13 - G' S 13))) := by
  let ev := G S 7 + 1
  let G1 : Nat → Nat → Int := u2 G S 7 ev
  have a1 : ∀ q j, ¬ (q = S ∧ j = 7) → G1 q j = G q j := fun q j hn => if_neg hn
  have a7 : G1 S 7 = ev := u2_s _ _ _ _
  have aS : ∀ j, j ≠ 7 → G1 S j = G S j := fun j hj => a1 S j (fun z => hj z.2)
  have aq : ∀ q, q ≠ S → G1 q = G q := fun q hq => by funext j; exact a1 q j (fun z => hq z.1)
  have hX1 : hX G1 S = hX G S := by
    funext q
    unfold hX sK
    rw [aq _ (by omega)]
  have hg1 : rgS G1 S := by
    obtain ⟨g0, g1, g2, g3, g4, g6, g7, g8, g13, ga1, ga2, ga3, ga4, ga5⟩ := id hg
    unfold rgS
    rw [aS 0 (by decide), aS 1 (by decide), aS 2 (by decide), aS 3 (by decide), aS 4 (by decide), aS 6 (by decide), aS 8 (by decide), aS 13 (by decide), a7, aq _ (by omega), aq _ (by omega), aq _ (by omega), aq _ (by omega), aq _ (by omega)]
    exact ⟨g0, g1, g2, g3, g4, g6, ⟨by show 0 ≤ G S 7 + 1; omega, by show G S 7 + 1 ≤ 1000000; omega⟩, g8, g13, ga1, ga2, ga3, ga4, ga5⟩
  have hw1 : WR G1 S := by
    unfold WR at hw ⊢
    rw [hX1, aS 1 (by decide), aS 2 (by decide), aS 3 (by decide), aS 13 (by decide), aq _ (by omega)]
    exact hw
  obtain ⟨l3', hl⟩ := c7_sweep_loop (L := L) (E := E) (r := r) hs hg1 hw1 a7 (by omega : 1 ≤ gap ∧ gap ≤ 1000000) 600 jk 1 (by have := hg1.2.2.2.2.2.2.2.2.1; omega) (by omega) (by omega) (by have := hg1.2.2.2.2.2.2.2.2.1; omega)
  have e0 : swF G1 S gap ev 1 = G1 := by
    funext q j
    have hb := ctN_b (hX G1 S) j
    show (if q = S + 2 ∧ swP G1 S gap 1 j = true then ev else G1 q j) = G1 q j
    have : swP G1 S gap 1 j = false := by
      unfold swP
      have : decide (ctN (hX G1 S) j + 1 < 1) = false := by rw [decide_eq_false_iff_not]; omega
      rw [this]
      simp
    rw [this]
    simp
  rw [e0, aS 13 (by decide)] at hl
  let G2 : Nat → Nat → Int := swF G1 S gap ev (G S 13 + 1)
  let G3 : Nat → Nat → Int := u2 (u2 (u2 G2 S 6 (G S 6 + 1)) (S + 3) (G S 6 + 1).toNat gap) (S + 4) (G S 6 + 1).toNat ev
  have h6 := hg.2.2.2.2.2.1
  have b3 : ∀ q j, G3 q j = if q = S + 4 ∧ j = (G S 6 + 1).toNat then ev else if q = S + 3 ∧ j = (G S 6 + 1).toNat then gap else if q = S ∧ j = 6 then G S 6 + 1 else G2 q j := fun q j => rfl
  have b2 : ∀ q, q ≠ S + 2 → G2 q = G1 q := fun q hq => swF_S2 q hq
  have c_S : ∀ j, j ≠ 6 → j ≠ 7 → G3 S j = G S j := fun j h1 h2 => by
    rw [b3, if_neg (by omega), if_neg (by omega), if_neg (by omega), b2 S (by omega), aS j h2]
  have c_6 : G3 S 6 = G S 6 + 1 := by rw [b3, if_neg (by omega), if_neg (by omega), if_pos ⟨rfl, rfl⟩]
  have c_7 : G3 S 7 = ev := by rw [b3, if_neg (by omega), if_neg (by omega), if_neg (by omega), b2 S (by omega), a7]
  have c_q : ∀ q, q ≠ S → q ≠ S + 2 → q ≠ S + 3 → q ≠ S + 4 → G3 q = G q := fun q h1 h2 h3 h4 => by
    funext j
    rw [b3, if_neg (fun z => h4 z.1), if_neg (fun z => h3 z.1), if_neg (fun z => h1 z.1), b2 q h2, aq q h1]
  have c_2 : ∀ j : Nat, G3 (S + 2) j = if (j : Int) < G S 3 ∧ hX G S j = true ∧ spC (G S 0) (G S 6) (ctN (hX G S) j + 1) (G S 1 + G S 2 * j) gap = true then G S 7 + 1 else G (S + 2) j := by
    intro j
    rw [b3, if_neg (by omega), if_neg (by omega), if_neg (by omega)]
    show (if S + 2 = S + 2 ∧ swP G1 S gap (G S 13 + 1) j = true then ev else G1 (S + 2) j) = _
    rw [aq (S + 2) (by omega)]
    have : swP G1 S gap (G S 13 + 1) j = (decide ((j : Int) < G S 3) && hX G S j && spC (G S 0) (G S 6) (ctN (hX G S) j + 1) (G S 1 + G S 2 * j) gap) := by
      unfold swP
      rw [hX1, aS 0 (by decide), aS 1 (by decide), aS 2 (by decide), aS 3 (by decide), aS 6 (by decide)]
      by_cases q1 : (j : Int) < G S 3
      · by_cases q2 : hX G S j = true
        · have := (nA_of hw q1 q2).2.2
          have e5 : decide (ctN (hX G S) j + 1 < G S 13 + 1) = true := decide_eq_true (by omega)
          rw [e5]
          simp
        · have : hX G S j = false := by simpa using q2
          rw [this]
          simp
      · have : decide ((j : Int) < G S 3) = false := decide_eq_false q1
        rw [this]
        simp
    rw [this]
    simp only [true_and, Bool.and_eq_true, decide_eq_true_eq, and_assoc]
    rfl
  have c_3 : ∀ j : Nat, G3 (S + 3) j = if (j : Int) = G S 6 + 1 then gap else G (S + 3) j := by
    intro j
    rw [b3, if_neg (by omega), if_neg (c := S + 3 = S ∧ j = 6) (by omega), b2 _ (by omega), aq _ (by omega)]
    by_cases q : (j : Int) = G S 6 + 1
    · rw [if_pos q, if_pos ⟨rfl, by omega⟩]
    · rw [if_neg q, if_neg (by omega)]
  have c_4 : ∀ j : Nat, G3 (S + 4) j = if (j : Int) = G S 6 + 1 then G S 7 + 1 else G (S + 4) j := by
    intro j
    rw [b3, if_neg (c := S + 4 = S + 3 ∧ j = (G S 6 + 1).toNat) (by omega), if_neg (c := S + 4 = S ∧ j = 6) (by omega), b2 _ (by omega), aq _ (by omega)]
    by_cases q : (j : Int) = G S 6 + 1
    · rw [if_pos q, if_pos ⟨rfl, by omega⟩]
    · rw [if_neg q, if_neg (by omega)]
  have hg3 : rgS G3 S := by
    obtain ⟨g0, g1, g2, g3, g4, g6, g7, g8, g13, ga1, ga2, ga3, ga4, ga5⟩ := id hg
    unfold rgS
    rw [c_S 0 (by decide) (by decide), c_S 1 (by decide) (by decide), c_S 2 (by decide) (by decide), c_S 3 (by decide) (by decide), c_S 4 (by decide) (by decide), c_6, c_7, c_S 8 (by decide) (by decide), c_S 13 (by decide) (by decide), c_q (S + 1) (by omega) (by omega) (by omega) (by omega), c_q (S + 5) (by omega) (by omega) (by omega) (by omega)]
    refine ⟨g0, g1, g2, g3, g4, ⟨by omega, by omega⟩, ⟨by show 0 ≤ G S 7 + 1; omega, by show G S 7 + 1 ≤ 1000000; omega⟩, g8, g13, ga1, fun t => ?_, fun t => ?_, fun t => ?_, ga5⟩
    · rw [c_2]
      have := ga2 t
      split <;> omega
    · rw [c_3]
      have := ga3 t
      split <;> omega
    · rw [c_4]
      have := ga4 t
      split <;> omega
  obtain ⟨G', p1, p2, p3, p4⟩ := c7_closeUp (L := L) hs hg3 (by rw [c_S 2 (by decide) (by decide), c_S 3 (by decide) (by decide)]; exact hw.1)
  refine ⟨G', ⟨fun q hq => ?_, fun j hj => ?_, ⟨?_, ?_, ?_⟩, ?_, fun j => ?_, fun j => ?_, fun j => ?_, p2, p3⟩, fun Q => ?_⟩
  · funext j
    rw [p1 q j (by omega), c_q q (by omega) (by omega) (by omega) (by omega)]
  · rw [p1 S j (by omega), c_S j (by omega) (by omega)]
  · rw [p1 S 6 (by omega), c_6]
  · rw [p1 S 7 (by omega), c_7]
  · rw [p1 S 8 (by omega), c_S 8 (by decide) (by decide)]
  · funext j
    rw [p1 (S + 1) j (by omega), c_q (S + 1) (by omega) (by omega) (by omega) (by omega)]
  · rw [p1 (S + 2) j (by omega), c_2]
  · rw [p1 (S + 3) j (by omega), c_3]
  · rw [p1 (S + 4) j (by omega), c_4]
  · have h13 : G2 S 13 = G S 13 := by rw [b2 S (by omega), aS 13 (by decide)]
    have h66 : G2 S 6 = G S 6 := by rw [b2 S (by omega), aS 6 (by decide)]
    have h77 : G2 S 7 = ev := by rw [b2 S (by omega), a7]
    have hl' : ∀ Q, RK MX7_sweep 12 [.ref S, .int (zi gap), .int (zi 1), jk] [] (0, 0) (E, zg (u2 G S 7 (G S 7 + 1)), zk L, r) Q = RK MX7_sweep 59 [.ref S, .int (zi gap), .int (zi (G S 13 + 1)), l3'] [] (0, 0) (E, zg G2, zk L, r) Q := hl
    obtain ⟨s0, ⟨s1, s2, s3, s4, s5⟩, ⟨l1, l2, l3, l4, l5⟩, r1, r2, r3, r4, r5⟩ := id hs
    have k1 : u2 G2 S 6 (G S 6 + 1) S 6 = G S 6 + 1 := u2_s _ _ _ _
    have k2 : (if 0 ≤ G S 6 + 1 ∧ G S 6 + 1 < (le E (S + 3) : Int) then u2 (u2 G2 S 6 (G S 6 + 1)) (S + 3) (G S 6 + 1).toNat gap else u2 G2 S 6 (G S 6 + 1)) = u2 (u2 G2 S 6 (G S 6 + 1)) (S + 3) (G S 6 + 1).toNat gap := if_pos (by omega)
    have k3 : u2 (u2 G2 S 6 (G S 6 + 1)) (S + 3) (G S 6 + 1).toNat gap S 6 = G S 6 + 1 := by
      show (if S = S + 3 ∧ 6 = (G S 6 + 1).toNat then _ else if S = S ∧ 6 = 6 then _ else _) = _
      rw [if_neg (by omega), if_pos ⟨rfl, rfl⟩]
    have k4 : u2 (u2 G2 S 6 (G S 6 + 1)) (S + 3) (G S 6 + 1).toNat gap S 7 = ev := by
      show (if S = S + 3 ∧ 7 = (G S 6 + 1).toNat then _ else if S = S ∧ 7 = 6 then _ else G2 S 7) = _
      rw [if_neg (by omega), if_neg (by omega), h77]
    have k5 : (if 0 ≤ G S 6 + 1 ∧ G S 6 + 1 < (le E (S + 4) : Int) then u2 (u2 (u2 G2 S 6 (G S 6 + 1)) (S + 3) (G S 6 + 1).toNat gap) (S + 4) (G S 6 + 1).toNat ev else u2 (u2 G2 S 6 (G S 6 + 1)) (S + 3) (G S 6 + 1).toNat gap) = G3 := if_pos (by omega)
    have k6 : G3 S 13 = G S 13 := c_S 13 (by decide) (by decide)
    simp (disch := first | assumption | exact c2_int _ | exact c2_ref _ | exact c2_jk | exact c2_null | omega | (apply rN1; assumption) | (apply rN2; assumption) | (apply rN3; assumption) | (apply rN4; assumption) | exact bI_r _ | exact bI_01 _) only [↓fX7_sweep_0, ↓fX7_sweep_1, ↓fX7_sweep_2, ↓fX7_sweep_5, ↓fX7_sweep_6, ↓fX7_sweep_7, ↓fX7_sweep_10, ↓fX7_sweep_11, ↓fX7_sweep_13, ↓fX7_sweep_14, ↓fX7_sweep_17, ↓fX7_sweep_20, ↓fX7_sweep_21, ↓fX7_sweep_22, ↓fX7_sweep_25, ↓fX7_sweep_26, ↓fX7_sweep_27, ↓fX7_sweep_28, ↓fX7_sweep_29, ↓fX7_sweep_30, ↓fX7_sweep_33, ↓fX7_sweep_36, ↓fX7_sweep_37, ↓fX7_sweep_40, ↓fX7_sweep_41, ↓fX7_sweep_42, ↓fX7_sweep_43, ↓fX7_sweep_46, ↓fX7_sweep_47, ↓fX7_sweep_50, ↓fX7_sweep_53, ↓fX7_sweep_56, ↓fX7_sweep_60, ↓fX7_sweep_61, ↓fX7_sweep_64, ↓fX7_sweep_65, ↓fX7_sweep_66, ↓fX7_sweep_69, ↓fX7_sweep_70, ↓fX7_sweep_73, ↓fX7_sweep_74, ↓fX7_sweep_77, ↓fX7_sweep_78, ↓fX7_sweep_81, ↓fX7_sweep_82, ↓fX7_sweep_85, ↓fX7_sweep_86, ↓fX7_sweep_89, ↓fX7_sweep_90, ↓fX7_sweep_93, ↓fX7_sweep_96, ↓fX7_sweep_97, ↓fX7_sweep_100, ↓fX7_sweep_101, ↓fX7_sweep_102, ↓fX7_sweep_105, ↓fX7_sweep_106, ↓fX7_sweep_107, ↓fX7_sweep_110, ↓fX7_sweep_111, hl', and_self, true_and, and_true, false_and, and_false, not_true_eq_false, not_false_eq_true, or_self, true_or, or_true, false_or, or_false, ite_not, Decidable.not_not, decide_eq_true_eq, Bool.not_true, Bool.not_false, Bool.false_eq_true, Bool.not_eq_true, n10, n20, n21, n30, n31, n32, n40, n41, n42, n43, ↓reduceIte]
    simp (disch := first | assumption | exact c2_int _ | exact c2_ref _ | exact c2_jk | exact c2_null | omega | (apply rN1; assumption) | (apply rN2; assumption) | (apply rN3; assumption) | (apply rN4; assumption) | exact bI_r _ | exact bI_01 _) only [↓fX7_sweep_0, ↓fX7_sweep_1, ↓fX7_sweep_2, ↓fX7_sweep_5, ↓fX7_sweep_6, ↓fX7_sweep_7, ↓fX7_sweep_10, ↓fX7_sweep_11, ↓fX7_sweep_13, ↓fX7_sweep_14, ↓fX7_sweep_17, ↓fX7_sweep_20, ↓fX7_sweep_21, ↓fX7_sweep_22, ↓fX7_sweep_25, ↓fX7_sweep_26, ↓fX7_sweep_27, ↓fX7_sweep_28, ↓fX7_sweep_29, ↓fX7_sweep_30, ↓fX7_sweep_33, ↓fX7_sweep_36, ↓fX7_sweep_37, ↓fX7_sweep_40, ↓fX7_sweep_41, ↓fX7_sweep_42, ↓fX7_sweep_43, ↓fX7_sweep_46, ↓fX7_sweep_47, ↓fX7_sweep_50, ↓fX7_sweep_53, ↓fX7_sweep_56, ↓fX7_sweep_59, ↓fX7_sweep_60, ↓fX7_sweep_61, ↓fX7_sweep_64, ↓fX7_sweep_65, ↓fX7_sweep_66, ↓fX7_sweep_69, ↓fX7_sweep_70, ↓fX7_sweep_73, ↓fX7_sweep_74, ↓fX7_sweep_77, ↓fX7_sweep_78, ↓fX7_sweep_81, ↓fX7_sweep_82, ↓fX7_sweep_85, ↓fX7_sweep_86, ↓fX7_sweep_89, ↓fX7_sweep_90, ↓fX7_sweep_93, ↓fX7_sweep_96, ↓fX7_sweep_97, ↓fX7_sweep_100, ↓fX7_sweep_101, ↓fX7_sweep_102, ↓fX7_sweep_105, ↓fX7_sweep_106, ↓fX7_sweep_107, ↓fX7_sweep_110, ↓fX7_sweep_111, ↓c9_put, ↓p4, h13, h66, h77, k1, k2, k3, k4, k5, k6, and_self, true_and, and_true, false_and, and_false, not_true_eq_false, not_false_eq_true, or_self, true_or, or_true, false_or, or_false, ite_not, Decidable.not_not, decide_eq_true_eq, Bool.not_true, Bool.not_false, Bool.false_eq_true, Bool.not_eq_true, n10, n20, n21, n30, n31, n32, n40, n41, n42, n43, ↓reduceIte]
end BS
