/-! Of σ alone: a round's times, places, what it tells. -/
theorem fdL_at (P : Int → Bool) (e : Int) {j : Int} (hj : j < e) (hP : P j = true) : ∀ (k : Nat) (i : Int), e ≤ i + k → i ≤ j → (∀ t, i ≤ t → t < j → P t = false) → fdL P e k i = j := by
  intro k
  induction k with
  | zero => intro i h1 h2 _; omega
  | succ k ih =>
    intro i h1 h2 h3
    unfold fdL
    rw [if_pos (by omega)]
    by_cases q : i = j
    · subst q
      rw [if_pos hP]
    · have := h3 i (Int.le_refl _) (by omega)
      rw [if_neg (by rw [this]; decide)]
      exact ih (i + 1) (by omega) (by omega) fun t t1 t2 => h3 t (by omega) t2
theorem fdL_no (P : Int → Bool) (e : Int) : ∀ (k : Nat) (i : Int), (∀ t, i ≤ t → t < e → P t = false) → fdL P e k i = e := by
  intro k
  induction k with
  | zero => intro i _; rfl
  | succ k ih =>
    intro i h
    unfold fdL
    by_cases q : i < e
    · have := h i (Int.le_refl _) q
      rw [if_pos q, if_neg (by rw [this]; decide)]
      exact ih (i + 1) fun t t1 t2 => h t (by omega) t2
    · rw [if_neg q]
section TM
variable {σ : Nat → Int} {p x gap : Int}
/-- a sieve one round on -/
abbrev sw1 (σ : Nat → Int) : Nat → Int := swS σ (ngS σ)
theorem sw_lo (w : WF σ) : sw1 σ 0 = σ 0 ∧ sw1 σ 1 = σ 1 ∧ sw1 σ 2 = σ 2 ∧ sw1 σ 3 = σ 3 ∧ sw1 σ 4 = σ 4 + 1 ∧ sw1 σ 5 = σ 5 + 1 :=
  ⟨swS_lo σ _ (by decide) (by decide) (by decide) w, swS_lo σ _ (by decide) (by decide) (by decide) w, swS_lo σ _ (by decide) (by decide) (by decide) w, swS_lo σ _ (by decide) (by decide) (by decide) w, rfl, rfl⟩
theorem sw_wh (w : WF σ) : whZ (sw1 σ) (σ 4 + 1) = σ 5 + 1 ∧ sw1 σ (1222 + (σ 4 + 1).toNat) = ngS σ ∧ ∀ j : Int, 1 ≤ j → j ≤ σ 4 → whZ (sw1 σ) j ≤ σ 5 := by
  have h4 := w.2.2.2.2.1.1
  refine ⟨?_, ?_, fun j j1 j2 => ?_⟩
  · unfold whZ
    have e : sw1 σ (620 + (σ 4 + 1).toNat) = _ := swS_tm w (ngS σ) (j := (σ 4 + 1).toNat) (by omega) (by omega)
    rw [e, if_pos (by omega)]
  · have e : sw1 σ (1222 + (σ 4 + 1).toNat) = _ := swS_gp w (ngS σ) (j := (σ 4 + 1).toNat) (by omega) (by omega)
    rw [e, if_pos (by omega)]
  · unfold whZ
    have e : sw1 σ (620 + j.toNat) = _ := swS_tm w (ngS σ) (j := j.toNat) (by omega) (by omega)
    rw [e, if_neg (by omega)]
    exact (w.2.2.2.2.2.2.2.2.2.2.1 j.toNat (by omega) (by omega)).1.2
theorem sw_sk (w : WF σ) {i : Nat} (hi : (i : Int) < σ 3) : skZ (sw1 σ) i = if stk σ (ngS σ) i = true then σ 5 + 1 else if hbS σ i = true then 2147483647 else σ (20 + i) := by
  have h5 := WF_5 w
  have e : sw1 σ (20 + (i : Int).toNat) = if stk σ (ngS σ) i = true then σ 5 + 1 else σ (20 + i) := by
    rw [Int.toNat_natCast]
    exact swS_gone w _ hi
  unfold skZ
  rw [e]
  by_cases q : stk σ (ngS σ) i = true
  · rw [if_pos q, if_neg (by omega), if_pos q]
  · rw [if_neg q, if_neg q]
    by_cases q2 : σ (20 + i) = 0
    · rw [if_pos q2, if_pos (by unfold hbS; rw [Int.toNat_natCast]; exact decide_eq_true q2)]
    · rw [if_neg q2, if_neg (by unfold hbS; rw [Int.toNat_natCast]; exact fun z => q2 (of_decide_eq_true z))]
theorem stk_hb {i : Nat} (h : stk σ gap i = true) : hbS σ i = true := by
  unfold stk at h
  simp only [Bool.and_eq_true] at h
  exact h.1.2
theorem sw_old (w : WF σ) {i : Nat} (hi : (i : Int) < σ 3) (h : ¬ hbS σ i = true) : 1 ≤ σ (20 + i) ∧ σ (20 + i) ≤ σ 5 := by
  have h1 := w.2.2.2.2.2.2.2.2.2.1 i hi
  have h2 : σ (20 + i) ≠ 0 := fun z => h (by unfold hbS; rw [Int.toNat_natCast]; exact decide_eq_true z)
  omega
theorem sw_ge0 (w : WF σ) {i : Nat} (hi : (i : Int) < σ 3) : geZ (sw1 σ) (σ 5 + 1) i = hbS σ i := by
  have h5 := WF_5 w
  unfold geZ
  rw [sw_sk w hi]
  by_cases q : stk σ (ngS σ) i = true
  · rw [if_pos q, stk_hb q]
    exact decide_eq_true (Int.le_refl _)
  · rw [if_neg q]
    by_cases q2 : hbS σ i = true
    · rw [if_pos q2, q2]
      exact decide_eq_true (by omega)
    · have := sw_old w hi q2
      have e : hbS σ i = false := by simpa using q2
      rw [if_neg q2, e]
      exact decide_eq_false (by omega)
theorem sw_ge1 (w : WF σ) {i : Nat} (hi : (i : Int) < σ 3) : geZ (sw1 σ) (σ 5 + 1 + 1) i = hbS (sw1 σ) i := by
  have h5 := WF_5 w
  have eh : hbS (sw1 σ) i = (hbS σ i && !stk σ (ngS σ) i) := swS_hb w _ hi
  unfold geZ
  rw [sw_sk w hi, eh]
  by_cases q : stk σ (ngS σ) i = true
  · rw [if_pos q, q, Bool.not_true, Bool.and_false]
    exact decide_eq_false (by omega)
  · have e2 : stk σ (ngS σ) i = false := by simpa using q
    rw [if_neg q, e2, Bool.not_false, Bool.and_true]
    by_cases q2 : hbS σ i = true
    · rw [if_pos q2, q2]
      exact decide_eq_true (by omega)
    · have := sw_old w hi q2
      have e : hbS σ i = false := by simpa using q2
      rw [if_neg q2, e]
      exact decide_eq_false (by omega)
theorem sw_pa0 (w : WF σ) (hx : -1 ≤ x ∧ x < σ 3) : paZ (sw1 σ) x (σ 5 + 1) = ctN (hbS σ) (x + 1).toNat := ctN_congr _ fun i hi => sw_ge0 w (by omega)
theorem sw_pa1 (w : WF σ) (hx : -1 ≤ x ∧ x < σ 3) : paZ (sw1 σ) x (σ 5 + 1 + 1) = ctN (hbS (sw1 σ)) (x + 1).toNat := ctN_congr _ fun i hi => sw_ge1 w (by omega)
theorem sw_ia0 (w : WF σ) {i : Nat} (hi : (i : Int) < σ 3) (hh : hbS σ i = true) : iaZ (sw1 σ) (ctN (hbS σ) i + 1) (σ 5 + 1) = i := by
  have hb := ctN_b (hbS σ) i
  have e3 := (sw_lo w).2.2.2.1
  have ec : ∀ n : Nat, (n : Int) ≤ σ 3 → ctN (geZ (sw1 σ) (σ 5 + 1)) n = ctN (hbS σ) n := fun n hn => ctN_congr n fun j hj => sw_ge0 w (by omega)
  have hl := ctN_lt (hbS σ) (show i < (σ 3).toNat by omega) hh
  unfold iaZ
  rw [e3, ec _ (by omega), if_pos ⟨by omega, hl⟩, ixN_eq (geZ (sw1 σ) (σ 5 + 1)) (i := i) (by omega) (by rw [sw_ge0 w hi]; exact hh) (by rw [ec _ (by omega)]; omega)]
theorem sw_ia1 (w : WF σ) {i : Nat} (hi : (i : Int) < σ 3) (hh : hbS (sw1 σ) i = true) : iaZ (sw1 σ) (ctN (hbS (sw1 σ)) i + 1) (σ 5 + 1 + 1) = i := by
  have hb := ctN_b (hbS (sw1 σ)) i
  have e3 := (sw_lo w).2.2.2.1
  have ec : ∀ n : Nat, (n : Int) ≤ σ 3 → ctN (geZ (sw1 σ) (σ 5 + 1 + 1)) n = ctN (hbS (sw1 σ)) n := fun n hn => ctN_congr n fun j hj => sw_ge1 w (by omega)
  have hl := ctN_lt (hbS (sw1 σ)) (show i < (σ 3).toNat by omega) hh
  unfold iaZ
  rw [e3, ec _ (by omega), if_pos ⟨by omega, hl⟩, ixN_eq (geZ (sw1 σ) (σ 5 + 1 + 1)) (i := i) (by omega) (by rw [sw_ge1 w hi]; exact hh) (by rw [ec _ (by omega)]; omega)]
theorem sw_ian (w : WF σ) : iaZ (sw1 σ) (szS σ + 1) (σ 5 + 1) = -1 ∧ iaZ (sw1 σ) (szS (sw1 σ) + 1) (σ 5 + 1 + 1) = -1 := by
  have e3 := (sw_lo w).2.2.2.1
  have e0 : ctN (geZ (sw1 σ) (σ 5 + 1)) (σ 3).toNat = szS σ := ctN_congr _ fun j hj => sw_ge0 w (by omega)
  have e1 : ctN (geZ (sw1 σ) (σ 5 + 1 + 1)) (σ 3).toNat = szS (sw1 σ) := by
    unfold szS
    rw [e3]
    exact ctN_congr _ fun j hj => sw_ge1 w (by omega)
  unfold iaZ
  rw [e3, e0, e1, if_neg (by omega), if_neg (by omega)]
  exact ⟨rfl, rfl⟩
theorem sw_ro (w : WF σ) : roZ (sw1 σ) (σ 5 + 1) = σ 4 + 1 := by
  have h5 := WF_5 w
  have h4 := w.2.2.2.2.1.1
  obtain ⟨e1, -, e3⟩ := sw_wh w
  have e : fdL (fun i => decide (whZ (sw1 σ) i = σ 5 + 1)) (sw1 σ 4 + 1) 601 1 = σ 4 + 1 :=
    fdL_at _ _ (show σ 4 + 1 < σ 4 + 1 + 1 by omega) (decide_eq_true e1) 601 1 (show σ 4 + 1 + 1 ≤ 1 + ((601 : Nat) : Int) by omega) (by omega) fun t t1 t2 => decide_eq_false (by have := e3 t t1 (by omega); omega)
  unfold roZ
  rw [e]
  exact if_pos (show σ 4 + 1 < σ 4 + 1 + 1 by omega)
/-- what leads asks, of a sieve one round on -/
theorem sw_LDS (w : WF σ) (hn : ngS σ ≠ -1) : LDS (sw1 σ) (σ 4 + 1) (fun j => nAS σ ((j : Int) + 1)) (fun j => nAS (sw1 σ) ((j : Int) + 1)) (szS σ).toNat (szS (sw1 σ)).toNat := by
  have wt : WF (sw1 σ) := swS_WF w hn
  have h5 := WF_5 w
  have h4 := w.2.2.2.2.1.1
  obtain ⟨e0, e1, e2, e3, e4, e5⟩ := sw_lo w
  obtain ⟨f1, -, -⟩ := sw_wh w
  have sb := szS_b w
  have tb := szS_b wt
  have eh : ∀ i : Nat, (i : Int) < σ 3 → hbS (sw1 σ) i = (hbS σ i && !stk σ (ngS σ) i) := fun i hi => swS_hb w _ hi
  have lb : ∀ p i : Nat, (i : Int) < σ 3 → hbS (sw1 σ) i = true → (p : Int) = ctN (hbS (sw1 σ)) i + 1 → lbZ (sw1 σ) (σ 4 + 1) (σ 4 + 1) p = ctN (hbS σ) (i + 1) := by
    intro p i hi hh hp
    unfold lbZ
    rw [e4, if_neg (by omega), f1, hp, sw_ia1 w hi hh, if_neg (by omega), sw_pa0 w (by omega)]
    congr 1
  have lo : ∀ k i : Nat, (i : Int) < σ 3 → hbS σ i = true → (k : Int) = ctN (hbS σ) i + 1 → lnoZ (sw1 σ) (σ 4 + 1) k = if stk σ (ngS σ) i = true then -1 else ctN (hbS (sw1 σ)) (i + 1) := by
    intro k i hi hh hk
    unfold lnoZ
    rw [e4, if_pos (by omega), f1, hk, sw_ia0 w hi hh, sw_sk w hi]
    by_cases q : stk σ (ngS σ) i = true
    · rw [if_pos q, if_pos (Or.inr rfl), if_pos q]
    · rw [if_neg q, if_neg q, if_pos hh, if_neg (by omega), sw_pa1 w (by omega)]
      congr 1
  refine ⟨fun p p1 p2 => ?_, fun p p1 p2 => ?_, ?_, ?_⟩
  · obtain ⟨i, i1, i2, i3, i4, -⟩ := nAS_ix wt (p := p) ⟨by omega, by omega⟩
    rw [e3] at i1
    have ih := eh i i1
    rw [i2] at ih
    have hb : hbS σ i = true ∧ stk σ (ngS σ) i = false := by
      have := ih.symm
      simp only [Bool.and_eq_true, Bool.not_eq_true'] at this
      exact this
    obtain ⟨n1, n2, n3⟩ := nAS_of w i1 hb.1
    have cb := ctN_b (hbS σ) i
    have cl : ctN (hbS (sw1 σ)) i ≤ ctN (hbS σ) i := ctN_le i fun j hj z => by
      rw [eh j (by omega)] at z
      simp only [Bool.and_eq_true] at z
      exact z.1
    have c1 : ctN (hbS σ) (i + 1) = ctN (hbS σ) i + 1 := by rw [ctN, if_pos hb.1]
    have c2 : ctN (hbS (sw1 σ)) (i + 1) = ctN (hbS (sw1 σ)) i + 1 := by rw [ctN, if_pos i2]
    refine ⟨(ctN (hbS σ) i + 1).toNat, ?_, ⟨by omega, by omega⟩, ?_, ?_⟩
    · rw [lb p i i1 i2 (by omega), c1]
      omega
    · show nAS σ ((((ctN (hbS σ) i + 1).toNat - 1 : Nat) : Int) + 1) = nAS (sw1 σ) (((p - 1 : Nat) : Int) + 1)
      rw [show (((ctN (hbS σ) i + 1).toNat - 1 : Nat) : Int) + 1 = ctN (hbS σ) i + 1 by omega, show ((p - 1 : Nat) : Int) + 1 = p by omega, n1, i4, e1, e2]
    · rw [lo _ i i1 hb.1 (by omega), hb.2, if_neg (by decide), c2]
      omega
  · obtain ⟨i, i1, i2, i3, i4, i5, i6⟩ := nAS_ix w (p := p) ⟨by omega, by omega⟩
    have ih := eh i i1
    rw [i2, Bool.true_and] at ih
    have ef : (fun j : Nat => nAS σ ((j : Int) + 1)) (p - 1) = σ 1 + σ 2 * i := by
      show nAS σ (((p - 1 : Nat) : Int) + 1) = _
      rw [show ((p - 1 : Nat) : Int) + 1 = p by omega, i4]
    rw [ef]
    have ix : iXS (sw1 σ) (σ 1 + σ 2 * i) = i := by
      rw [← e1, ← e2]
      exact iXS_of wt (by rw [e3]; exact i1)
    by_cases q : stk σ (ngS σ) i = true
    · right
      rw [q] at ih
      have hh : ¬ hbS (sw1 σ) (i : Int) = true := by rw [ih]; decide
      have ho : ¬ ((i : Int) = -1 ∨ hbS (sw1 σ) (i : Int) = true) := fun z => by
        rcases z with z | z
        · omega
        · exact hh z
      have es : skZ (sw1 σ) (i : Int) = σ 5 + 1 := by rw [sw_sk w i1, if_pos q]
      refine ⟨?_, ?_, ?_, ?_⟩
      · unfold poZ
        rw [if_neg]
        rw [hasS_hb (by rw [ix]; omega), ix]
        exact hh
      · rw [lo p i i1 i2 (by omega), if_pos q]
      · unfold osZ
        rw [ix, if_neg ho, if_pos rfl, es, sw_ro w]
      · unfold osZ
        rw [ix, if_neg ho, if_neg (by decide), es, sw_pa0 w (by omega), show ((i : Int) + 1).toNat = i + 1 by omega, ctN, if_pos i2]
        omega
    · left
      have q2 : stk σ (ngS σ) i = false := by simpa using q
      rw [q2, Bool.not_false] at ih
      obtain ⟨n1, n2, n3⟩ := nAS_of wt (by rw [e3]; exact i1) ih
      have en : nAS (sw1 σ) (ctN (hbS (sw1 σ)) i + 1) = σ 1 + σ 2 * i := by rw [n1, e1, e2]
      have ep : poZ (sw1 σ) (σ 1 + σ 2 * i) = ctN (hbS (sw1 σ)) i + 1 := by
        rw [← en]
        exact poZ_at wt ⟨n2, n3⟩
      have c2 : ctN (hbS (sw1 σ)) (i + 1) = ctN (hbS (sw1 σ)) i + 1 := by rw [ctN, if_pos ih]
      rw [ep]
      refine ⟨by omega, (ctN (hbS (sw1 σ)) i + 1).toNat, ?_, by omega, ?_⟩
      · rw [lo p i i1 i2 (by omega), if_neg q, c2]
        omega
      · show nAS (sw1 σ) ((((ctN (hbS (sw1 σ)) i + 1).toNat - 1 : Nat) : Int) + 1) = _
        rw [show (((ctN (hbS (sw1 σ)) i + 1).toNat - 1 : Nat) : Int) + 1 = ctN (hbS (sw1 σ)) i + 1 by omega, en]
  · rw [Int.toNat_of_nonneg (by omega)]
    unfold lbZ
    rw [e4, if_neg (by omega), f1, (sw_ian w).2, if_pos rfl]
  · rw [Int.toNat_of_nonneg (by omega)]
    unfold lnoZ
    rw [e4, if_pos (by omega), f1, (sw_ian w).1, if_pos (Or.inl rfl)]
theorem sw_tot (w : WF σ) : paZ (sw1 σ) (sw1 σ 3 - 1) (σ 5 + 1) = szS σ ∧ paZ (sw1 σ) (sw1 σ 3 - 1) (σ 5 + 1 + 1) = szS (sw1 σ) := by
  have w3 := w.2.2.2.1
  obtain ⟨e0, e1, e2, e3, e4, e5⟩ := sw_lo w
  have ez : szS (sw1 σ) = ctN (hbS (sw1 σ)) (σ 3).toNat := by
    unfold szS
    rw [e3]
  rw [e3, sw_pa0 w (by omega), sw_pa1 w (by omega), ez, Int.sub_add_cancel]
  exact ⟨rfl, rfl⟩
/-- what is told of the round done -/
theorem sw_or (w : WF σ) : orZ (sw1 σ) (σ 4 + 1) 0 = ngS σ ∧ orZ (sw1 σ) (σ 4 + 1) 1 = szS σ - szS (sw1 σ) ∧ orZ (sw1 σ) (σ 4 + 1) 2 = fsZ (sw1 σ) (σ 5 + 1) ∧ orZ (sw1 σ) (σ 4 + 1) 3 = szS (sw1 σ) := by
  have h4 := w.2.2.2.2.1.1
  obtain ⟨e0, e1, e2, e3, e4, e5⟩ := sw_lo w
  obtain ⟨f1, f2, -⟩ := sw_wh w
  obtain ⟨t1, t2⟩ := sw_tot w
  have hc : 1 ≤ σ 4 + 1 ∧ σ 4 + 1 ≤ sw1 σ 4 := by rw [e4]; omega
  unfold orZ
  refine ⟨?_, ?_, ?_, ?_⟩
  · rw [if_pos hc, if_pos rfl, f2]
  · rw [if_pos hc, if_neg (by decide), if_pos rfl, f1, t1, t2]
  · rw [if_pos hc, if_neg (by decide), if_neg (by decide), if_pos rfl, f1]
  · rw [if_pos hc, if_neg (by decide), if_neg (by decide), if_neg (by decide), f1, t2]
end TM
