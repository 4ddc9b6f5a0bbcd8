/-! Rounds over the row of numbers. -/
theorem ctN_le {P P' : Int → Bool} : ∀ n : Nat, (∀ i : Nat, i < n → P' (i : Int) = true → P (i : Int) = true) → ctN P' n ≤ ctN P n := by
  intro n
  induction n with
  | zero => intro _; exact Int.le_refl _
  | succ n ih =>
    intro h
    have h1 := ih (fun i hi => h i (by omega))
    have h2 := h n (by omega)
    rw [ctN, ctN]
    by_cases q : P' (n : Int) = true
    · rw [if_pos q, if_pos (h2 q)]
      omega
    · rw [if_neg q]
      split <;> omega
theorem ctN_less {P P' : Int → Bool} : ∀ n : Nat, (∀ i : Nat, i < n → P' (i : Int) = true → P (i : Int) = true) → (∃ i : Nat, i < n ∧ P (i : Int) = true ∧ P' (i : Int) = false) → ctN P' n + 1 ≤ ctN P n := by
  intro n
  induction n with
  | zero => intro _ ⟨i, hi, _⟩; omega
  | succ n ih =>
    intro h ⟨i, hi, h1, h2⟩
    have h3 := ctN_le n (fun i hi => h i (by omega) : ∀ i : Nat, i < n → P' (i : Int) = true → P (i : Int) = true)
    rw [ctN, ctN]
    by_cases q : i = n
    · subst q
      rw [if_pos h1, h2]
      simp
      exact h3
    · have h4 := ih (fun i hi => h i (by omega)) ⟨i, by omega, h1, h2⟩
      have h5 := h n (by omega)
      by_cases q2 : P' (n : Int) = true
      · rw [if_pos q2, if_pos (h5 q2)]
        omega
      · rw [if_neg q2]
        split <;> omega
theorem ctN_pos {P : Int → Bool} {n i : Nat} (hi : i < n) (h : P (i : Int) = true) : 1 ≤ ctN P n := by
  have h1 := ctN_lt P hi h
  have h2 := ctN_b P i
  omega
theorem exL_ex (P : Int → Bool) (e : Int) : ∀ (k : Nat) (i : Int), exL P e k i = true → ∃ p, i ≤ p ∧ p < e ∧ P p = true := by
  intro k
  induction k with
  | zero => intro i h; cases h
  | succ k ih =>
    intro i h
    unfold exL at h
    by_cases q : i < e
    · rw [if_pos q] at h
      by_cases q2 : P i = true
      · exact ⟨i, Int.le_refl _, q, q2⟩
      · rw [if_neg q2] at h
        obtain ⟨p, h1, h2, h3⟩ := ih _ h
        exact ⟨p, by omega, h2, h3⟩
    · rw [if_neg q] at h
      cases h
theorem exL_of (P : Int → Bool) (e : Int) : ∀ (k : Nat) (i : Int), e ≤ i + k → (∃ p, i ≤ p ∧ p < e ∧ P p = true) → exL P e k i = true := by
  intro k
  induction k with
  | zero => intro i h ⟨p, h1, h2, h3⟩; omega
  | succ k ih =>
    intro i h ⟨p, h1, h2, h3⟩
    unfold exL
    rw [if_pos (by omega)]
    by_cases q : P i = true
    · rw [if_pos q]
    · rw [if_neg q]
      refine ih _ (by omega) ⟨p, ?_, h2, h3⟩
      have : p ≠ i := fun z => q (by rw [← z]; exact h3)
      omega
section SW
variable {G G' : Nat → Nat → Int} {S S2 : Nat} {σ : Nat → Int} {gap : Int}
theorem nAS_ix (w : WF σ) {p : Int} (hp : 1 ≤ p ∧ p ≤ szS σ) : ∃ i : Nat, (i : Int) < σ 3 ∧ hbS σ i = true ∧ ctN (hbS σ) i = p - 1 ∧ nAS σ p = σ 1 + σ 2 * i ∧ 0 ≤ nAS σ p ∧ nAS σ p ≤ 100000 := by
  obtain ⟨q1, q2, q3⟩ := ixN_ok (hbS σ) (σ 3).toNat p hp.1 hp.2
  obtain ⟨-, w1, w2, w3, -⟩ := w
  have b1 : 0 ≤ σ 2 * (ixN (hbS σ) (σ 3).toNat p : Int) := Int.mul_nonneg (by omega) (by omega)
  have b2 : σ 2 * (ixN (hbS σ) (σ 3).toNat p : Int) ≤ 99 * (ixN (hbS σ) (σ 3).toNat p : Int) := Int.mul_le_mul_of_nonneg_right (by omega) (by omega)
  refine ⟨_, by omega, q2, q3, ?_, ?_⟩
  · unfold nAS
    rw [if_pos hp]
  · unfold nAS
    rw [if_pos hp]
    omega
theorem nAS_b (w : WF σ) (p : Int) : -1 ≤ nAS σ p ∧ nAS σ p ≤ 100000 := by
  by_cases hp : 1 ≤ p ∧ p ≤ szS σ
  · obtain ⟨i, -, -, -, -, h1, h2⟩ := nAS_ix w hp
    omega
  · unfold nAS
    rw [if_neg hp]
    omega
theorem glS_b (w : WF σ) : glS σ ≤ 100000 := by
  have h5 := WF_5 w
  have hn := nAS_b w (σ 4 + 2)
  obtain ⟨w0, w1, w2, w3, w4, w5, w6, w7, w8, -⟩ := w
  unfold glS
  by_cases k1 : σ 0 = 1
  · rw [if_pos k1]; omega
  · rw [if_neg k1]
    by_cases k4 : σ 0 = 4
    · have := w7 k4
      rw [if_pos k4]
      split <;> omega
    · rw [if_neg k4]
      by_cases k5 : σ 0 = 5
      · obtain ⟨x1, x2, x3, x4⟩ := w8 k5
        rw [if_pos k5]
        split
        · have := x4 (σ 4).toNat (by omega)
          omega
        · omega
      · rw [if_neg k5]
        omega
/-- what can be told of a round that can be -/
theorem ngS_ok (w : WF σ) (h : ngS σ ≠ -1) : (2 ≤ ngS σ ∧ ngS σ ≤ 100000) ∧ (σ 0 ≤ 3 → ∃ j : Nat, (j : Int) < σ 3 ∧ stk σ (ngS σ) j = true) ∧ (σ 0 = 4 → σ 4 < σ 9) ∧ (σ 0 = 5 → σ 4 < σ 7) := by
  have hb := glS_b w
  unfold ngS at h ⊢
  by_cases h1 : glS σ < 2
  · rw [if_pos h1] at h
    exact absurd rfl h
  · rw [if_neg h1] at h ⊢
    by_cases h2 : σ 0 = 4 ∨ σ 0 = 5 ∨ exL (fun p => spC (σ 0) (σ 4) p (nAS σ p) (glS σ)) (szS σ + 1) 601 1 = true
    · rw [if_pos h2]
      refine ⟨by omega, fun k3 => ?_, fun k4 => ?_, fun k5 => ?_⟩
      · rcases h2 with h2 | h2 | h2
        · omega
        · omega
        · obtain ⟨p, p1, p2, p3⟩ := exL_ex _ _ _ _ h2
          obtain ⟨i, i1, i2, i3, i4, -⟩ := nAS_ix w (p := p) ⟨p1, by omega⟩
          refine ⟨i, i1, ?_⟩
          unfold stk
          have p3' : spC (σ 0) (σ 4) p (nAS σ p) (glS σ) = true := p3
          rw [i2, i3, show p - 1 + 1 = p by omega, ← i4, p3', decide_eq_true i1]
          rfl
      · unfold glS at h1
        rw [if_neg (by omega), if_pos k4] at h1
        by_cases q : σ 4 < σ 9
        · exact q
        · rw [if_neg q] at h1
          omega
      · unfold glS at h1
        rw [if_neg (by omega), if_neg (by omega), if_pos k5] at h1
        by_cases q : σ 4 < σ 7
        · exact q
        · rw [if_neg q] at h1
          omega
    · rw [if_neg h2] at h
      exact absurd rfl h
theorem swS_gone (w : WF σ) (gap : Int) {j : Nat} (hj : (j : Int) < σ 3) : swS σ gap (20 + j) = if stk σ gap j = true then σ 5 + 1 else σ (20 + j) := by
  have w3 := w.2.2.2.1
  unfold swS
  rw [if_neg (by omega), if_neg (by omega), if_pos (by omega), Nat.add_sub_cancel_left]
theorem swS_lo (σ : Nat → Int) (gap : Int) {k : Nat} (h4 : k ≠ 4) (h5 : k ≠ 5) (hk : k < 20) (w : WF σ) : swS σ gap k = σ k := by
  have := WF_5 w
  have w4 := w.2.2.2.2.1
  unfold swS
  rw [if_neg h4, if_neg h5, if_neg (by omega), if_neg (by omega), if_neg (by omega)]
theorem swS_hb (w : WF σ) (gap : Int) {j : Nat} (hj : (j : Int) < σ 3) : hbS (swS σ gap) j = (hbS σ j && !stk σ gap j) := by
  have h5 := WF_5 w
  unfold hbS
  rw [Int.toNat_natCast, swS_gone w gap hj]
  by_cases q : stk σ gap j = true
  · rw [if_pos q, q]
    simp
    omega
  · rw [if_neg q]
    have : stk σ gap j = false := by simpa using q
    rw [this]
    simp
theorem spC_1 {kind rounds number gap : Int} (hg : 2 ≤ gap) (hr : 0 ≤ rounds) : spC kind rounds 1 number gap = false := by
  unfold spC
  by_cases k2 : kind = 2
  · rw [if_pos k2, decide_eq_false_iff_not]
    omega
  · rw [if_neg k2]
    by_cases k3 : kind = 3
    · rw [if_pos k3, decide_eq_false_iff_not]
      omega
    · rw [if_neg k3, decide_eq_false_iff_not]
      rw [Int.emod_eq_of_lt (by omega) (by omega)]
      omega
theorem swS_sz (w : WF σ) (hg : 2 ≤ gap) : 1 ≤ szS (swS σ gap) ∧ szS (swS σ gap) ≤ szS σ ∧ ((∃ j : Nat, (j : Int) < σ 3 ∧ stk σ gap j = true) → szS (swS σ gap) + 1 ≤ szS σ) := by
  have w3 := w.2.2.2.1
  have w5 := w.2.2.2.2.2.1
  have w4 := w.2.2.2.2.1
  have e3 : swS σ gap 3 = σ 3 := swS_lo σ gap (by decide) (by decide) (by decide) w
  have hsub : ∀ i : Nat, i < (σ 3).toNat → hbS (swS σ gap) (i : Int) = true → hbS σ (i : Int) = true := by
    intro i hi h
    rw [swS_hb w gap (by omega)] at h
    simp only [Bool.and_eq_true] at h
    exact h.1
  unfold szS
  rw [e3]
  refine ⟨?_, ctN_le _ hsub, fun ⟨j, j1, j2⟩ => ctN_less _ hsub ⟨j, by omega, ?_, ?_⟩⟩
  · obtain ⟨i, i1, i2, i3, -⟩ := nAS_ix w (p := 1) ⟨by omega, w5.1⟩
    refine ctN_pos (i := i) (by omega) ?_
    rw [swS_hb w gap i1, i2]
    have : stk σ gap i = false := by
      unfold stk
      rw [i3, show (1 : Int) - 1 + 1 = 1 by omega, spC_1 hg w4.1]
      simp
    rw [this]
    rfl
  · unfold stk at j2
    simp only [Bool.and_eq_true] at j2
    exact j2.1.2
  · rw [swS_hb w gap j1, j2]
    simp
theorem swS_tm (w : WF σ) (gap : Int) {j : Nat} (j1 : 1 ≤ j) (j2 : (j : Int) ≤ σ 4 + 1) : swS σ gap (620 + j) = if (j : Int) = σ 4 + 1 then σ 5 + 1 else σ (620 + j) := by
  have h5 := WF_5 w
  unfold swS
  rw [if_neg (by omega), if_neg (by omega), if_neg (by omega)]
  by_cases q : (j : Int) = σ 4 + 1
  · rw [if_pos (by omega), if_pos q]
  · rw [if_neg (by omega), if_neg (by omega), if_neg q]
theorem swS_gp (w : WF σ) (gap : Int) {j : Nat} (j1 : 1 ≤ j) (j2 : (j : Int) ≤ σ 4 + 1) : swS σ gap (1222 + j) = if (j : Int) = σ 4 + 1 then gap else σ (1222 + j) := by
  have h5 := WF_5 w
  unfold swS
  rw [if_neg (by omega), if_neg (by omega), if_neg (by omega), if_neg (by omega)]
  by_cases q : (j : Int) = σ 4 + 1
  · rw [if_pos (by omega), if_pos q]
  · rw [if_neg (by omega), if_neg q]
theorem swS_WF (w : WF σ) (h : ngS σ ≠ -1) : WF (swS σ (ngS σ)) := by
  obtain ⟨n1, n2, n3, n4⟩ := ngS_ok w h
  have h5 := WF_5 w
  obtain ⟨z1, z2, z3⟩ := swS_sz w n1.1
  have lo : ∀ k : Nat, k ≠ 4 → k ≠ 5 → k < 20 → swS σ (ngS σ) k = σ k := fun k a b c => swS_lo σ _ a b c w
  have go : ∀ j : Nat, (j : Int) < σ 3 → swS σ (ngS σ) (20 + j) = if stk σ (ngS σ) j = true then σ 5 + 1 else σ (20 + j) := fun j hj => swS_gone w _ hj
  have e4 : swS σ (ngS σ) 4 = σ 4 + 1 := rfl
  have e5 : swS σ (ngS σ) 5 = σ 5 + 1 := rfl
  have w4' := w.2.2.2.2.1
  have tm : ∀ j : Nat, 1 ≤ j → (j : Int) ≤ σ 4 + 1 → swS σ (ngS σ) (620 + j) = if (j : Int) = σ 4 + 1 then σ 5 + 1 else σ (620 + j) := by
    intro j j1 j2
    unfold swS
    rw [if_neg (by omega), if_neg (by omega), if_neg (by omega)]
    by_cases q : (j : Int) = σ 4 + 1
    · rw [if_pos (by omega), if_pos q]
    · rw [if_neg (by omega), if_neg (by omega), if_neg q]
  have gp : ∀ j : Nat, 1 ≤ j → (j : Int) ≤ σ 4 + 1 → swS σ (ngS σ) (1222 + j) = if (j : Int) = σ 4 + 1 then ngS σ else σ (1222 + j) := by
    intro j j1 j2
    unfold swS
    rw [if_neg (by omega), if_neg (by omega), if_neg (by omega), if_neg (by omega)]
    by_cases q : (j : Int) = σ 4 + 1
    · rw [if_pos (by omega), if_pos q]
    · rw [if_neg (by omega), if_neg q]
  obtain ⟨w0, w1, w2, w3, w4, w5, w6, w7, w8, w9, w10, w11, w12⟩ := w
  unfold WF
  rw [lo 0 (by decide) (by decide) (by decide), lo 1 (by decide) (by decide) (by decide), lo 2 (by decide) (by decide) (by decide), lo 3 (by decide) (by decide) (by decide), lo 6 (by decide) (by decide) (by decide), lo 7 (by decide) (by decide) (by decide), lo 8 (by decide) (by decide) (by decide), lo 9 (by decide) (by decide) (by decide), e4, e5]
  refine ⟨w0, w1, w2, w3, by omega, by omega, fun k => ?_, fun k => ?_, fun k => ?_, fun j hj => ?_, fun j j1 j2 => ?_, fun i j i1 i2 i3 => ?_, fun t t1 t2 => ?_⟩
  · have := z3 (n2 k)
    have := w6 k
    omega
  · have := n3 k
    have := w7 k
    omega
  · obtain ⟨x1, x2, x3, x4⟩ := w8 k
    have := n4 k
    refine ⟨by omega, x2, x3, fun j hj => ?_⟩
    rw [lo (8 + j) (by omega) (by omega) (by omega)]
    exact x4 j hj
  · rw [go j hj]
    have := w9 j hj
    split <;> omega
  · rw [tm j j1 j2, gp j j1 j2]
    by_cases q : (j : Int) = σ 4 + 1
    · rw [if_pos q, if_pos q]
      omega
    · rw [if_neg q, if_neg q]
      have := w10 j j1 (by omega)
      omega
  · rw [tm i i1 (by omega), tm j (by omega) i3, if_neg (by omega)]
    by_cases q : (j : Int) = σ 4 + 1
    · rw [if_pos q]
      have := w10 i i1 (by omega)
      omega
    · rw [if_neg q]
      exact w11 i j i1 i2 (by omega)
  · by_cases q : t = σ 5 + 1
    · refine Or.inl ⟨(σ 4 + 1).toNat, by omega, by omega, ?_⟩
      rw [tm _ (by omega) (by omega), if_pos (by omega)]
      exact q.symm
    · rcases w12 t t1 (by omega) with ⟨j, j1, j2, j3⟩ | ⟨j, j1, j2⟩
      · refine Or.inl ⟨j, j1, by omega, ?_⟩
        rw [tm j j1 (by omega), if_neg (by omega)]
        exact j3
      · refine Or.inr ⟨j, j1, ?_⟩
        have hs : stk σ (ngS σ) j = false := by
          unfold stk hbS
          rw [Int.toNat_natCast, j2]
          have : decide (t = 0) = false := decide_eq_false (by omega)
          rw [this]
          simp
        rw [go j j1, hs]
        simpa using j2
theorem swS_RS (h : RS G S σ) (w : WF σ) (hq : swQ G G' S gap) (hsw : WF (swS σ gap)) : RS G' S (swS σ gap) := by
  obtain ⟨q1, q2, ⟨q6, q7, q8⟩, qa, qb, qc, qd, qe, qf⟩ := hq
  have f := h.2.2.1
  have lo : ∀ k : Nat, k ≠ 4 → k ≠ 5 → k < 20 → swS σ gap k = σ k := fun k a b c => swS_lo σ _ a b c w
  have h5 := WF_5 w
  have w4 := w.2.2.2.2.1
  have w3 := w.2.2.2.1
  have w8 := w.2.2.2.2.2.2.2.2.1
  refine ⟨qe, qf, ⟨?_, ?_, ?_, ?_, ?_, ?_, ?_⟩, fun k => ?_, fun k => ?_, fun j hj => ?_, fun j j1 j2 => ?_⟩
  · rw [q2 0 (by decide), lo 0 (by decide) (by decide) (by decide)]; exact f.1
  · rw [q2 1 (by decide), lo 1 (by decide) (by decide) (by decide)]; exact f.2.1
  · rw [q2 2 (by decide), lo 2 (by decide) (by decide) (by decide)]; exact f.2.2.1
  · rw [q2 3 (by decide), lo 3 (by decide) (by decide) (by decide)]; exact f.2.2.2.1
  · rw [q6, f.2.2.2.2.1]; rfl
  · rw [q7, f.2.2.2.2.2.1]; rfl
  · rw [q8, lo 6 (by decide) (by decide) (by decide)]; exact f.2.2.2.2.2.2
  · rw [lo 0 (by decide) (by decide) (by decide)] at k
    rw [q2 4 (by decide), qa, lo 9 (by decide) (by decide) (by decide), lo 8 (by decide) (by decide) (by decide)]
    exact h.2.2.2.1 k
  · rw [lo 0 (by decide) (by decide) (by decide)] at k
    obtain ⟨x1, x2⟩ := h.2.2.2.2.1 k
    have y := w8 k
    rw [q2 4 (by decide), qa, lo 7 (by decide) (by decide) (by decide)]
    refine ⟨x1, fun j hj => ?_⟩
    rw [lo (8 + j) (by omega) (by omega) (by omega)]
    exact x2 j hj
  · rw [lo 3 (by decide) (by decide) (by decide)] at hj
    rw [qb, swS_gone w gap hj, f.1, f.2.1, f.2.2.1, f.2.2.2.1, f.2.2.2.2.1, f.2.2.2.2.2.1, RS_hX h w hj, RS_ct h w (by omega), h.2.2.2.2.2.1 j hj]
    by_cases c : stk σ gap j = true
    · have c' := c
      unfold stk at c'
      simp only [Bool.and_eq_true, decide_eq_true_eq] at c'
      rw [if_pos ⟨c'.1.1, c'.1.2, c'.2⟩, if_pos c, if_neg (by omega)]
    · have c' : ¬ ((j : Int) < σ 3 ∧ hbS σ j = true ∧ spC (σ 0) (σ 4) (ctN (hbS σ) j + 1) (σ 1 + σ 2 * j) gap = true) := by
        intro z
        apply c
        unfold stk
        rw [decide_eq_true z.1, z.2.1, z.2.2]
        rfl
      rw [if_neg c', if_neg c]
  · have e4 : swS σ gap 4 = σ 4 + 1 := rfl
    rw [e4] at j2
    rw [qc, qd, f.2.2.2.2.1, f.2.2.2.2.2.1]
    rw [swS_tm w gap j1 j2, swS_gp w gap j1 j2]
    by_cases q : (j : Int) = σ 4 + 1
    · rw [if_pos q, if_pos q, if_pos q, if_pos q]
      exact ⟨rfl, rfl⟩
    · rw [if_neg q, if_neg q, if_neg q, if_neg q]
      exact h.2.2.2.2.2.2 j j1 (by omega)
end SW
