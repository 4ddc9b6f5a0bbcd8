/-! A row is increasing; counting along it. -/
theorem cuL_sp (A : Int → Int) (n x : Int) : ∀ (k : Nat) (c : Int), n ≤ c + k → c ≤ n → (∀ p, c < p → p ≤ cuL A n x k c → A p ≤ x) ∧ (cuL A n x k c < n → x < A (cuL A n x k c + 1)) ∧ c ≤ cuL A n x k c ∧ cuL A n x k c ≤ n := by
  intro k
  induction k with
  | zero => intro c h1 h2; exact ⟨fun p h3 h4 => by unfold cuL at h4; omega, fun h => by unfold cuL at h; omega, by unfold cuL; omega, by unfold cuL; omega⟩
  | succ k ih =>
    intro c h1 h2
    unfold cuL
    by_cases q : c < n ∧ A (c + 1) ≤ x
    · rw [if_pos q]
      obtain ⟨a1, a2, a3, a4⟩ := ih (c + 1) (by omega) (by omega)
      refine ⟨fun p h3 h4 => ?_, a2, by omega, a4⟩
      by_cases z : p = c + 1
      · rw [z]
        exact q.2
      · exact a1 p (by omega) h4
    · rw [if_neg q]
      refine ⟨fun p h3 h4 => by omega, fun h => ?_, Int.le_refl _, h2⟩
      by_cases z : A (c + 1) ≤ x
      · exact absurd ⟨h, z⟩ q
      · omega
theorem cnL_sp (P : Int → Bool) (e u : Int) : ∀ (k : Nat) (i c : Int), e ≤ i + k → i ≤ u + 1 → u + 1 ≤ e → (∀ j, i ≤ j → j ≤ u → P j = true) → (∀ j, u < j → j < e → P j = false) → cnL P e k i c = c + (u + 1 - i) := by
  intro k
  induction k with
  | zero => intro i c h1 h2 h3 h4 h5; unfold cnL; omega
  | succ k ih =>
    intro i c h1 h2 h3 h4 h5
    unfold cnL
    by_cases q : i < e
    · rw [if_pos q]
      by_cases z : i ≤ u
      · rw [h4 i (Int.le_refl _) z, if_pos rfl, ih (i + 1) (c + 1) (by omega) (by omega) h3 (fun j j1 j2 => h4 j (by omega) j2) h5]
        omega
      · have e0 : i = u + 1 := by omega
        have hn : ∀ (k : Nat) (j : Int), u < j → cnL P e k j c = c := by
          intro k
          induction k with
          | zero => intro j _; rfl
          | succ k ih2 =>
            intro j hj
            unfold cnL
            by_cases y : j < e
            · rw [if_pos y, h5 j hj y]
              exact ih2 (j + 1) (by omega)
            · rw [if_neg y]
        rw [h5 i (by omega) q]
        simp only [Bool.false_eq_true, if_false]
        rw [hn k (i + 1) (by omega)]
        omega
    · rw [if_neg q]
      omega
theorem ans_y {v : Int} (h : 0 ≤ v) : ans v = (0, v) := by
  unfold ans
  rw [if_neg (by omega)]
theorem ans_n : ans (-1) = (5, -1) := rfl
section SG
variable {σ τ : Nat → Int} {p d e f n m x k g w q : Int}
theorem nAS_no (h : ¬ (1 ≤ p ∧ p ≤ szS σ)) : nAS σ p = -1 := if_neg h
theorem gAS_no (h : ¬ (1 ≤ p ∧ p ≤ szS σ - 1)) : gAS σ p = -1 := if_neg h
theorem nAS_0 (w : WF σ) (hp : 1 ≤ p ∧ p ≤ szS σ) : 0 ≤ nAS σ p ∧ nAS σ p ≤ 100000 := by
  obtain ⟨i, -, -, -, -, h⟩ := nAS_ix w hp
  exact h
theorem nAS_of (w : WF σ) {i : Nat} (hi : (i : Int) < σ 3) (h : hbS σ i = true) : nAS σ (ctN (hbS σ) i + 1) = σ 1 + σ 2 * i ∧ 1 ≤ ctN (hbS σ) i + 1 ∧ ctN (hbS σ) i + 1 ≤ szS σ := by
  have h1 := ctN_lt (hbS σ) (m := i) (n := (σ 3).toNat) (by omega) h
  have h2 := ctN_b (hbS σ) i
  have hb : 1 ≤ ctN (hbS σ) i + 1 ∧ ctN (hbS σ) i + 1 ≤ szS σ := by
    unfold szS
    omega
  refine ⟨?_, hb⟩
  unfold nAS
  rw [if_pos hb, ixN_eq (hbS σ) (i := i) (by omega) h (by omega)]
theorem iXS_of (w : WF σ) {i : Nat} (hi : (i : Int) < σ 3) : iXS σ (σ 1 + σ 2 * i) = i := by
  obtain ⟨-, w1, w2, w3, -⟩ := w
  have h0 : 0 ≤ σ 2 * (i : Int) := Int.mul_nonneg (by omega) (by omega)
  unfold iXS
  rw [if_neg (by omega), show σ 1 + σ 2 * (i : Int) - σ 1 = σ 2 * i by omega, Int.mul_ediv_cancel_left _ (by omega), Int.mul_emod_right, if_neg (by omega)]
theorem nAS_lt (w : WF σ) (hp : 1 ≤ p) (hpq : p < q) (hq : q ≤ szS σ) : nAS σ p + σ 2 ≤ nAS σ q := by
  obtain ⟨i, i1, i2, i3, i4, -⟩ := nAS_ix w (p := p) ⟨hp, by omega⟩
  obtain ⟨j, j1, j2, j3, j4, -⟩ := nAS_ix w (p := q) ⟨by omega, hq⟩
  have hij : i < j := ctN_ltr (hbS σ) (by omega)
  have w2 := w.2.2.1
  have : σ 2 * ((i : Int) + 1) ≤ σ 2 * j := Int.mul_le_mul_of_nonneg_left (by omega) (by omega)
  rw [Int.mul_add, Int.mul_one] at this
  omega
theorem nAS_le (w : WF σ) (hp : 1 ≤ p) (hpq : p ≤ q) (hq : q ≤ szS σ) : nAS σ p ≤ nAS σ q := by
  have w2 := w.2.2.1
  by_cases z : p = q
  · rw [z]
    exact Int.le_refl _
  · have := nAS_lt w hp (show p < q by omega) hq
    omega
theorem nAS_inj (w : WF σ) (hp : 1 ≤ p ∧ p ≤ szS σ) (hq : 1 ≤ q ∧ q ≤ szS σ) (h : nAS σ p = nAS σ q) : p = q := by
  have w2 := w.2.2.1
  rcases Int.lt_trichotomy p q with z | z | z
  · have := nAS_lt w hp.1 z hq.2
    omega
  · exact z
  · have := nAS_lt w hq.1 z hp.2
    omega
theorem hasS_ix (w : WF σ) (h : hasS σ x = true) : ∃ i : Nat, (i : Int) < σ 3 ∧ hbS σ i = true ∧ iXS σ x = i ∧ x = σ 1 + σ 2 * i := by
  have b := iXS_b w x
  unfold hasS at h
  rw [Bool.and_eq_true, decide_eq_true_eq] at h
  obtain ⟨h1, h2⟩ := h
  refine ⟨(iXS σ x).toNat, by omega, by rw [Int.toNat_of_nonneg h1]; exact h2, by omega, ?_⟩
  rw [Int.toNat_of_nonneg h1]
  unfold iXS at h1 ⊢
  by_cases c : x < σ 1
  · rw [if_pos c] at h1
    omega
  · rw [if_neg c] at h1 ⊢
    by_cases c2 : σ 3 ≤ (x - σ 1) / σ 2 ∨ ¬ (x - σ 1) % σ 2 = 0
    · rw [if_pos c2] at h1
      omega
    · rw [if_neg c2]
      have e := Int.emod_def (x - σ 1) (σ 2)
      omega
theorem hasS_n (w : WF σ) (hp : 1 ≤ p ∧ p ≤ szS σ) : hasS σ (nAS σ p) = true := by
  obtain ⟨i, i1, i2, i3, i4, -⟩ := nAS_ix w hp
  unfold hasS
  rw [i4, iXS_of w i1, i2, decide_eq_true (by omega)]
  rfl
theorem hasS_p (w : WF σ) (h : hasS σ x = true) : ∃ p, 1 ≤ p ∧ p ≤ szS σ ∧ nAS σ p = x ∧ ∃ i : Nat, (i : Int) < σ 3 ∧ hbS σ i = true ∧ iXS σ x = i ∧ p = ctN (hbS σ) i + 1 := by
  obtain ⟨i, i1, i2, i3, i4⟩ := hasS_ix w h
  obtain ⟨a1, a2, a3⟩ := nAS_of w i1 i2
  exact ⟨_, a2, a3, a1.trans i4.symm, i, i1, i2, i3, rfl⟩
theorem cuZ_at (w : WF σ) (hp : 1 ≤ p ∧ p ≤ szS σ) : cuZ σ (nAS σ p) = p := by
  have hz := szS_b w
  have w2 := w.2.2.1
  obtain ⟨a1, a2, a3, a4⟩ := cuL_sp (nAS σ) (szS σ) (nAS σ p) 600 0 (by omega) (by omega)
  unfold cuZ
  rcases Int.lt_trichotomy (cuL (nAS σ) (szS σ) (nAS σ p) 600 0) p with z | z | z
  · have h1 := a2 (by omega)
    have h2 := nAS_le w (p := cuL (nAS σ) (szS σ) (nAS σ p) 600 0 + 1) (q := p) (by omega) (by omega) hp.2
    omega
  · exact z
  · have h1 := a1 (cuL (nAS σ) (szS σ) (nAS σ p) 600 0) (by omega) (Int.le_refl _)
    have h2 := nAS_lt w hp.1 z a4
    omega
theorem poZ_at (w : WF σ) (hp : 1 ≤ p ∧ p ≤ szS σ) : poZ σ (nAS σ p) = p := by
  unfold poZ
  rw [if_pos (hasS_n w hp)]
  exact cuZ_at w hp
theorem cu_ct (w : WF σ) : cnL (fun p => decide (nAS σ p ≤ d)) (szS σ + 1) 601 1 0 = cuZ σ d := by
  have hz := szS_b w
  obtain ⟨a1, a2, a3, a4⟩ := cuL_sp (nAS σ) (szS σ) d 600 0 (by omega) (by omega)
  have e := cnL_sp (fun p => decide (nAS σ p ≤ d)) (szS σ + 1) (cuZ σ d) 601 1 0 (by omega) (by unfold cuZ; omega) (by unfold cuZ; omega) (fun j j1 j2 => decide_eq_true (a1 j (by omega) j2)) (fun j j1 j2 => by
    rw [decide_eq_false_iff_not]
    have h1 := a2 (by unfold cuZ at j1; omega)
    have h2 := nAS_le w (p := cuZ σ d + 1) (q := j) (by unfold cuZ; omega) (by omega) (by omega)
    unfold cuZ at h2
    omega)
  rw [e]
  omega
theorem iXS_neg (w : WF σ) (h : iXS σ x < 0) : hasS σ x = false := by
  unfold hasS
  rw [decide_eq_false (by omega)]
  rfl
theorem hasS_hb (h : 0 ≤ iXS σ x) : hasS σ x = hbS σ (iXS σ x) := by
  unfold hasS
  rw [decide_eq_true h]
  rfl
end SG
