/-! Of σ alone: each number at first is in the row or was struck. -/
theorem snL_at (P : Int → Bool) (e : Int) {j : Nat} (hj : (j : Int) < e) (hP : P (j : Int) = true) : ∀ (k i : Nat), e ≤ i + k → i ≤ j → snL P e (ctN P j) k (ctN P i) (i : Int) = j := by
  intro k
  induction k with
  | zero => intro i h1 h2; omega
  | succ k ih =>
    intro i h1 h2
    unfold snL
    rw [if_pos (by omega)]
    by_cases q : P (i : Int) = true
    · rw [if_pos q]
      by_cases z : i = j
      · subst z
        rw [if_pos rfl]
      · have := ctN_lt P (show i < j by omega) q
        have e1 : ctN P (i + 1) = ctN P i + 1 := by rw [ctN, if_pos q]
        rw [if_neg (by omega), ← e1]
        exact ih (i + 1) (by omega) (by omega)
    · have e1 : ctN P (i + 1) = ctN P i := by rw [ctN, if_neg q, Int.add_zero]
      rw [if_neg q]
      by_cases z : i = j
      · subst z
        exact absurd hP q
      · rw [← e1]
        exact ih (i + 1) (by omega) (by omega)
theorem snL_no (P : Int → Bool) (e kk : Int) (hn : ∀ j : Nat, (j : Int) < e → P (j : Int) = true → ctN P j ≠ kk) : ∀ (k i : Nat), snL P e kk k (ctN P i) (i : Int) = e := by
  intro k
  induction k with
  | zero => intro i; rfl
  | succ k ih =>
    intro i
    unfold snL
    by_cases c : (i : Int) < e
    · rw [if_pos c]
      by_cases q : P (i : Int) = true
      · have e1 : ctN P (i + 1) = ctN P i + 1 := by rw [ctN, if_pos q]
        rw [if_pos q, if_neg (hn i c q), ← e1]
        exact ih (i + 1)
      · have e1 : ctN P (i + 1) = ctN P i := by rw [ctN, if_neg q, Int.add_zero]
        rw [if_neg q, ← e1]
        exact ih (i + 1)
    · rw [if_neg c]
theorem ctN_not (P : Int → Bool) : ∀ n : Nat, ctN (fun i => !P i) n = n - ctN P n := by
  intro n
  induction n with
  | zero => rfl
  | succ n ih =>
    rw [ctN, ctN, ih]
    by_cases q : P (n : Int) = true
    · rw [if_pos q, if_neg (by rw [q]; decide)]
      omega
    · have e : P (n : Int) = false := by simpa using q
      rw [if_neg q, if_pos (by rw [e]; rfl)]
      omega
section SD
variable {τ : Nat → Int}
theorem wf_ARS (w : WF τ) : ARS τ (fun i => (ctN (hbS τ) i).toNat) (τ 3).toNat := by
  have w3 := w.2.2.2.1
  have w4 := w.2.2.2.2.1.1
  have cb := fun i => ctN_b (hbS τ) i
  have ci : ∀ i : Nat, (((ctN (hbS τ) i).toNat : Nat) : Int) = ctN (hbS τ) i := fun i => Int.toNat_of_nonneg (cb i).1
  have ez : szS τ = ctN (hbS τ) (τ 3).toNat := rfl
  have en := ctN_not (hbS τ)
  have e00 : ctN (fun i => !hbS τ i) 0 = 0 := rfl
  refine ⟨⟨by omega, by omega, rfl, fun i hi => ?_⟩, fun i hi => ?_, ?_, ?_, ?_⟩
  · show (ctN (hbS τ) i).toNat ≤ i
    have := (cb i).2
    omega
  · have hi' : (i : Int) < τ 3 := by omega
    show ((ctN (hbS τ) (i + 1)).toNat = (ctN (hbS τ) i).toNat + 1 ∧ poZ τ (τ 1 + i * τ 2) = (((ctN (hbS τ) i).toNat : Nat) : Int) + 1 ∧ nAS τ ((((ctN (hbS τ) i).toNat : Nat) : Int) + 1) = τ 1 + i * τ 2 ∧ cuZ τ (τ 1 + i * τ 2) = (((ctN (hbS τ) i).toNat : Nat) : Int) + 1 ∧ osZ τ (τ 1 + i * τ 2) 0 = -1 ∧ (((ctN (hbS τ) i).toNat : Nat) : Int) + 1 ≤ szS τ) ∨ ((ctN (hbS τ) (i + 1)).toNat = (ctN (hbS τ) i).toNat ∧ poZ τ (τ 1 + i * τ 2) = -1 ∧ (0 ≤ osZ τ (τ 1 + i * τ 2) 0 ∧ osZ τ (τ 1 + i * τ 2) 0 ≤ τ 4) ∧ snZ τ ((i : Int) - (((ctN (hbS τ) i).toNat : Nat) : Int)) = τ 1 + i * τ 2)
    rw [ci, Int.mul_comm (i : Int) (τ 2)]
    have ix := iXS_of w hi'
    by_cases q : hbS τ (i : Int) = true
    · left
      obtain ⟨n1, n2, n3⟩ := nAS_of w hi' q
      have e1 : ctN (hbS τ) (i + 1) = ctN (hbS τ) i + 1 := by rw [ctN, if_pos q]
      have c0 := (cb i).1
      refine ⟨by rw [e1]; omega, ?_, n1, ?_, ?_, n3⟩
      · rw [← n1]
        exact poZ_at w ⟨n2, n3⟩
      · rw [← n1]
        exact cuZ_at w ⟨n2, n3⟩
      · unfold osZ
        rw [ix, if_pos (Or.inr q)]
    · right
      have e1 : ctN (hbS τ) (i + 1) = ctN (hbS τ) i := by rw [ctN, if_neg q, Int.add_zero]
      have eq : hbS τ (i : Int) = false := by simpa using q
      have eo : osZ τ (τ 1 + τ 2 * i) 0 = roZ τ (skZ τ i) := by
        unfold osZ
        rw [ix, if_neg (fun z => by rcases z with z | z; omega; exact q z), if_pos rfl]
      refine ⟨by rw [e1], ?_, ?_, ?_⟩
      · unfold poZ
        rw [if_neg]
        rw [hasS_hb (by rw [ix]; omega), ix]
        exact q
      · rw [eo]
        have := fdL_b (fun j => decide (whZ τ j = skZ τ i)) (τ 4 + 1) 601 1 (by omega)
        unfold roZ
        split <;> omega
      · have es : snL (fun i => !hbS τ i) (τ 3) ((i : Int) - ctN (hbS τ) i) 600 0 0 = i := by
          have := snL_at (fun i => !hbS τ i) (τ 3) hi' (by show (!hbS τ (i : Int)) = true; rw [eq]; rfl) 600 0 (by omega) (by omega)
          rw [en i, e00] at this
          exact this
        unfold snZ
        rw [es, if_pos hi']
  · show szS τ = (((ctN (hbS τ) (τ 3).toNat).toNat : Nat) : Int)
    rw [ci]
    exact ez
  · show snZ τ ((((τ 3).toNat : Nat) : Int) - (((ctN (hbS τ) (τ 3).toNat).toNat : Nat) : Int)) = -1
    have es : snL (fun i => !hbS τ i) (τ 3) ((((τ 3).toNat : Nat) : Int) - ctN (hbS τ) (τ 3).toNat) 600 0 0 = τ 3 := by
      have := snL_no (fun i => !hbS τ i) (τ 3) ((((τ 3).toNat : Nat) : Int) - ctN (hbS τ) (τ 3).toNat) (fun j hj hP => by
        have := ctN_lt (fun i => !hbS τ i) (show j < (τ 3).toNat by omega) hP
        rw [en (τ 3).toNat] at this
        omega) 600 0
      rw [e00] at this
      exact this
    rw [ci]
    unfold snZ
    rw [es, if_neg (Int.lt_irrefl _)]
  · show nAS τ ((((ctN (hbS τ) (τ 3).toNat).toNat : Nat) : Int) + 1) = -1
    rw [ci, ← ez]
    exact nAS_no (by omega)
end SD
