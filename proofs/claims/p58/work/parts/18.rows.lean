/-! Counting, rows. -/
def ctN (P : Int → Bool) : Nat → Int
  | 0 => 0
  | n + 1 => ctN P n + (if P (n : Int) = true then 1 else 0)
theorem ctN_b (P : Int → Bool) : ∀ n : Nat, 0 ≤ ctN P n ∧ ctN P n ≤ n := by
  intro n
  induction n with
  | zero => exact ⟨Int.le_refl _, Int.le_refl _⟩
  | succ n ih =>
    unfold ctN
    split <;> omega
theorem ctN_mono (P : Int → Bool) {m n : Nat} (h : m ≤ n) : ctN P m ≤ ctN P n := by
  induction h with
  | refl => exact Int.le_refl _
  | step _ ih =>
    refine Int.le_trans ih ?_
    rw [ctN]
    split <;> omega
theorem ctN_lt (P : Int → Bool) {m n : Nat} (h : m < n) (hp : P (m : Int) = true) : ctN P m + 1 ≤ ctN P n := by
  have h1 := ctN_mono P (show m + 1 ≤ n from h)
  rw [ctN, if_pos hp] at h1
  exact h1
theorem ctN_ex (P : Int → Bool) : ∀ (n : Nat) (p : Int), 1 ≤ p → p ≤ ctN P n → ∃ i : Nat, i < n ∧ P (i : Int) = true ∧ ctN P i = p - 1 := by
  intro n
  induction n with
  | zero => intro p h1 h2; unfold ctN at h2; omega
  | succ n ih =>
    intro p h1 h2
    by_cases h3 : p ≤ ctN P n
    · obtain ⟨i, q1, q2, q3⟩ := ih p h1 h3
      exact ⟨i, by omega, q2, q3⟩
    · rw [ctN] at h2
      by_cases h4 : P (n : Int) = true
      · rw [if_pos h4] at h2
        exact ⟨n, by omega, h4, by omega⟩
      · rw [if_neg h4] at h2
        omega
theorem ctN_inj (P : Int → Bool) {i j : Nat} (hi : P (i : Int) = true) (hj : P (j : Int) = true) (h : ctN P i = ctN P j) : i = j := by
  rcases Nat.lt_trichotomy i j with q | q | q
  · have := ctN_lt P q hi; omega
  · exact q
  · have := ctN_lt P q hj; omega
theorem ctN_ltr (P : Int → Bool) {i j : Nat} (h : ctN P i < ctN P j) : i < j := by
  rcases Nat.lt_or_ge i j with q | q
  · exact q
  · have := ctN_mono P q; omega
theorem ctN_congr {P P' : Int → Bool} : ∀ n : Nat, (∀ i : Nat, i < n → P (i : Int) = P' (i : Int)) → ctN P n = ctN P' n := by
  intro n
  induction n with
  | zero => intro _; rfl
  | succ n ih =>
    intro h
    rw [ctN, ctN, ih (fun i hi => h i (by omega)), h n (by omega)]
/-- the loops that count are ctN -/
theorem cnL_ct (P : Int → Bool) (e : Nat) : ∀ (k i : Nat) (c : Int), e ≤ i + k → i ≤ e → cnL P (e : Int) k (i : Int) c = c + (ctN P e - ctN P i) := by
  intro k
  induction k with
  | zero =>
    intro i c h1 h2
    have : i = e := by omega
    subst this
    unfold cnL
    omega
  | succ k ih =>
    intro i c h1 h2
    unfold cnL
    by_cases h : i < e
    · rw [if_pos (by omega)]
      have := ih (i + 1) (if P (i : Int) = true then c + 1 else c) (by omega) (by omega)
      rw [Int.natCast_add] at this
      rw [show ((i : Int) + 1) = (i : Int) + ((1 : Nat) : Int) from rfl, this]
      have e1 : ctN P (i + 1) = ctN P i + (if P (i : Int) = true then 1 else 0) := rfl
      rw [e1]
      split <;> omega
    · have : i = e := by omega
      subst this
      rw [if_neg (by omega)]
      omega
theorem cnL_ct0 (P : Int → Bool) {e : Int} {k : Nat} (h0 : 0 ≤ e) (hk : e ≤ k) : cnL P e k 0 0 = ctN P e.toNat := by
  have := cnL_ct P e.toNat k 0 0 (by omega) (by omega)
  rw [Int.toNat_of_nonneg h0] at this
  have e0 : ctN P 0 = 0 := rfl
  have e1 : cnL P e k 0 0 = 0 + (ctN P e.toNat - ctN P 0) := this
  omega
/-- a row as it ought to be: of the first numbers those that are here, closed up -/
def WR (G : Nat → Nat → Int) (S : Nat) : Prop := (1 ≤ G S 2 ∧ 2 ≤ G S 3) ∧ G S 13 = ctN (hX G S) (G S 3).toNat ∧ ∀ i : Nat, (i : Int) < G S 3 → hX G S i = true → G (S + 5) (ctN (hX G S) i).toNat = G S 1 + G S 2 * i
section RW_
variable {G G' : Nat → Nat → Int} {S : Nat}
theorem nA_ix (h : WR G S) {p : Int} (hp : 1 ≤ p ∧ p ≤ G S 13) : ∃ i : Nat, (i : Int) < G S 3 ∧ hX G S i = true ∧ ctN (hX G S) i = p - 1 ∧ nA G S p = G S 1 + G S 2 * i := by
  obtain ⟨h1, h2, h3⟩ := h
  obtain ⟨i, q1, q2, q3⟩ := ctN_ex (hX G S) _ p hp.1 (by rw [← h2]; exact hp.2)
  have q4 : (i : Int) < G S 3 := by omega
  refine ⟨i, q4, q2, q3, ?_⟩
  unfold nA
  rw [if_pos hp, ← h3 i q4 q2, q3]
theorem nA_of (h : WR G S) {i : Nat} (hi : (i : Int) < G S 3) (hp : hX G S i = true) : nA G S (ctN (hX G S) i + 1) = G S 1 + G S 2 * i ∧ 1 ≤ ctN (hX G S) i + 1 ∧ ctN (hX G S) i + 1 ≤ G S 13 := by
  obtain ⟨h1, h2, h3⟩ := h
  have b := ctN_b (hX G S) i
  have b2 := ctN_lt (hX G S) (show i < (G S 3).toNat by omega) hp
  have b3 : ctN (hX G S) i + 1 ≤ G S 13 := by rw [h2]; exact b2
  refine ⟨?_, by omega, b3⟩
  unfold nA
  rw [if_pos ⟨by omega, b3⟩, Int.add_sub_cancel, h3 i hi hp]
theorem iX_of (hg : rgS G S) (h : WR G S) {i : Nat} (hi : (i : Int) < G S 3) : iX G S (G S 1 + G S 2 * i) = i := by
  obtain ⟨⟨h1, h1'⟩, -, -⟩ := h
  have e1 : G S 1 + G S 2 * (i : Int) - G S 1 = G S 2 * i := by omega
  have e2 : G S 2 * (i : Int) / G S 2 = i := Int.mul_ediv_cancel_left _ (by omega)
  have e3 : G S 2 * (i : Int) % G S 2 = 0 := Int.mul_emod_right _ _
  have e4 : 0 ≤ G S 2 * (i : Int) := Int.mul_nonneg (by omega) (by omega)
  unfold iX
  rw [e1, e2, e3, if_neg (by omega), if_neg (by omega)]
theorem nA_mono (hg : rgS G S) (h : WR G S) {p q : Int} (hp : 1 ≤ p) (hpq : p < q) (hq : q ≤ G S 13) : nA G S p + G S 2 ≤ nA G S q := by
  obtain ⟨i, i1, i2, i3, i4⟩ := nA_ix h ⟨hp, by omega⟩
  obtain ⟨j, j1, j2, j3, j4⟩ := nA_ix h (p := q) ⟨by omega, hq⟩
  have hij : i < j := ctN_ltr (hX G S) (by omega)
  rw [i4, j4]
  have h5 : G S 2 * ((i : Int) + 1) ≤ G S 2 * j := Int.mul_le_mul_of_nonneg_left (by omega) (by have := h.1.1; omega)
  rw [Int.mul_add, Int.mul_one] at h5
  omega
theorem hasX_iff (hg : rgS G S) (h : WR G S) {x : Int} : hasX G S x = true ↔ ∃ p, 1 ≤ p ∧ p ≤ G S 13 ∧ nA G S p = x := by
  constructor
  · intro hx
    have hx2 : hX G S (iX G S x) = true := hx
    have hs : sK G S (iX G S x) = 2147483647 := of_decide_eq_true hx2
    have h0 : 0 ≤ iX G S x := by
      unfold sK at hs
      split at hs
      · omega
      · omega
    have e : iX G S x = ((iX G S x).toNat : Int) := (Int.toNat_of_nonneg h0).symm
    have hx3 : (x - G S 1) % G S 2 = 0 ∧ iX G S x = (x - G S 1) / G S 2 ∧ iX G S x < G S 3 := by
      have := h0
      unfold iX at this ⊢
      split
      · rename_i q
        rw [if_pos q] at this
        omega
      · rename_i q
        rw [if_neg q] at this
        split
        · rename_i q2
          rw [if_pos q2] at this
          omega
        · rename_i q2
          refine ⟨?_, rfl, by omega⟩
          by_cases q3 : (x - G S 1) % G S 2 = 0
          · exact q3
          · exact absurd (Or.inr q3) q2
    obtain ⟨m1, m2, m3⟩ := hx3
    have hi : (((iX G S x).toNat : Nat) : Int) < G S 3 := by rw [← e]; exact m3
    rw [e] at hx2
    obtain ⟨n1, n2, n3⟩ := nA_of h hi hx2
    refine ⟨_, n2, n3, n1.trans ?_⟩
    rw [← e, m2]
    have := Int.emod_def (x - G S 1) (G S 2)
    rw [m1] at this
    have e5 : G S 2 * ((x - G S 1) / G S 2) = x - G S 1 := by omega
    rw [e5]
    omega
  · rintro ⟨p, h1, h2, rfl⟩
    obtain ⟨i, i1, i2, i3, i4⟩ := nA_ix h ⟨h1, h2⟩
    show hX G S (iX G S (nA G S p)) = true
    rw [i4, iX_of hg h i1]
    exact i2
def eqS (G G' : Nat → Nat → Int) (S : Nat) : Prop := ∀ q, S ≤ q → q ≤ S + 5 → G' q = G q
theorem nA_c (h : eqS G G' S) : nA G' S = nA G S := by
  funext p
  unfold nA
  rw [h S (by omega) (by omega), h (S + 5) (by omega) (by omega)]
theorem gA_c (h : eqS G G' S) : gA G' S = gA G S := by
  funext p
  unfold gA
  rw [nA_c h, h S (by omega) (by omega)]
theorem sK_c (h : eqS G G' S) : sK G' S = sK G S := by
  funext p
  unfold sK
  rw [h (S + 2) (by omega) (by omega)]
theorem hX_c (h : eqS G G' S) : hX G' S = hX G S := by
  funext p
  unfold hX
  rw [sK_c h]
theorem iX_c (h : eqS G G' S) : iX G' S = iX G S := by
  funext p
  unfold iX
  rw [h S (by omega) (by omega)]
theorem hasX_c (h : eqS G G' S) : hasX G' S = hasX G S := by
  funext p
  unfold hasX
  rw [iX_c h, hX_c h]
theorem rgS_c (h : eqS G G' S) (hg : rgS G S) : rgS G' S := by
  unfold rgS at hg ⊢
  rw [h S (by omega) (by omega), h (S + 1) (by omega) (by omega), h (S + 2) (by omega) (by omega), h (S + 3) (by omega) (by omega), h (S + 4) (by omega) (by omega), h (S + 5) (by omega) (by omega)]
  exact hg
theorem WR_c (h : eqS G G' S) (hw : WR G S) : WR G' S := by
  unfold WR at hw ⊢
  rw [hX_c h, h S (by omega) (by omega), h (S + 5) (by omega) (by omega)]
  exact hw
theorem gA_pos (hg : rgS G S) (h : WR G S) {p : Int} (hp : 1 ≤ p ∧ p < G S 13) : G S 2 ≤ gA G S p ∧ gA G S p ≤ 100000 := by
  have h1 := nA_mono hg h (p := p) (q := p + 1) hp.1 (by omega) (by omega)
  have h2 := nA_0 hg (p := p + 1) ⟨by omega, by omega⟩
  have h3 := nA_0 hg (p := p) ⟨by omega, by omega⟩
  unfold gA
  rw [if_pos (by omega)]
  omega
end RW_
