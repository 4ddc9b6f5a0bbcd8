/-! How many unlike there are; counting by places and by indices; ways to a sum. -/
theorem cnL_sh (P : Int → Bool) (n : Nat) {k : Nat} (hk : n ≤ k) : cnL P ((n : Int) + 1) k 1 0 = ctN (fun i => P (i + 1)) n := by
  have h := cnL_ct P (n + 1) k 1 0 (by omega) (by omega)
  have e1 : ∀ n : Nat, ctN P (n + 1) = ctN P 1 + ctN (fun i => P (i + 1)) n := by
    intro n
    induction n with
    | zero => show ctN P 1 = ctN P 1 + 0; omega
    | succ n ih =>
      rw [ctN, ih]
      show _ = ctN P 1 + ctN (fun i => P (i + 1)) (n + 1)
      rw [show ctN (fun i => P (i + 1)) (n + 1) = ctN (fun i => P (i + 1)) n + (if P ((n : Int) + 1) = true then 1 else 0) from rfl, Int.natCast_add]
      show (ctN P 1 + ctN (fun i => P (i + 1)) n + if P ((n : Int) + 1) = true then 1 else 0) = _
      omega
  have h' : cnL P ((n : Int) + 1) k 1 0 = 0 + (ctN P (n + 1) - ctN P 1) := h
  rw [h', e1]
  omega
/-- how many values there are is how often a new one comes -/
theorem ru_eq (f : Int → Int) (M : Nat) : ∀ n : Nat, (∀ p : Int, 1 ≤ p → p ≤ n → 0 ≤ f p ∧ f p < M) → ctN (fun v => decide (0 < tcN f v n)) M = ruN f n := by
  intro n
  induction n with
  | zero =>
    intro _
    have : ∀ k : Nat, ctN (fun v => decide (0 < tcN f v 0)) k = 0 := by
      intro k
      induction k with
      | zero => rfl
      | succ k ih =>
        rw [ctN, ih]
        rfl
    exact this M
  | succ n ih =>
    intro h
    have ih' := ih fun p p1 p2 => h p p1 (by omega)
    have hb := h ((n : Int) + 1) (by omega) (by omega)
    have hc := fun v => tcN_b f v n
    show _ = ctN (fun i => decide (tcN f (f (i + 1)) i.toNat = 0)) (n + 1)
    have er : ruN f n = ctN (fun i => decide (tcN f (f (i + 1)) i.toNat = 0)) n := rfl
    rw [ctN, ← er, ← ih', Int.toNat_natCast]
    by_cases c : tcN f (f ((n : Int) + 1)) n = 0
    · rw [if_pos (decide_eq_true c)]
      have := ctN_one (P := fun v => decide (0 < tcN f v (n + 1))) (P' := fun v => decide (0 < tcN f v n)) (n := M) (i := (f ((n : Int) + 1)).toNat) (by omega) (by
        rw [Int.toNat_of_nonneg hb.1, decide_eq_true_eq, tcN_s, if_pos rfl]
        omega) (by
        rw [Int.toNat_of_nonneg hb.1, decide_eq_false_iff_not, c]
        omega) (fun j j1 j2 => by
        rw [tcN_s, if_neg (by omega), Int.add_zero])
      omega
    · rw [if_neg (by rw [decide_eq_true_eq]; exact c), Int.add_zero]
      refine ctN_congr M fun j j1 => ?_
      rw [tcN_s]
      by_cases z : f ((n : Int) + 1) = j
      · have := hc j
        rw [z] at c
        rw [if_pos z, decide_eq_true (by omega), decide_eq_true (by omega)]
      · rw [if_neg z, Int.add_zero]
theorem ctN_and_ge (P : Int → Bool) (a : Nat) : ∀ n : Nat, a ≤ n → ctN (fun i => P i && decide ((a : Int) ≤ i)) n = ctN P n - ctN P a := by
  have h0 : ∀ n : Nat, n ≤ a → ctN (fun i => P i && decide ((a : Int) ≤ i)) n = 0 := by
    intro n
    induction n with
    | zero => intro _; rfl
    | succ n ih =>
      intro h
      rw [ctN, ih (by omega), decide_eq_false (by omega), Bool.and_false]
      rfl
  intro n
  induction n with
  | zero =>
    intro h
    have : a = 0 := by omega
    subst this
    rfl
  | succ n ih =>
    intro h
    by_cases c : a ≤ n
    · rw [ctN, ih c, decide_eq_true (by omega), Bool.and_true, ctN]
      omega
    · have : a = n + 1 := by omega
      rw [h0 _ (by omega), this]
      omega
theorem ctN_more (P : Int → Bool) {e : Nat} : ∀ n : Nat, e ≤ n → (∀ i : Nat, e ≤ i → i < n → P (i : Int) = false) → ctN P n = ctN P e := by
  intro n
  induction n with
  | zero => intro hn h; rw [show e = 0 by omega]
  | succ n ih =>
    intro hn h
    by_cases c : e ≤ n
    · rw [ctN, h n c (by omega), ih c fun i h1 h2 => h i h1 (by omega)]
      simp
    · rw [show e = n + 1 by omega]
theorem cnL_fu (P : Int → Bool) (e : Int) : ∀ (k : Nat) (i c : Int), e ≤ i + k → cnL P e (k + 1) i c = cnL P e k i c := by
  intro k
  induction k with
  | zero =>
    intro i c h
    unfold cnL
    rw [if_neg (by omega)]
  | succ k ih =>
    intro i c h
    rw [cnL]
    show _ = if i < e then cnL P e k (i + 1) (if P i = true then c + 1 else c) else c
    by_cases q : i < e
    · rw [if_pos q, if_pos q]
      exact ih _ _ (by omega)
    · rw [if_neg q, if_neg q]
theorem cnL_none (P : Int → Bool) (e : Int) : ∀ (k : Nat) (i c : Int), (∀ j, i ≤ j → j < e → P j = false) → cnL P e k i c = c := by
  intro k
  induction k with
  | zero => intro i c h; rfl
  | succ k ih =>
    intro i c h
    unfold cnL
    by_cases q : i < e
    · rw [if_pos q, h i (Int.le_refl _) q]
      simp only [Bool.false_eq_true, if_false]
      exact ih _ _ fun j j1 j2 => h j (by omega) j2
    · rw [if_neg q]
section SG
variable {σ τ : Nat → Int} {p d e f n m x k g w q : Int}
theorem rest_m (w : WF σ) : cnL (fun p => decide (nAS σ p % d = e)) (szS σ + 1) 601 1 0 = tcN (rsZ σ d) e (szS σ).toNat := by
  have hz := szS_b w
  have := cnL_sh (fun p => decide (nAS σ p % d = e)) (szS σ).toNat (k := 601) (by omega)
  rw [show (((szS σ).toNat : Nat) : Int) = szS σ by omega] at this
  rw [this]
  rfl
theorem rests_m (w : WF σ) (hd : 1 ≤ d ∧ d ≤ 999) : cnL (fun v => decide (0 < tcN (rsZ σ d) v (szS σ).toNat)) d 1000 0 0 = ruN (rsZ σ d) (szS σ).toNat := by
  have hz := szS_b w
  rw [cnL_ct0 _ (by omega) (by omega)]
  exact ru_eq (rsZ σ d) d.toNat (szS σ).toNat fun p p1 p2 => by
    have h1 : 0 ≤ nAS σ p % d := Int.emod_nonneg _ (by omega)
    have h2 : nAS σ p % d < d := Int.emod_lt_of_pos _ (by omega)
    unfold rsZ
    omega
theorem gAS_ix (w : WF σ) (hp : 1 ≤ p ∧ p < szS σ) : gAS σ p = σ 2 * stZ σ p ∧ 1 ≤ stZ σ p ∧ stZ σ p < 600 := by
  obtain ⟨i, i1, i2, i3, i4, -⟩ := nAS_ix w (p := p) ⟨hp.1, by omega⟩
  obtain ⟨j, j1, j2, j3, j4, -⟩ := nAS_ix w (p := p + 1) ⟨by omega, by omega⟩
  have hij : i < j := ctN_ltr (hbS σ) (by omega)
  have w2 := w.2.2.1
  have w3 := w.2.2.2.1
  have e : gAS σ p = σ 2 * ((j : Int) - i) := by
    unfold gAS
    rw [if_pos (by omega), i4, j4, Int.mul_sub]
    omega
  have e2 : stZ σ p = (j : Int) - i := by
    unfold stZ
    rw [e, Int.mul_ediv_cancel_left _ (by omega)]
  rw [e2]
  exact ⟨e, by omega, by omega⟩
theorem stZ_inj (w : WF σ) (hp : 1 ≤ p ∧ p < szS σ) (hq : 1 ≤ q ∧ q < szS σ) : gAS σ p = gAS σ q ↔ stZ σ p = stZ σ q := by
  obtain ⟨e1, -, -⟩ := gAS_ix w hp
  obtain ⟨e2, -, -⟩ := gAS_ix w hq
  constructor
  · intro h
    unfold stZ
    rw [h]
  · intro h
    rw [e1, e2, h]
theorem tcN_0 (f : Int → Int) (v : Int) : ∀ n : Nat, tcN f v n = 0 ↔ ∀ q : Int, 1 ≤ q → q ≤ n → f q ≠ v := by
  intro n
  induction n with
  | zero => exact ⟨fun _ q h1 h2 => by omega, fun _ => rfl⟩
  | succ n ih =>
    have hb := tcN_b f v n
    rw [tcN_s]
    constructor
    · intro h q q1 q2
      have h1 : ¬ f ((n : Int) + 1) = v := fun z => by rw [if_pos z] at h; omega
      rw [if_neg h1, Int.add_zero] at h
      by_cases z : q = (n : Int) + 1
      · rw [z]
        exact h1
      · exact ih.mp h q q1 (by omega)
    · intro h
      rw [if_neg (h _ (by omega) (by omega)), Int.add_zero]
      exact ih.mpr fun q q1 q2 => h q q1 (by omega)
/-- whether a gap is new at its place -/
def nwZ (σ : Nat → Int) (p : Int) : Bool := decide (∀ j : Nat, j < (p - 1).toNat → gAS σ ((j : Int) + 1) ≠ gAS σ p)
theorem ug_m (w : WF σ) : cnL (nwZ σ) (szS σ) 600 1 0 = ugZ σ := by
  have hz := szS_b w
  have h1 : cnL (nwZ σ) (szS σ) 600 1 0 = ruN (stZ σ) (szS σ - 1).toNat := by
    have := cnL_sh (nwZ σ) (szS σ - 1).toNat (k := 600) (by omega)
    rw [show (((szS σ - 1).toNat : Nat) : Int) + 1 = szS σ by omega] at this
    rw [this]
    refine ctN_congr _ fun i hi => ?_
    have hi' : 1 ≤ (i : Int) + 1 ∧ (i : Int) + 1 < szS σ := by omega
    rw [Int.toNat_natCast]
    unfold nwZ
    refine decide_eq_decide.mpr ?_
    rw [tcN_0]
    constructor
    · intro h q q1 q2 z
      have := h (q - 1).toNat (by omega)
      rw [show (((q - 1).toNat : Nat) : Int) + 1 = q by omega] at this
      exact this ((stZ_inj w (by omega) hi').mpr z)
    · intro h j hj z
      exact h ((j : Int) + 1) (by omega) (by omega) ((stZ_inj w (by omega) hi').mp z)
  rw [h1]
  have h2 := ru_eq (stZ σ) 600 (szS σ - 1).toNat fun p p1 p2 => by
    have := gAS_ix w (p := p) ⟨p1, by omega⟩
    omega
  rw [← h2]
  have h3 := cnL_ct (fun v => decide (0 < tgZ σ v)) 600 600 1 0 (by omega) (by omega)
  have h4 : ctN (fun v => decide (0 < tgZ σ v)) 1 = 0 := by
    show (0 : Int) + (if decide (0 < tgZ σ 0) = true then 1 else 0) = 0
    have : tgZ σ 0 = 0 := by
      unfold tgZ
      rw [tcN_0]
      intro q q1 q2
      have := gAS_ix w (p := q) ⟨q1, by omega⟩
      omega
    rw [this]
    rfl
  have h3' : ugZ σ = 0 + (ctN (fun v => decide (0 < tgZ σ v)) 600 - ctN (fun v => decide (0 < tgZ σ v)) 1) := h3
  rw [h3', h4]
  have : ctN (fun v => decide (0 < tcN (stZ σ) v (szS σ - 1).toNat)) 600 = ctN (fun v => decide (0 < tgZ σ v)) 600 := rfl
  omega
def prS (σ : Nat → Int) (d hi p : Int) : Bool := hasS σ (d - nAS σ p) && decide (2 * nAS σ p ≤ d ∧ d - nAS σ p ≤ nAS σ hi)
/-- the first that is no sum, looked for from the middle on -/
theorem isL_iff (H : Int → Bool) (A : Int → Int) (d : Int) : ∀ (k : Nat) (p : Int), p ≤ k → (isL H A d k p = false ↔ ∀ j, 1 ≤ j → j ≤ p → H (d - A j) = false) := by
  intro k
  induction k with
  | zero =>
    intro p h
    refine ⟨fun _ j j1 j2 => by omega, fun _ => rfl⟩
  | succ k ih =>
    intro p h
    rw [isL]
    by_cases q : 1 ≤ p
    · rw [if_pos q]
      by_cases q2 : H (d - A p) = true
      · rw [if_pos q2]
        refine ⟨fun z => (by cases z), fun z => ?_⟩
        rw [z p q (Int.le_refl _)] at q2
        cases q2
      · rw [if_neg q2, ih (p - 1) (by omega)]
        refine ⟨fun z j j1 j2 => ?_, fun z j j1 j2 => z j j1 (by omega)⟩
        by_cases e : j = p
        · rw [e]
          simpa using q2
        · exact z j j1 (by omega)
    · rw [if_neg q]
      exact ⟨fun _ j j1 j2 => by omega, fun _ => rfl⟩
theorem mdL_ok (A : Int → Int) (z d : Int) : ∀ (k : Nat) (p : Int), z - p ≤ k → p ≤ z → 2 * A p ≤ d → p ≤ mdL A z d k p ∧ mdL A z d k p ≤ z ∧ 2 * A (mdL A z d k p) ≤ d ∧ (mdL A z d k p = z ∨ d < 2 * A (mdL A z d k p + 1)) := by
  intro k
  induction k with
  | zero =>
    intro p h1 h2 h3
    rw [mdL]
    exact ⟨Int.le_refl _, h2, h3, Or.inl (by omega)⟩
  | succ k ih =>
    intro p h1 h2 h3
    rw [mdL]
    by_cases q : p < z ∧ 2 * A (p + 1) ≤ d
    · rw [if_pos q]
      obtain ⟨i1, i2, i3, i4⟩ := ih (p + 1) (by omega) (by omega) q.2
      exact ⟨by omega, i2, i3, i4⟩
    · rw [if_neg q]
      refine ⟨Int.le_refl _, h2, h3, ?_⟩
      by_cases e : p = z
      · exact Or.inl e
      · exact Or.inr (by
          have : ¬ 2 * A (p + 1) ≤ d := fun y => q ⟨by omega, y⟩
          omega)
end SG
