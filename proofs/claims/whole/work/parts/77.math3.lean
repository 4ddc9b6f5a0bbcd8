/-! How many unlike there are; counting by places and by indices; ways to a sum. -/
theorem cnL_sh (P : Int → Bool) (n : Nat) {k : Nat} (hk : n ≤ k) : cnL P ((n : Int) + 1) k 1 0 = ctN (fun i => P (i + 1)) n := by
  have h := cnL_ct P (n + 1) k 1 0 (by omega) (by omega)
  have e1 : ∀ n : Nat, ctN P (n + 1) = ctN P 1 + ctN (fun i => P (i + 1)) n := by
    intro n
    induction n with
    | zero => show ctN P 1 = ctN P 1 + 0; omega
    | succ n ih =>
      rw [ctN, ih]
      show _ = ctN P 1 + ctN (fun i => P (i + 1)) (n + 1)
      rw [show ctN (fun i => P (i + 1)) (n + 1) = ctN (fun i => P (i + 1)) n + (if P ((n : Int) + 1) = true then 1 else 0) from rfl, Int.natCast_add]
      show (ctN P 1 + ctN (fun i => P (i + 1)) n + if P ((n : Int) + 1) = true then 1 else 0) = _
      omega
  have h' : cnL P ((n : Int) + 1) k 1 0 = 0 + (ctN P (n + 1) - ctN P 1) := h
  rw [h', e1]
  omega
/-- how many values there are is how often a new one comes -/
theorem ru_eq (f : Int → Int) (M : Nat) : ∀ n : Nat, (∀ p : Int, 1 ≤ p → p ≤ n → 0 ≤ f p ∧ f p < M) → ctN (fun v => decide (0 < tcN f v n)) M = ruN f n := by
  intro n
  induction n with
  | zero =>
    intro _
    have : ∀ k : Nat, ctN (fun v => decide (0 < tcN f v 0)) k = 0 := by
      intro k
      induction k with
      | zero => rfl
      | succ k ih =>
        rw [ctN, ih]
        rfl
    exact this M
  | succ n ih =>
    intro h
    have ih' := ih fun p p1 p2 => h p p1 (by omega)
    have hb := h ((n : Int) + 1) (by omega) (by omega)
    have hc := fun v => tcN_b f v n
    show _ = ctN (fun i => decide (tcN f (f (i + 1)) i.toNat = 0)) (n + 1)
    have er : ruN f n = ctN (fun i => decide (tcN f (f (i + 1)) i.toNat = 0)) n := rfl
    rw [ctN, ← er, ← ih', Int.toNat_natCast]
    by_cases c : tcN f (f ((n : Int) + 1)) n = 0
    · rw [if_pos (decide_eq_true c)]
      have := ctN_one (P := fun v => decide (0 < tcN f v (n + 1))) (P' := fun v => decide (0 < tcN f v n)) (n := M) (i := (f ((n : Int) + 1)).toNat) (by omega) (by
        rw [Int.toNat_of_nonneg hb.1, decide_eq_true_eq, tcN_s, if_pos rfl]
        omega) (by
        rw [Int.toNat_of_nonneg hb.1, decide_eq_false_iff_not, c]
        omega) (fun j j1 j2 => by
        rw [tcN_s, if_neg (by omega), Int.add_zero])
      omega
    · rw [if_neg (by rw [decide_eq_true_eq]; exact c), Int.add_zero]
      refine ctN_congr M fun j j1 => ?_
      rw [tcN_s]
      by_cases z : f ((n : Int) + 1) = j
      · have := hc j
        rw [z] at c
        rw [if_pos z, decide_eq_true (by omega), decide_eq_true (by omega)]
      · rw [if_neg z, Int.add_zero]
theorem bij_ix (P F : Int → Bool) : ∀ M : Nat, ctN (fun j => F (ixN P M (j + 1) : Int)) (ctN P M).toNat = ctN (fun i => P i && F i) M := by
  intro M
  induction M with
  | zero => rfl
  | succ M ih =>
    have hb := ctN_b P M
    have est : ∀ n : Nat, (n : Int) ≤ ctN P M → ctN (fun j => F (ixN P (M + 1) (j + 1) : Int)) n = ctN (fun j => F (ixN P M (j + 1) : Int)) n := fun n hn => ctN_congr n fun i hi => by rw [ixN_st P (by omega)]
    by_cases c : P (M : Int) = true
    · have e1 : (ctN P (M + 1)).toNat = (ctN P M).toNat + 1 := by
        rw [ctN, if_pos c]
        omega
      rw [e1, ctN, est _ (by omega), ih, show (((ctN P M).toNat : Nat) : Int) = ctN P M by omega, ixN_new P c]
      rw [show ctN (fun i => P i && F i) (M + 1) = ctN (fun i => P i && F i) M + (if (P (M : Int) && F (M : Int)) = true then 1 else 0) from rfl, c, Bool.true_and]
    · have c' : P (M : Int) = false := by simpa using c
      have e1 : ctN P (M + 1) = ctN P M := by
        rw [ctN, if_neg c]
        omega
      rw [e1, est _ (by omega), ih]
      rw [show ctN (fun i => P i && F i) (M + 1) = ctN (fun i => P i && F i) M + (if (P (M : Int) && F (M : Int)) = true then 1 else 0) from rfl, c', Bool.false_and]
      simp
theorem ctN_and_ge (P : Int → Bool) (a : Nat) : ∀ n : Nat, a ≤ n → ctN (fun i => P i && decide ((a : Int) ≤ i)) n = ctN P n - ctN P a := by
  have h0 : ∀ n : Nat, n ≤ a → ctN (fun i => P i && decide ((a : Int) ≤ i)) n = 0 := by
    intro n
    induction n with
    | zero => intro _; rfl
    | succ n ih =>
      intro h
      rw [ctN, ih (by omega), decide_eq_false (by omega), Bool.and_false]
      rfl
  intro n
  induction n with
  | zero =>
    intro h
    have : a = 0 := by omega
    subst this
    rfl
  | succ n ih =>
    intro h
    by_cases c : a ≤ n
    · rw [ctN, ih c, decide_eq_true (by omega), Bool.and_true, ctN]
      omega
    · have : a = n + 1 := by omega
      rw [h0 _ (by omega), this]
      omega
theorem ctN_more (P : Int → Bool) {e : Nat} : ∀ n : Nat, e ≤ n → (∀ i : Nat, e ≤ i → i < n → P (i : Int) = false) → ctN P n = ctN P e := by
  intro n
  induction n with
  | zero => intro hn h; rw [show e = 0 by omega]
  | succ n ih =>
    intro hn h
    by_cases c : e ≤ n
    · rw [ctN, h n c (by omega), ih c fun i h1 h2 => h i h1 (by omega)]
      simp
    · rw [show e = n + 1 by omega]
theorem cnL_fu (P : Int → Bool) (e : Int) : ∀ (k : Nat) (i c : Int), e ≤ i + k → cnL P e (k + 1) i c = cnL P e k i c := by
  intro k
  induction k with
  | zero =>
    intro i c h
    unfold cnL
    rw [if_neg (by omega)]
  | succ k ih =>
    intro i c h
    rw [cnL]
    show _ = if i < e then cnL P e k (i + 1) (if P i = true then c + 1 else c) else c
    by_cases q : i < e
    · rw [if_pos q, if_pos q]
      exact ih _ _ (by omega)
    · rw [if_neg q, if_neg q]
theorem cnL_none (P : Int → Bool) (e : Int) : ∀ (k : Nat) (i c : Int), (∀ j, i ≤ j → j < e → P j = false) → cnL P e k i c = c := by
  intro k
  induction k with
  | zero => intro i c h; rfl
  | succ k ih =>
    intro i c h
    unfold cnL
    by_cases q : i < e
    · rw [if_pos q, h i (Int.le_refl _) q]
      simp only [Bool.false_eq_true, if_false]
      exact ih _ _ fun j j1 j2 => h j (by omega) j2
    · rw [if_neg q]
section SG
variable {σ τ : Nat → Int} {p d e f n m x k g w q : Int}
theorem rest_m (w : WF σ) : cnL (fun p => decide (nAS σ p % d = e)) (szS σ + 1) 601 1 0 = tcN (rsZ σ d) e (szS σ).toNat := by
  have hz := szS_b w
  have := cnL_sh (fun p => decide (nAS σ p % d = e)) (szS σ).toNat (k := 601) (by omega)
  rw [show (((szS σ).toNat : Nat) : Int) = szS σ by omega] at this
  rw [this]
  rfl
theorem rests_m (w : WF σ) (hd : 1 ≤ d ∧ d ≤ 999) : cnL (fun v => decide (0 < tcN (rsZ σ d) v (szS σ).toNat)) d 1000 0 0 = ruN (rsZ σ d) (szS σ).toNat := by
  have hz := szS_b w
  rw [cnL_ct0 _ (by omega) (by omega)]
  exact ru_eq (rsZ σ d) d.toNat (szS σ).toNat fun p p1 p2 => by
    have h1 : 0 ≤ nAS σ p % d := Int.emod_nonneg _ (by omega)
    have h2 : nAS σ p % d < d := Int.emod_lt_of_pos _ (by omega)
    unfold rsZ
    omega
theorem gAS_ix (w : WF σ) (hp : 1 ≤ p ∧ p < szS σ) : gAS σ p = σ 2 * stZ σ p ∧ 1 ≤ stZ σ p ∧ stZ σ p < 600 := by
  obtain ⟨i, i1, i2, i3, i4, -⟩ := nAS_ix w (p := p) ⟨hp.1, by omega⟩
  obtain ⟨j, j1, j2, j3, j4, -⟩ := nAS_ix w (p := p + 1) ⟨by omega, by omega⟩
  have hij : i < j := ctN_ltr (hbS σ) (by omega)
  have w2 := w.2.2.1
  have w3 := w.2.2.2.1
  have e : gAS σ p = σ 2 * ((j : Int) - i) := by
    unfold gAS
    rw [if_pos (by omega), i4, j4, Int.mul_sub]
    omega
  have e2 : stZ σ p = (j : Int) - i := by
    unfold stZ
    rw [e, Int.mul_ediv_cancel_left _ (by omega)]
  rw [e2]
  exact ⟨e, by omega, by omega⟩
theorem stZ_inj (w : WF σ) (hp : 1 ≤ p ∧ p < szS σ) (hq : 1 ≤ q ∧ q < szS σ) : gAS σ p = gAS σ q ↔ stZ σ p = stZ σ q := by
  obtain ⟨e1, -, -⟩ := gAS_ix w hp
  obtain ⟨e2, -, -⟩ := gAS_ix w hq
  constructor
  · intro h
    unfold stZ
    rw [h]
  · intro h
    rw [e1, e2, h]
theorem tcN_0 (f : Int → Int) (v : Int) : ∀ n : Nat, tcN f v n = 0 ↔ ∀ q : Int, 1 ≤ q → q ≤ n → f q ≠ v := by
  intro n
  induction n with
  | zero => exact ⟨fun _ q h1 h2 => by omega, fun _ => rfl⟩
  | succ n ih =>
    have hb := tcN_b f v n
    rw [tcN_s]
    constructor
    · intro h q q1 q2
      have h1 : ¬ f ((n : Int) + 1) = v := fun z => by rw [if_pos z] at h; omega
      rw [if_neg h1, Int.add_zero] at h
      by_cases z : q = (n : Int) + 1
      · rw [z]
        exact h1
      · exact ih.mp h q q1 (by omega)
    · intro h
      rw [if_neg (h _ (by omega) (by omega)), Int.add_zero]
      exact ih.mpr fun q q1 q2 => h q q1 (by omega)
/-- whether a gap is new at its place -/
def nwZ (σ : Nat → Int) (p : Int) : Bool := decide (∀ j : Nat, j < (p - 1).toNat → gAS σ ((j : Int) + 1) ≠ gAS σ p)
theorem ug_m (w : WF σ) : cnL (nwZ σ) (szS σ) 600 1 0 = ugZ σ := by
  have hz := szS_b w
  have h1 : cnL (nwZ σ) (szS σ) 600 1 0 = ruN (stZ σ) (szS σ - 1).toNat := by
    have := cnL_sh (nwZ σ) (szS σ - 1).toNat (k := 600) (by omega)
    rw [show (((szS σ - 1).toNat : Nat) : Int) + 1 = szS σ by omega] at this
    rw [this]
    refine ctN_congr _ fun i hi => ?_
    have hi' : 1 ≤ (i : Int) + 1 ∧ (i : Int) + 1 < szS σ := by omega
    rw [Int.toNat_natCast]
    unfold nwZ
    refine decide_eq_decide.mpr ?_
    rw [tcN_0]
    constructor
    · intro h q q1 q2 z
      have := h (q - 1).toNat (by omega)
      rw [show (((q - 1).toNat : Nat) : Int) + 1 = q by omega] at this
      exact this ((stZ_inj w (by omega) hi').mpr z)
    · intro h j hj z
      exact h ((j : Int) + 1) (by omega) (by omega) ((stZ_inj w (by omega) hi').mp z)
  rw [h1]
  have h2 := ru_eq (stZ σ) 600 (szS σ - 1).toNat fun p p1 p2 => by
    have := gAS_ix w (p := p) ⟨p1, by omega⟩
    omega
  rw [← h2]
  have h3 := cnL_ct (fun v => decide (0 < tgZ σ v)) 600 600 1 0 (by omega) (by omega)
  have h4 : ctN (fun v => decide (0 < tgZ σ v)) 1 = 0 := by
    show (0 : Int) + (if decide (0 < tgZ σ 0) = true then 1 else 0) = 0
    have : tgZ σ 0 = 0 := by
      unfold tgZ
      rw [tcN_0]
      intro q q1 q2
      have := gAS_ix w (p := q) ⟨q1, by omega⟩
      omega
    rw [this]
    rfl
  have h3' : ugZ σ = 0 + (ctN (fun v => decide (0 < tgZ σ v)) 600 - ctN (fun v => decide (0 < tgZ σ v)) 1) := h3
  rw [h3', h4]
  have : ctN (fun v => decide (0 < tcN (stZ σ) v (szS σ - 1).toNat)) 600 = ctN (fun v => decide (0 < tgZ σ v)) 600 := rfl
  omega
theorem sketch_m (w : WF σ) (hd : 1 ≤ d) (hk : 0 ≤ k) (hc : k * d < σ 3) : cnL (fun p => decide ((ixN (hbS σ) (σ 3).toNat p : Int) / d = k)) (szS σ + 1) 601 1 0 = ctZ σ (k * d) (k * d + d) := by
  have hz := szS_b w
  have w3 := w.2.2.2.1
  have h0 : 0 ≤ k * d := Int.mul_nonneg hk (by omega)
  have h1 := cnL_sh (fun p => decide ((ixN (hbS σ) (σ 3).toNat p : Int) / d = k)) (szS σ).toNat (k := 601) (by omega)
  rw [show (((szS σ).toNat : Nat) : Int) = szS σ by omega] at h1
  rw [h1]
  have h2 := bij_ix (hbS σ) (fun i => decide (i / d = k)) (σ 3).toNat
  have h2' : ctN (fun i => decide ((ixN (hbS σ) (σ 3).toNat (i + 1) : Int) / d = k)) (szS σ).toNat = ctN (fun i => hbS σ i && decide (i / d = k)) (σ 3).toNat := h2
  rw [h2']
  have ed : ∀ i : Int, 0 ≤ i → (i / d = k ↔ k * d ≤ i ∧ i < k * d + d) := by
    intro i hi
    have hd0 : 0 < d := by omega
    constructor
    · intro h
      have h5 := Int.emod_nonneg i (show d ≠ 0 by omega)
      have h6 := Int.emod_lt_of_pos i hd0
      have h7 := Int.emod_def i d
      rw [h, Int.mul_comm] at h7
      omega
    · intro h
      have h5 : k ≤ i / d := (Int.le_ediv_iff_mul_le hd0).mpr h.1
      have h6 : i / d < k + 1 := (Int.ediv_lt_iff_lt_mul hd0).mpr (by rw [Int.add_mul, Int.one_mul]; exact h.2)
      omega
  unfold ctZ
  have hm := cnL_ct (hbS σ) (min (k * d + d) (σ 3)).toNat 600 (k * d).toNat 0 (by omega) (by omega)
  rw [show (((min (k * d + d) (σ 3)).toNat : Nat) : Int) = min (k * d + d) (σ 3) by omega, show (((k * d).toNat : Nat) : Int) = k * d by omega] at hm
  rw [hm, ← ctN_and_ge (hbS σ) (k * d).toNat _ (by omega), Int.zero_add]
  rw [ctN_more (fun i => hbS σ i && decide (i / d = k)) (e := (min (k * d + d) (σ 3)).toNat) (σ 3).toNat (by omega) fun i i1 i2 => ?_]
  · refine ctN_congr _ fun i hi => ?_
    congr 1
    refine decide_eq_decide.mpr ?_
    rw [ed i (by omega)]
    omega
  · have : ¬ ((i : Int) / d = k) := by
      rw [ed i (by omega)]
      omega
    rw [decide_eq_false this, Bool.and_false]
def prS (σ : Nat → Int) (d hi p : Int) : Bool := hasS σ (d - nAS σ p) && decide (2 * nAS σ p ≤ d ∧ d - nAS σ p ≤ nAS σ hi)
theorem ws_go (w : WF σ) : ∀ (k : Nat) (lo hi c : Int), hi + 1 ≤ lo + k → 1 ≤ lo → hi ≤ szS σ → wsL (nAS σ) d k lo hi c = cnL (prS σ d hi) (hi + 1) k lo c := by
  intro k
  induction k with
  | zero => intro lo hi c h1 h2 h3; rfl
  | succ k ih =>
    intro lo hi c h1 h2 h3
    rw [wsL]
    by_cases q : lo ≤ hi
    · rw [if_pos q]
      have hle := nAS_le w h2 q h3
      by_cases q2 : nAS σ lo + nAS σ hi ≤ d
      · rw [if_pos q2, ih _ _ _ (by omega) (by omega) h3]
        have q' : lo < hi + 1 := by omega
        rw [cnL, if_pos q']
        congr 1
        by_cases q3 : nAS σ lo + nAS σ hi = d
        · have : prS σ d hi lo = true := by
            unfold prS
            rw [show d - nAS σ lo = nAS σ hi by omega, hasS_n w ⟨by omega, h3⟩, decide_eq_true (by omega)]
            rfl
          rw [if_pos q3, if_pos this]
        · have : ¬ prS σ d hi lo = true := by
            unfold prS
            rw [decide_eq_false (by omega), Bool.and_false]
            decide
          rw [if_neg q3, if_neg this]
      · rw [if_neg q2, if_neg (by omega), ih _ _ _ (by omega) h2 (by omega), Int.sub_add_cancel]
        have hl : prS σ d hi (hi + 1 - 1) = false := by
          unfold prS
          rw [show hi + 1 - 1 = hi by omega, decide_eq_false (by omega), Bool.and_false]
        have e1 := cnL_tail (prS σ d hi) (hi + 1) hl (k + 1) lo c (by omega)
        rw [show hi + 1 - 1 = hi by omega] at e1
        rw [← e1, cnL_fu _ _ _ _ _ (by omega)]
        refine cnL_cg k lo c fun j j1 j2 => ?_
        unfold prS
        by_cases q3 : hasS σ (d - nAS σ j) = true
        · obtain ⟨t, t1, t2, t3, -⟩ := hasS_p w q3
          have hj := nAS_le w h2 j1 (by omega)
          congr 1
          refine decide_eq_decide.mpr ⟨fun z => ⟨z.1, ?_⟩, fun z => ⟨z.1, ?_⟩⟩
          · have := nAS_le w (p := hi - 1) (q := hi) (by omega) (by omega) h3
            omega
          · have hth : t < hi := by
              rcases Int.lt_or_le t hi with y | y
              · exact y
              · have := nAS_le w (p := hi) (q := t) (by omega) y t2
                omega
            have := nAS_le w (p := t) (q := hi - 1) t1 (by omega) (by omega)
            omega
        · rw [show hasS σ (d - nAS σ j) = false by simpa using q3]
          simp
    · rw [if_neg q, cnL, if_neg (by omega)]
theorem wt_go (w : WF σ) : ∀ (k : Nat) (i c : Int), szS σ + 1 ≤ i + k → 1 ≤ i → wtL (nAS σ) (hasS σ) (szS σ) d k i c = cnL (prS σ d (szS σ)) (szS σ + 1) k i c := by
  intro k
  induction k with
  | zero => intro i c h1 h2; rfl
  | succ k ih =>
    intro i c h1 h2
    by_cases q : i ≤ szS σ
    · by_cases q2 : 2 * nAS σ i ≤ d
      · have q' : i < szS σ + 1 := by omega
        rw [wtL, if_pos ⟨q, q2⟩, cnL, if_pos q', ih _ _ (by omega) (by omega)]
        congr 1
        have : prS σ d (szS σ) i = hasS σ (d - nAS σ i) := by
          unfold prS
          by_cases q3 : hasS σ (d - nAS σ i) = true
          · obtain ⟨t, t1, t2, t3, -⟩ := hasS_p w q3
            have := nAS_le w t1 t2 (Int.le_refl _)
            rw [decide_eq_true (by omega), Bool.and_true]
          · rw [show hasS σ (d - nAS σ i) = false by simpa using q3]
            rfl
        rw [this]
      · rw [wtL, if_neg (fun z => q2 z.2), cnL_none]
        intro j j1 j2
        have := nAS_le w h2 j1 (by omega)
        unfold prS
        rw [decide_eq_false (by omega), Bool.and_false]
    · rw [wtL, if_neg (fun z => q z.1), cnL_none]
      intro j j1 j2
      omega
theorem ws_m (w : WF σ) : wtZ σ d = wsZ σ d := by
  have hz := szS_b w
  unfold wtZ wsZ
  rw [wt_go w 601 1 0 (by omega) (by omega), ws_go w 600 1 (szS σ) 0 (by omega) (by omega) (by omega), cnL_fu _ _ _ _ _ (by omega)]
/-- the first that is no sum, looked for from the middle on -/
theorem isL_iff (H : Int → Bool) (A : Int → Int) (d : Int) : ∀ (k : Nat) (p : Int), p ≤ k → (isL H A d k p = false ↔ ∀ j, 1 ≤ j → j ≤ p → H (d - A j) = false) := by
  intro k
  induction k with
  | zero =>
    intro p h
    refine ⟨fun _ j j1 j2 => by omega, fun _ => rfl⟩
  | succ k ih =>
    intro p h
    rw [isL]
    by_cases q : 1 ≤ p
    · rw [if_pos q]
      by_cases q2 : H (d - A p) = true
      · rw [if_pos q2]
        refine ⟨fun z => (by cases z), fun z => ?_⟩
        rw [z p q (Int.le_refl _)] at q2
        cases q2
      · rw [if_neg q2, ih (p - 1) (by omega)]
        refine ⟨fun z j j1 j2 => ?_, fun z j j1 j2 => z j j1 (by omega)⟩
        by_cases e : j = p
        · rw [e]
          simpa using q2
        · exact z j j1 (by omega)
    · rw [if_neg q]
      exact ⟨fun _ j j1 j2 => by omega, fun _ => rfl⟩
theorem wt_0 (w : WF σ) (h1 : 1 ≤ p) (h2 : p ≤ szS σ) (h3 : 2 * nAS σ p ≤ d) (h4 : p = szS σ ∨ d < 2 * nAS σ (p + 1)) : ∀ (k : Nat) (i c : Int), p + 1 ≤ i + k → 1 ≤ i → i ≤ p + 1 → 0 ≤ c → (wtL (nAS σ) (hasS σ) (szS σ) d k i c = 0 ↔ c = 0 ∧ ∀ j, i ≤ j → j ≤ p → hasS σ (d - nAS σ j) = false) := by
  intro k
  induction k with
  | zero =>
    intro i c g1 g2 g3 g4
    exact ⟨fun z => ⟨z, fun j j1 j2 => by omega⟩, fun z => z.1⟩
  | succ k ih =>
    intro i c g1 g2 g3 g4
    by_cases q : i ≤ p
    · have := nAS_le w g2 q h2
      rw [wtL, if_pos ⟨by omega, by omega⟩]
      by_cases q2 : hasS σ (d - nAS σ i) = true
      · rw [if_pos q2, ih (i + 1) (c + 1) (by omega) (by omega) (by omega) (by omega)]
        refine ⟨fun z => absurd z.1 (by omega), fun z => ?_⟩
        rw [z.2 i (Int.le_refl _) q] at q2
        cases q2
      · rw [if_neg q2, ih (i + 1) c (by omega) (by omega) (by omega) g4]
        refine ⟨fun z => ⟨z.1, fun j j1 j2 => ?_⟩, fun z => ⟨z.1, fun j j1 j2 => z.2 j (by omega) j2⟩⟩
        by_cases e : j = i
        · rw [e]
          simpa using q2
        · exact z.2 j (by omega) j2
    · have e : i = p + 1 := by omega
      rw [wtL, if_neg (fun z => by
        rw [e] at z
        omega)]
      exact ⟨fun z => ⟨z, fun j j1 j2 => by omega⟩, fun z => z.1⟩
theorem mdL_ok (A : Int → Int) (z d : Int) : ∀ (k : Nat) (p : Int), z - p ≤ k → p ≤ z → 2 * A p ≤ d → p ≤ mdL A z d k p ∧ mdL A z d k p ≤ z ∧ 2 * A (mdL A z d k p) ≤ d ∧ (mdL A z d k p = z ∨ d < 2 * A (mdL A z d k p + 1)) := by
  intro k
  induction k with
  | zero =>
    intro p h1 h2 h3
    rw [mdL]
    exact ⟨Int.le_refl _, h2, h3, Or.inl (by omega)⟩
  | succ k ih =>
    intro p h1 h2 h3
    rw [mdL]
    by_cases q : p < z ∧ 2 * A (p + 1) ≤ d
    · rw [if_pos q]
      obtain ⟨i1, i2, i3, i4⟩ := ih (p + 1) (by omega) (by omega) q.2
      exact ⟨by omega, i2, i3, i4⟩
    · rw [if_neg q]
      refine ⟨Int.le_refl _, h2, h3, ?_⟩
      by_cases e : p = z
      · exact Or.inl e
      · exact Or.inr (by
          have : ¬ 2 * A (p + 1) ≤ d := fun y => q ⟨by omega, y⟩
          omega)
theorem fi_go (w : WF σ) (hd : 0 ≤ d) : ∀ (k : Nat) (p n : Int), 1 ≤ p → p ≤ szS σ → 2 * nAS σ p ≤ n → fiL (hasS σ) (nAS σ) (szS σ) e d k p n = fnL (wtZ σ) e d k n := by
  have hz := szS_b w
  intro k
  induction k with
  | zero => intro p n h1 h2 h3; rfl
  | succ k ih =>
    intro p n h1 h2 h3
    obtain ⟨m1, m2, m3, m4⟩ := mdL_ok (nAS σ) (szS σ) n 600 p (by omega) h2 h3
    rw [fiL, fnL]
    generalize mdL (nAS σ) (szS σ) n 600 p = q at m1 m2 m3 m4 ⊢
    have h5 : wtZ σ n = 0 ↔ isL (hasS σ) (nAS σ) n 600 q = false := by
      have := wt_0 w (by omega) m2 m3 m4 601 1 0 (by omega) (by omega) (by omega) (by omega)
      unfold wtZ
      rw [this, isL_iff _ _ _ 600 q (by omega)]
      exact ⟨fun z => z.2, fun z => ⟨rfl, z⟩⟩
    by_cases c : n ≤ e
    · rw [if_pos c, if_pos c]
      by_cases c2 : isL (hasS σ) (nAS σ) n 600 q = true
      · rw [if_pos c2, if_neg (fun z => by rw [h5.mp z] at c2; cases c2), ih _ _ (by omega) m2 (by omega)]
      · rw [if_neg c2, if_pos (h5.mpr (by simpa using c2))]
    · rw [if_neg c, if_neg c]
theorem fi_m (w : WF σ) (hd : 0 ≤ d) : fnZ σ d = fnL (wtZ σ) (2 * nAS σ (szS σ)) d 300000 (2 * nAS σ 1) := by
  have hz := szS_b w
  unfold fnZ
  exact fi_go w hd 300000 1 (2 * nAS σ 1) (by omega) (by omega) (by omega)
end SG
