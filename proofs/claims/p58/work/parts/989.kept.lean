/-! Of σ alone: what a round keeps and strikes, told place by place as the law tells it. -/
theorem ctN_full (P : Int → Bool) : ∀ n : Nat, ctN P n = n → ∀ i : Nat, i < n → P (i : Int) = true := by
  intro n
  induction n with
  | zero => intro _ i hi; omega
  | succ n ih =>
    intro h i hi
    have hb := ctN_b P n
    rw [ctN] at h
    by_cases q : P (n : Int) = true
    · rw [if_pos q] at h
      by_cases z : i = n
      · rw [z]
        exact q
      · exact ih (by omega) i (by omega)
    · rw [if_neg q] at h
      omega
theorem least_no (K : Int → Bool) : ∀ n : Nat, (∀ t : Nat, t < n → K (t : Int) = true) ∨ ∃ t : Nat, t < n ∧ K (t : Int) = false ∧ ∀ u : Nat, u < t → K (u : Int) = true := by
  intro n
  induction n with
  | zero => exact Or.inl fun t ht => by omega
  | succ n ih =>
    rcases ih with h | ⟨t, t1, t2, t3⟩
    · by_cases q : K (n : Int) = true
      · left
        intro t ht
        by_cases z : t = n
        · rw [z]
          exact q
        · exact h t (by omega)
      · right
        exact ⟨n, by omega, by simpa using q, h⟩
    · exact Or.inr ⟨t, by omega, t2, t3⟩
/-- the first that goes, as the law finds it -/
def frF (K : Int → Bool) (f : Nat → Int) : Nat → Int
  | 0 => -1
  | k + 1 => if frF K f k < 0 ∧ K (k : Int) = false then f k else frF K f k
theorem frF_no (K : Int → Bool) (f : Nat → Int) : ∀ n : Nat, (∀ t : Nat, t < n → K (t : Int) = true) → frF K f n = -1 := by
  intro n
  induction n with
  | zero => intro _; rfl
  | succ n ih =>
    intro h
    have hn := h n (by omega)
    rw [frF, if_neg (fun z => by rw [hn] at z; exact absurd z.2 (by decide)), ih fun t ht => h t (by omega)]
theorem frF_at (K : Int → Bool) (f : Nat → Int) {t : Nat} (h1 : K (t : Int) = false) (h2 : ∀ u : Nat, u < t → K (u : Int) = true) (h3 : 0 ≤ f t) : ∀ n : Nat, t < n → frF K f n = f t := by
  intro n
  induction n with
  | zero => intro h; omega
  | succ n ih =>
    intro h
    by_cases z : t = n
    · subst z
      rw [frF, if_pos ⟨by rw [frF_no K f t h2]; decide, h1⟩]
    · have e := ih (by omega)
      rw [frF, e, if_neg (fun z => by omega)]
section KP
variable {σ : Nat → Int} {v gp : Int} {m : Nat} {f : Nat → Int}
/-- what the law's cell tells of a sieve's law -/
def CR (σ : Nat → Int) (v : Int) : Prop := (σ 0 = 4 → σ 8 = 2 + pt (v / 8) 9 ∧ σ 9 = 1 + pt (v / 64) 6) ∧ (σ 0 = 5 → σ 7 = 3 ∧ σ 8 = 2 + pt (v / 8) 9 ∧ σ 9 = 2 + pt (v / 64) 30 ∧ σ 10 = 2 + pt (v / 256) 5)
theorem gp_gl (w : WF σ) (hc : CR σ v) (hm : (m : Int) = szS σ) (hf : ∀ j, j < m → f j = nAS σ ((j : Int) + 1)) : (gpL (σ 0) (σ 4 + 1) m v f < 2 ∧ glS σ < 2 ∧ -1 ≤ gpL (σ 0) (σ 4 + 1) m v f) ∨ (gpL (σ 0) (σ 4 + 1) m v f = glS σ ∧ 2 ≤ glS σ ∧ glS σ ≤ 100000) := by
  have h4 := w.2.2.2.2.1.1
  have hb := glS_b w
  have w7 := w.2.2.2.2.2.2.2.1
  have w8 := w.2.2.2.2.2.2.2.2.1
  have hsuf : gpL (σ 0) (σ 4 + 1) m v f = glS σ ∨ (gpL (σ 0) (σ 4 + 1) m v f = 0 ∧ glS σ = -1) → -1 ≤ glS σ → (gpL (σ 0) (σ 4 + 1) m v f < 2 ∧ glS σ < 2 ∧ -1 ≤ gpL (σ 0) (σ 4 + 1) m v f) ∨ (gpL (σ 0) (σ 4 + 1) m v f = glS σ ∧ 2 ≤ glS σ ∧ glS σ ≤ 100000) := fun q q2 => by
    rcases q with q | q
    · by_cases z : glS σ < 2
      · left
        omega
      · right
        omega
    · left
      omega
  by_cases q1 : σ 0 = 1
  · refine hsuf (Or.inl ?_) ?_
    · unfold gpL glS
      rw [if_pos q1, if_pos q1]
      omega
    · unfold glS
      rw [if_pos q1]
      omega
  · by_cases q4 : σ 0 = 4
    · obtain ⟨c1, c2⟩ := hc.1 q4
      have z := w7 q4
      by_cases q : σ 4 < σ 9
      · refine hsuf (Or.inl ?_) ?_
        · unfold gpL glS
          rw [if_neg q1, if_neg q1, if_pos q4, if_pos q4, if_pos q, if_pos (by omega), c1]
        · unfold glS
          rw [if_neg q1, if_pos q4, if_pos q]
          omega
      · refine hsuf (Or.inr ⟨?_, ?_⟩) ?_
        · unfold gpL
          rw [if_neg q1, if_pos q4, if_neg (by omega)]
        · unfold glS
          rw [if_neg q1, if_pos q4, if_neg q]
        · unfold glS
          rw [if_neg q1, if_pos q4, if_neg q]
          decide
    · by_cases q5 : σ 0 = 5
      · obtain ⟨c0, c1, c2, c3⟩ := hc.2 q5
        obtain ⟨z1, z2, z3, z4⟩ := w8 q5
        by_cases q : σ 4 < σ 7
        · have hz := z4 (σ 4).toNat (by omega)
          refine hsuf (Or.inl ?_) ?_
          · unfold gpL glS
            rw [if_neg q1, if_neg q1, if_neg q4, if_neg q4, if_pos q5, if_pos q5, if_pos q, if_pos (by omega)]
            have h3 : σ 4 = 0 ∨ σ 4 = 1 ∨ σ 4 = 2 := by omega
            rcases h3 with h | h | h
            · rw [h, if_pos (by decide), ← c1]
              rfl
            · rw [h, if_neg (by decide), if_pos (by decide), ← c2]
              rfl
            · rw [h, if_neg (by decide), if_neg (by decide), ← c3]
              rfl
          · unfold glS
            rw [if_neg q1, if_neg q4, if_pos q5, if_pos q]
            omega
        · refine hsuf (Or.inr ⟨?_, ?_⟩) ?_
          · unfold gpL
            rw [if_neg q1, if_neg q4, if_pos q5, if_neg (by omega)]
          · unfold glS
            rw [if_neg q1, if_neg q4, if_pos q5, if_neg q]
          · unfold glS
            rw [if_neg q1, if_neg q4, if_pos q5, if_neg q]
            decide
      · have nb := nAS_b w (σ 4 + 2)
        have eg : glS σ = nAS σ (σ 4 + 2) := by
          unfold glS
          rw [if_neg q1, if_neg q4, if_neg q5]
        by_cases q : σ 4 + 1 < m
        · refine hsuf (Or.inl ?_) (by omega)
          unfold gpL
          rw [eg, if_neg q1, if_neg q4, if_neg q5, if_pos q, hf _ (by omega)]
          congr 1
          omega
        · refine hsuf (Or.inr ⟨?_, ?_⟩) (by omega)
          · unfold gpL
            rw [if_neg q1, if_neg q4, if_neg q5, if_neg q]
          · rw [eg]
            exact nAS_no (by omega)
/-- which places the law's round keeps, from 0 -/
def kpB (σ : Nat → Int) (gp : Int) : Int → Bool := fun t => !(decide (2 ≤ gp) && spC (σ 0) (σ 4) (t + 1) (nAS σ (t + 1)) gp)
theorem kp_none (h : gp < 2) (t : Int) : kpB σ gp t = true := by
  unfold kpB
  rw [decide_eq_false (by omega)]
  rfl
theorem kp_spC (h : 2 ≤ gp) (t : Int) : kpB σ gp t = !(spC (σ 0) (σ 4) (t + 1) (nAS σ (t + 1)) gp) := by
  unfold kpB
  rw [decide_eq_true h, Bool.true_and]
theorem kp_stk (w : WF σ) (h : 2 ≤ gp) {i : Nat} (hi : (i : Int) < σ 3) (hh : hbS σ i = true) : kpB σ gp (ctN (hbS σ) i) = !stk σ gp i := by
  rw [kp_spC h]
  unfold stk
  rw [(nAS_of w hi hh).1, hh, decide_eq_true hi]
  rfl
/-- the law's done is the sieve's -/
theorem kp_done (w : WF σ) (hm : (m : Int) = szS σ) (hg : (gp < 2 ∧ glS σ < 2) ∨ (gp = glS σ ∧ 2 ≤ glS σ)) : (gp < 2 ∨ (σ 0 < 4 ∧ ctN (kpB σ gp) m = m)) ↔ ngS σ = -1 := by
  rcases hg with ⟨g1, g2⟩ | ⟨g1, g2⟩
  · refine ⟨fun _ => ?_, fun _ => Or.inl g1⟩
    unfold ngS
    rw [if_pos g2]
  · have hk := w.1
    constructor
    · rintro (z | ⟨z1, z2⟩)
      · omega
      · unfold ngS
        rw [if_neg (by omega), if_neg]
        intro q
        rcases q with q | q | q
        · omega
        · omega
        · obtain ⟨p, p1, p2, p3⟩ := exL_ex _ _ _ _ q
          have := ctN_full _ m z2 (p - 1).toNat (by omega)
          rw [kp_spC (by omega), show (((p - 1).toNat : Nat) : Int) + 1 = p by omega, g1] at this
          have p3' : spC (σ 0) (σ 4) p (nAS σ p) (glS σ) = true := p3
          rw [p3'] at this
          exact absurd this (by decide)
    · intro q
      right
      unfold ngS at q
      rw [if_neg (by omega)] at q
      by_cases z : σ 0 = 4 ∨ σ 0 = 5 ∨ exL (fun p => spC (σ 0) (σ 4) p (nAS σ p) (glS σ)) (szS σ + 1) 601 1 = true
      · rw [if_pos z] at q
        omega
      · have hs := szS_b w
        refine ⟨by
          have n4 : ¬ σ 0 = 4 := fun y => z (Or.inl y)
          have n5 : ¬ σ 0 = 5 := fun y => z (Or.inr (Or.inl y))
          omega, ctN_all m fun i hi => ?_⟩
        rw [kp_spC (by omega), g1]
        by_cases y : spC (σ 0) (σ 4) ((i : Int) + 1) (nAS σ ((i : Int) + 1)) (glS σ) = true
        · exact absurd (Or.inr (Or.inr (exL_of _ _ 601 1 (by omega) ⟨(i : Int) + 1, by omega, by omega, y⟩))) z
        · have : spC (σ 0) (σ 4) ((i : Int) + 1) (nAS σ ((i : Int) + 1)) (glS σ) = false := by simpa using y
          rw [this]
          rfl
theorem ng_gl (h : ngS σ ≠ -1) : ngS σ = glS σ := by
  unfold ngS at h ⊢
  by_cases h1 : glS σ < 2
  · rw [if_pos h1] at h
    exact absurd rfl h
  · rw [if_neg h1] at h ⊢
    by_cases h2 : σ 0 = 4 ∨ σ 0 = 5 ∨ exL (fun p => spC (σ 0) (σ 4) p (nAS σ p) (glS σ)) (szS σ + 1) 601 1 = true
    · rw [if_pos h2]
    · rw [if_neg h2] at h
      exact absurd rfl h
theorem kp_hb (w : WF σ) (hn : ngS σ ≠ -1) {i : Nat} (hi : (i : Int) < σ 3) : hbS (sw1 σ) i = (hbS σ i && kpB σ (ngS σ) (ctN (hbS σ) i)) := by
  have e : hbS (sw1 σ) i = (hbS σ i && !stk σ (ngS σ) i) := swS_hb w _ hi
  rw [e]
  by_cases q : hbS σ i = true
  · rw [kp_stk w (ngS_ok w hn).1.1 hi q]
  · have q2 : hbS σ i = false := by simpa using q
    rw [q2]
    rfl
theorem kp_ct (w : WF σ) (hn : ngS σ ≠ -1) {n : Nat} (h : (n : Int) ≤ σ 3) : ctN (hbS (sw1 σ)) n = ctN (kpB σ (ngS σ)) (ctN (hbS σ) n).toNat := ctN_comp (hbS σ) (kpB σ (ngS σ)) (hbS (sw1 σ)) n fun i hi => kp_hb w hn (by omega)
theorem kp_sz (w : WF σ) (hn : ngS σ ≠ -1) (hm : (m : Int) = szS σ) : szS (sw1 σ) = ctN (kpB σ (ngS σ)) m := by
  have w3 := w.2.2.2.1
  have e : szS (sw1 σ) = ctN (hbS (sw1 σ)) (σ 3).toNat := by
    unfold szS
    rw [(sw_lo w).2.2.2.1]
  rw [e, kp_ct w hn (by omega)]
  congr 1
  have : ctN (hbS σ) (σ 3).toNat = szS σ := rfl
  omega
theorem kp_nAS (w : WF σ) (hn : ngS σ ≠ -1) (hm : (m : Int) = szS σ) {t : Nat} (ht : t < m) (hk : kpB σ (ngS σ) t = true) : nAS (sw1 σ) (ctN (kpB σ (ngS σ)) t + 1) = nAS σ ((t : Int) + 1) := by
  have wt : WF (sw1 σ) := swS_WF w hn
  obtain ⟨e0, e1, e2, e3, e4, e5⟩ := sw_lo w
  obtain ⟨i, i1, i2, i3, i4, -⟩ := nAS_ix w (p := (t : Int) + 1) ⟨by omega, by omega⟩
  have ec : ctN (hbS σ) i = t := by omega
  have hh : hbS (sw1 σ) i = true := by rw [kp_hb w hn i1, i2, ec, hk]; rfl
  have h2 := kp_ct w hn (n := i) (by omega)
  rw [ec, Int.toNat_natCast] at h2
  rw [← h2, (nAS_of wt (by rw [e3]; exact i1) hh).1, e1, e2, i4]
theorem kp_first (w : WF σ) (hn : ngS σ ≠ -1) (hm : (m : Int) = szS σ) (hf : ∀ j, j < m → f j = nAS σ ((j : Int) + 1)) : fsZ (sw1 σ) (σ 5 + 1) = frF (kpB σ (ngS σ)) f m := by
  have wt : WF (sw1 σ) := swS_WF w hn
  have h5 := WF_5 w
  have w3 := w.2.2.2.1
  obtain ⟨e0, e1, e2, e3, e4, e5⟩ := sw_lo w
  have g2 := (ngS_ok w hn).1.1
  have hsk : ∀ i : Nat, (i : Int) < σ 3 → skZ (sw1 σ) i = σ 5 + 1 → stk σ (ngS σ) i = true := by
    intro i hi h
    rw [sw_sk w hi] at h
    by_cases q : stk σ (ngS σ) i = true
    · exact q
    · rw [if_neg q] at h
      by_cases q2 : hbS σ i = true
      · rw [if_pos q2] at h
        omega
      · rw [if_neg q2] at h
        have := sw_old w hi q2
        omega
  have hlt : ∀ i : Nat, (i : Int) < σ 3 → hbS σ i = true → ctN (hbS σ) i < szS σ := fun i hi hh => by
    have := (nAS_of w hi hh).2.2
    omega
  unfold fsZ
  rw [e3]
  rcases least_no (kpB σ (ngS σ)) m with h | ⟨t, t1, t2, t3⟩
  · have en : fdL (fun i => decide (skZ (sw1 σ) i = σ 5 + 1)) (σ 3) 600 0 = σ 3 := fdL_no _ _ _ _ fun t t1 t2 => by
      refine decide_eq_false fun z => ?_
      have ht : ((t.toNat : Nat) : Int) = t := Int.toNat_of_nonneg t1
      rw [← ht] at z t2
      have hs := hsk _ t2 z
      have hb := stk_hb hs
      have cb := ctN_b (hbS σ) t.toNat
      have hl := hlt _ t2 hb
      have := kp_stk w g2 t2 hb
      rw [hs, ← Int.toNat_of_nonneg cb.1, h _ (by omega)] at this
      exact absurd this (by decide)
    rw [en, if_neg (Int.lt_irrefl _), frF_no _ f m h]
  · obtain ⟨i, i1, i2, i3, i4, i5, -⟩ := nAS_ix w (p := (t : Int) + 1) ⟨by omega, by omega⟩
    have ec : ctN (hbS σ) i = t := by omega
    have hs : stk σ (ngS σ) i = true := by
      have := kp_stk w g2 i1 i2
      rw [ec, t2] at this
      simpa using this.symm
    have ea : fdL (fun j => decide (skZ (sw1 σ) j = σ 5 + 1)) (σ 3) 600 0 = i := fdL_at _ _ i1 (decide_eq_true (by rw [sw_sk w i1, if_pos hs])) 600 0 (by omega) (by omega) fun u u1 u2 => by
      refine decide_eq_false fun z => ?_
      have hu : ((u.toNat : Nat) : Int) = u := Int.toNat_of_nonneg u1
      rw [← hu] at z u2
      have hs2 := hsk u.toNat (by omega) z
      have hb := stk_hb hs2
      have cb := ctN_b (hbS σ) u.toNat
      have hl := ctN_lt (hbS σ) (show u.toNat < i by omega) hb
      have := kp_stk w g2 (i := u.toNat) (by omega) hb
      rw [hs2, ← Int.toNat_of_nonneg cb.1, t3 _ (by omega)] at this
      exact absurd this (by decide)
    have ef := hf t t1
    rw [ea, if_pos i1, frF_at _ f t2 t3 (by omega) m t1, ef, i4, e1, e2]
end KP
