/-! Functional part: the longest mirror; each middle is begun from what an outer mirror tells. -/
theorem mrL_q (g : Int → Int) (n lo hi : Int) : ∀ (k : Nat) (c : Int), lo ≤ c + k → 0 ≤ c → (∀ t, 0 ≤ t → t < c → 1 ≤ lo - t ∧ hi + t < n ∧ g (lo - t) = g (hi + t)) → c ≤ mrL g n lo hi k c ∧ (∀ t, 0 ≤ t → t < mrL g n lo hi k c → 1 ≤ lo - t ∧ hi + t < n ∧ g (lo - t) = g (hi + t)) ∧ ¬ (1 ≤ lo - mrL g n lo hi k c ∧ hi + mrL g n lo hi k c < n ∧ g (lo - mrL g n lo hi k c) = g (hi + mrL g n lo hi k c)) := by
  intro k
  induction k with
  | zero =>
    intro c h1 h2 h3
    exact ⟨Int.le_refl _, h3, fun z => by have : mrL g n lo hi 0 c = c := rfl; rw [this] at z; omega⟩
  | succ k ih =>
    intro c h1 h2 h3
    unfold mrL
    by_cases q : 1 ≤ lo - c ∧ hi + c < n ∧ g (lo - c) = g (hi + c)
    · rw [if_pos q]
      obtain ⟨a, b, d⟩ := ih (c + 1) (by omega) (by omega) fun t t1 t2 => by
        by_cases z : t = c
        · rw [z]
          exact q
        · exact h3 t t1 (by omega)
      exact ⟨by omega, b, d⟩
    · rw [if_neg q]
      exact ⟨Int.le_refl _, h3, q⟩
theorem mrL_fix (g : Int → Int) (n lo hi : Int) (hl : lo ≤ 600) {c : Int} (h0 : 0 ≤ c) (hc : c ≤ mrL g n lo hi 600 0) : mrL g n lo hi 600 c = mrL g n lo hi 600 0 := by
  obtain ⟨a0, a1, a2⟩ := mrL_q g n lo hi 600 0 (by omega) (by omega) (fun t t1 t2 => by omega)
  obtain ⟨b0, b1, b2⟩ := mrL_q g n lo hi 600 c (by omega) h0 (fun t t1 t2 => a1 t t1 (by omega))
  rcases Int.lt_trichotomy (mrL g n lo hi 600 c) (mrL g n lo hi 600 0) with z | z | z
  · exact absurd (a1 _ (by omega) z) b2
  · exact z
  · exact absurd (b1 _ a0 z) a2
/-- the length of the longest mirror around a middle (the places of its first and last gap together) -/
def lnM (g : Int → Int) (n m : Int) : Int := 2 * mrL g n (m / 2) (m / 2 + m % 2) 600 0 + m % 2 - 1
section LN
variable {g : Int → Int} {n m e K o en A : Int}
theorem lnM_sym (hm : 2 ≤ m ∧ m ≤ 1200) (he : 2 * e ≤ m + lnM g n m - 1) : ∀ p, p ≤ e → m - e ≤ p → 1 ≤ p ∧ p < n ∧ g p = g (m - p) := by
  intro p p1 p2
  unfold lnM at he
  obtain ⟨a0, a1, a2⟩ := mrL_q g n (m / 2) (m / 2 + m % 2) 600 0 (by omega) (by omega) (fun t t1 t2 => by omega)
  generalize mrL g n (m / 2) (m / 2 + m % 2) 600 0 = R at a0 a1 he
  by_cases q : p ≤ m / 2
  · obtain ⟨b1, b2, b3⟩ := a1 (m / 2 - p) (by omega) (by omega)
    have e1 : m / 2 - (m / 2 - p) = p := by omega
    have e2 : m / 2 + m % 2 + (m / 2 - p) = m - p := by omega
    rw [e1, e2] at b3
    exact ⟨by omega, by omega, b3⟩
  · obtain ⟨b1, b2, b3⟩ := a1 (p - (m / 2 + m % 2)) (by omega) (by omega)
    have e1 : m / 2 - (p - (m / 2 + m % 2)) = m - p := by omega
    have e2 : m / 2 + m % 2 + (p - (m / 2 + m % 2)) = p := by omega
    rw [e1, e2] at b3
    exact ⟨by omega, by omega, b3.symm⟩
theorem lnM_ge (hm : 2 ≤ m ∧ m ≤ 1200) (hk : K = 2 * e - m + 1) (h : ∀ p, p ≤ e → m - e ≤ p → 1 ≤ p ∧ p < n ∧ g p = g (m - p)) : K ≤ lnM g n m := by
  unfold lnM
  obtain ⟨a0, a1, a2⟩ := mrL_q g n (m / 2) (m / 2 + m % 2) 600 0 (by omega) (by omega) (fun t t1 t2 => by omega)
  generalize mrL g n (m / 2) (m / 2 + m % 2) 600 0 = R at a0 a1 a2 ⊢
  rcases Int.lt_or_le (2 * R + m % 2 - 1) K with z | z
  · refine absurd ?_ a2
    obtain ⟨b1, -, b3⟩ := h (m / 2 - R) (by omega) (by omega)
    obtain ⟨-, d2, -⟩ := h (m / 2 + m % 2 + R) (by omega) (by omega)
    have e1 : m - (m / 2 - R) = m / 2 + m % 2 + R := by omega
    rw [e1] at b3
    exact ⟨b1, d2, b3⟩
  · exact z
theorem lnM_b (g : Int → Int) (n m : Int) : -1 ≤ lnM g n m ∧ lnM g n m ≤ 1200 := by
  have h := mrL_b g n (m / 2) (m / 2 + m % 2) 600 0
  unfold lnM
  omega
/-- a middle's mirror is at least as long as what is known of it -/
theorem mir_known (hn : n ≤ 600) (hm : 2 ≤ m ∧ m ≤ 2 * (n - 1)) (ho : (o = 0 ∧ en = 0) ∨ (2 ≤ o ∧ o < m ∧ 2 * en = o + lnM g n o - 1)) (hA : 2 ≤ 2 * o - m → A = lnM g n (2 * o - m)) (h1 : K ≤ A) (h2 : K ≤ 2 * en - m + 1) (h3 : K = A ∨ K = 2 * en - m + 1) (h4 : 1 ≤ K) : K ≤ lnM g n m ∧ (K + m) % 2 = 1 := by
  rcases ho with ⟨z1, z2⟩ | ⟨o1, o2, o3⟩
  · omega
  · have so := lnM_sym (g := g) (n := n) (m := o) (e := en) ⟨o1, by omega⟩ (by omega)
    have f1 := (so (o - en) (by omega) (by omega)).1
    have hj : 2 ≤ 2 * o - m := by omega
    have eA := hA hj
    have par : (K + m) % 2 = 1 := by
      rcases h3 with z | z
      · rw [z, eA]
        unfold lnM
        omega
      · omega
    refine ⟨lnM_ge (e := (K + m - 1) / 2) ⟨hm.1, by omega⟩ (by omega) fun p p1 p2 => ?_, par⟩
    obtain ⟨c1, c2, c3⟩ := so p (by omega) (by omega)
    obtain ⟨-, -, c4⟩ := so (m - p) (by omega) (by omega)
    obtain ⟨-, -, c5⟩ := lnM_sym (g := g) (n := n) (m := 2 * o - m) (e := o - m + (K + m - 1) / 2) ⟨hj, by omega⟩ (by omega) (o - p) (by omega) (by omega)
    refine ⟨c1, c2, ?_⟩
    have e1 : 2 * o - m - (o - p) = o - (m - p) := by omega
    rw [c3, c5, c4, e1]
theorem mir_start (hn : n ≤ 600) (hm : 2 ≤ m ∧ m ≤ 2 * (n - 1)) (ho : (o = 0 ∧ en = 0) ∨ (2 ≤ o ∧ o < m ∧ 2 * en = o + lnM g n o - 1)) (hA : 2 ≤ 2 * o - m → A = lnM g n (2 * o - m)) {M : Int} (hM : M = if 2 * en - m + 1 < A then 2 * en - m + 1 else A) (hK : K = if M < (m + 1) % 2 then (m + 1) % 2 else M) : ∃ c, K = 2 * c + m % 2 - 1 ∧ 0 ≤ c ∧ c ≤ mrL g n (m / 2) (m / 2 + m % 2) 600 0 := by
  have hM1 : M ≤ A ∧ M ≤ 2 * en - m + 1 ∧ (M = A ∨ M = 2 * en - m + 1) := by
    rw [hM]
    split <;> omega
  have hK1 : K = (m + 1) % 2 ∨ (K = M ∧ (m + 1) % 2 < M) := by
    rw [hK]
    split <;> omega
  have hl : K ≤ lnM g n m ∧ (K + m) % 2 = 1 ∧ 0 ≤ K := by
    rcases hK1 with z | ⟨z, z2⟩
    · refine ⟨lnM_ge (e := m / 2) ⟨hm.1, by omega⟩ (by omega) fun p p1 p2 => ?_, by omega, by omega⟩
      have ep : m - p = p := by omega
      rw [ep]
      exact ⟨by omega, by omega, rfl⟩
    · obtain ⟨a, b⟩ := mir_known (K := K) hn hm ho hA (by omega) (by omega) (by omega) (by omega)
      exact ⟨a, b, by omega⟩
  obtain ⟨a, b, d⟩ := hl
  unfold lnM at a
  refine ⟨(K - m % 2 + 1) / 2, by omega, by omega, by omega⟩
/-- middle by middle -/
def mmK (g : Int → Int) (n : Int) : Nat → Int → Int × Int → Int × Int
  | 0, _, s => s
  | k + 1, m, s => if m ≤ 2 * (n - 1) then mmK g n k (m + 1) (mmS g n (m / 2) (m % 2) s) else s
theorem mmL_end (g : Int → Int) (n : Int) (k : Nat) (i : Int) (s : Int × Int) (h : n ≤ i) : mmL g n k i s = s := by
  cases k with
  | zero => rfl
  | succ k => rw [mmL, if_neg (by omega)]
theorem mmS_0 (g : Int → Int) (n m ev : Int) (s : Int × Int) (h : 0 ≤ s.1) : 0 ≤ (mmS g n m ev s).1 := by
  unfold mmS
  split
  · dsimp only
    omega
  · exact h
theorem mmK_L (g : Int → Int) (n : Int) : ∀ (k : Nat) (i : Int) (s : Int × Int), 1 ≤ i → 0 ≤ s.1 → mmK g n (2 * k) (2 * i) s = mmL g n k i s := by
  intro k
  induction k with
  | zero => intro i s _ _; rfl
  | succ k ih =>
    intro i s h1 h2
    have ek : 2 * (k + 1) = 2 * k + 1 + 1 := by omega
    rw [ek, mmK, mmL]
    by_cases q : i < n
    · have d1 : 2 * i / 2 = i := by omega
      have d2 : 2 * i % 2 = 0 := by omega
      have d3 : (2 * i + 1) / 2 = i := by omega
      have d4 : (2 * i + 1) % 2 = 1 := by omega
      rw [if_pos (by omega), if_pos q, d1, d2, mmK, d3, d4]
      have h3 := mmS_0 g n i 0 s h2
      by_cases q2 : 2 * i + 1 ≤ 2 * (n - 1)
      · have d5 : 2 * i + 1 + 1 = 2 * (i + 1) := by omega
        rw [if_pos q2, d5]
        exact ih (i + 1) _ (by omega) (mmS_0 g n i 1 _ h3)
      · rw [if_neg q2, mmL_end g n k (i + 1) _ (by omega)]
        have r0 : mrL g n i (i + 1) 600 0 = 0 := by
          rw [mrL, if_neg (by omega)]
        generalize mmS g n i 0 s = u at h3 ⊢
        unfold mmS
        rw [r0, if_neg (by omega)]
    · rw [if_neg (by omega), if_neg q]
/-- what a middle changes, told by its length -/
theorem mmS_ln (s : Int × Int) : mmS g n (m / 2) (m % 2) s = if lnM g n m ≤ s.1 then s else (lnM g n m, (m + lnM g n m - 1) / 2 - lnM g n m + 1) := by
  unfold mmS lnM
  generalize mrL g n (m / 2) (m / 2 + m % 2) 600 0 = R
  by_cases q : s.1 < 2 * R + m % 2 - 1
  · have e : m / 2 - R + 1 = (m + (2 * R + m % 2 - 1) - 1) / 2 - (2 * R + m % 2 - 1) + 1 := by omega
    rw [if_pos q, if_neg (by omega), e]
  · rw [if_neg q, if_pos (by omega)]
end LN
section BS
variable {E : AE} {G L : Nat → Nat → Int} {r : Nat → Nat → Option Nat} {h : AH} {Q : AH → Value → Prop} {S T : Nat} {i v p x kk d e f w m c o en K : Int}
theorem c8_mirrorLength_loop {w1 w2 : Value} {lo hi : Int} (hs : shS E r S) (hg : rgS G S) (k1 : c2 w1 = false) (k2 : c2 w2 = false) (hlo : 1 ≤ lo ∧ lo ≤ 600) (hhi : 1 ≤ hi ∧ hi ≤ 601) : ∀ (k : Nat) (c : Int), G S 13 - hi - c ≤ k → 0 ≤ c → c + k ≤ 10000 →
    RK MX8_mirrorLength 15 [.ref S, w1, w2, .int (zi (lo - c + 1)), .int (zi (hi + c - 1))] [] (0, 0) (E, zg G, zk L, r) Q = Q (E, zg G, zk L, r) (.int (zi (hi - lo + 2 * mrL (gA G S) (G S 13) lo hi k c - 1))) := by
  obtain ⟨s0, ⟨s1, s2, s3, s4, s5⟩, ⟨l1, l2, l3, l4, l5⟩, r1, r2, r3, r4, r5⟩ := id hs
  obtain ⟨g0, g1, g2, g3, g4, g6, g7, g8, g13, ga1, ga2, ga3, ga4, ga5⟩ := id hg
  have fin : ∀ c : Int, RK MX8_mirrorLength 58 [.ref S, w1, w2, .int (zi (lo - c + 1)), .int (zi (hi + c - 1))] [] (0, 0) (E, zg G, zk L, r) Q = Q (E, zg G, zk L, r) (.int (zi (hi - lo + 2 * c - 1))) := by
    intro c
    have e : hi + c - 1 - (lo - c + 1) + 1 = hi - lo + 2 * c - 1 := by omega
    simp (disch := first | assumption | exact c2_int _ | exact c2_ref _ | exact c2_jk | exact c2_null | omega | (apply rN1; assumption) | (apply rN2; assumption) | (apply rN3; assumption) | (apply rN4; assumption) | exact bI_r _ | exact bI_01 _) only [↓fX8_mirrorLength_0, ↓fX8_mirrorLength_1, ↓fX8_mirrorLength_2, ↓fX8_mirrorLength_3, ↓fX8_mirrorLength_4, ↓fX8_mirrorLength_5, ↓fX8_mirrorLength_6, ↓fX8_mirrorLength_7, ↓fX8_mirrorLength_8, ↓fX8_mirrorLength_9, ↓fX8_mirrorLength_10, ↓fX8_mirrorLength_11, ↓fX8_mirrorLength_12, ↓fX8_mirrorLength_13, ↓fX8_mirrorLength_15, ↓fX8_mirrorLength_16, ↓fX8_mirrorLength_17, ↓fX8_mirrorLength_20, ↓fX8_mirrorLength_22, ↓fX8_mirrorLength_23, ↓fX8_mirrorLength_24, ↓fX8_mirrorLength_24n, ↓fX8_mirrorLength_25, ↓fX8_mirrorLength_28, ↓fX8_mirrorLength_31, ↓fX8_mirrorLength_31n, ↓fX8_mirrorLength_32, ↓fX8_mirrorLength_33, ↓fX8_mirrorLength_34, ↓fX8_mirrorLength_35, ↓fX8_mirrorLength_38, ↓fX8_mirrorLength_38n, ↓fX8_mirrorLength_39, ↓fX8_mirrorLength_41, ↓fX8_mirrorLength_42, ↓fX8_mirrorLength_43, ↓fX8_mirrorLength_46, ↓fX8_mirrorLength_49, ↓fX8_mirrorLength_52, ↓fX8_mirrorLength_55, ↓fX8_mirrorLength_58, ↓fX8_mirrorLength_60, ↓fX8_mirrorLength_61, ↓fX8_mirrorLength_62, ↓fX8_mirrorLength_63, ↓fX8_mirrorLength_64, e, and_self, true_and, and_true, false_and, and_false, not_true_eq_false, not_false_eq_true, or_self, true_or, or_true, false_or, or_false, ite_not, Decidable.not_not, decide_eq_true_eq, Bool.not_true, Bool.not_false, Bool.false_eq_true, Bool.not_eq_true, n10, n20, n21, n30, n31, n32, n40, n41, n42, n43, ↓reduceIte]
  intro k
  induction k with
  | zero =>
    intro c h1 h2 h3
    have h6 : ¬ hi + c - 1 + 1 < G S 13 := by omega
    by_cases h7 : lo - c + 1 ≤ 1
    · simp (disch := first | assumption | exact c2_int _ | exact c2_ref _ | exact c2_jk | exact c2_null | omega | (apply rN1; assumption) | (apply rN2; assumption) | (apply rN3; assumption) | (apply rN4; assumption) | exact bI_r _ | exact bI_01 _) only [↓fX8_mirrorLength_0, ↓fX8_mirrorLength_1, ↓fX8_mirrorLength_2, ↓fX8_mirrorLength_3, ↓fX8_mirrorLength_4, ↓fX8_mirrorLength_5, ↓fX8_mirrorLength_6, ↓fX8_mirrorLength_7, ↓fX8_mirrorLength_8, ↓fX8_mirrorLength_9, ↓fX8_mirrorLength_10, ↓fX8_mirrorLength_11, ↓fX8_mirrorLength_12, ↓fX8_mirrorLength_13, ↓fX8_mirrorLength_15, ↓fX8_mirrorLength_16, ↓fX8_mirrorLength_17, ↓fX8_mirrorLength_20, ↓fX8_mirrorLength_22, ↓fX8_mirrorLength_23, ↓fX8_mirrorLength_24, ↓fX8_mirrorLength_24n, ↓fX8_mirrorLength_25, ↓fX8_mirrorLength_28, ↓fX8_mirrorLength_31, ↓fX8_mirrorLength_31n, ↓fX8_mirrorLength_32, ↓fX8_mirrorLength_33, ↓fX8_mirrorLength_34, ↓fX8_mirrorLength_35, ↓fX8_mirrorLength_38, ↓fX8_mirrorLength_38n, ↓fX8_mirrorLength_39, ↓fX8_mirrorLength_41, ↓fX8_mirrorLength_42, ↓fX8_mirrorLength_43, ↓fX8_mirrorLength_46, ↓fX8_mirrorLength_49, ↓fX8_mirrorLength_52, ↓fX8_mirrorLength_55, ↓fX8_mirrorLength_60, ↓fX8_mirrorLength_61, ↓fX8_mirrorLength_62, ↓fX8_mirrorLength_63, ↓fX8_mirrorLength_64, ↓fin, h7, mrL, and_self, true_and, and_true, false_and, and_false, not_true_eq_false, not_false_eq_true, or_self, true_or, or_true, false_or, or_false, ite_not, Decidable.not_not, decide_eq_true_eq, Bool.not_true, Bool.not_false, Bool.false_eq_true, Bool.not_eq_true, n10, n20, n21, n30, n31, n32, n40, n41, n42, n43, ↓reduceIte]
    · simp (disch := first | assumption | exact c2_int _ | exact c2_ref _ | exact c2_jk | exact c2_null | omega | (apply rN1; assumption) | (apply rN2; assumption) | (apply rN3; assumption) | (apply rN4; assumption) | exact bI_r _ | exact bI_01 _) only [↓fX8_mirrorLength_0, ↓fX8_mirrorLength_1, ↓fX8_mirrorLength_2, ↓fX8_mirrorLength_3, ↓fX8_mirrorLength_4, ↓fX8_mirrorLength_5, ↓fX8_mirrorLength_6, ↓fX8_mirrorLength_7, ↓fX8_mirrorLength_8, ↓fX8_mirrorLength_9, ↓fX8_mirrorLength_10, ↓fX8_mirrorLength_11, ↓fX8_mirrorLength_12, ↓fX8_mirrorLength_13, ↓fX8_mirrorLength_15, ↓fX8_mirrorLength_16, ↓fX8_mirrorLength_17, ↓fX8_mirrorLength_20, ↓fX8_mirrorLength_22, ↓fX8_mirrorLength_23, ↓fX8_mirrorLength_24, ↓fX8_mirrorLength_24n, ↓fX8_mirrorLength_25, ↓fX8_mirrorLength_28, ↓fX8_mirrorLength_31, ↓fX8_mirrorLength_31n, ↓fX8_mirrorLength_32, ↓fX8_mirrorLength_33, ↓fX8_mirrorLength_34, ↓fX8_mirrorLength_35, ↓fX8_mirrorLength_38, ↓fX8_mirrorLength_38n, ↓fX8_mirrorLength_39, ↓fX8_mirrorLength_41, ↓fX8_mirrorLength_42, ↓fX8_mirrorLength_43, ↓fX8_mirrorLength_46, ↓fX8_mirrorLength_49, ↓fX8_mirrorLength_52, ↓fX8_mirrorLength_55, ↓fX8_mirrorLength_60, ↓fX8_mirrorLength_61, ↓fX8_mirrorLength_62, ↓fX8_mirrorLength_63, ↓fX8_mirrorLength_64, ↓fin, h6, h7, mrL, and_self, true_and, and_true, false_and, and_false, not_true_eq_false, not_false_eq_true, or_self, true_or, or_true, false_or, or_false, ite_not, Decidable.not_not, decide_eq_true_eq, Bool.not_true, Bool.not_false, Bool.false_eq_true, Bool.not_eq_true, n10, n20, n21, n30, n31, n32, n40, n41, n42, n43, ↓reduceIte]
  | succ k ih =>
    intro c h1 h2 h3
    by_cases h7 : lo - c + 1 ≤ 1
    · have em : mrL (gA G S) (G S 13) lo hi (k + 1) c = c := by rw [mrL, if_neg (fun z => by omega)]
      rw [em]
      simp (disch := first | assumption | exact c2_int _ | exact c2_ref _ | exact c2_jk | exact c2_null | omega | (apply rN1; assumption) | (apply rN2; assumption) | (apply rN3; assumption) | (apply rN4; assumption) | exact bI_r _ | exact bI_01 _) only [↓fX8_mirrorLength_0, ↓fX8_mirrorLength_1, ↓fX8_mirrorLength_2, ↓fX8_mirrorLength_3, ↓fX8_mirrorLength_4, ↓fX8_mirrorLength_5, ↓fX8_mirrorLength_6, ↓fX8_mirrorLength_7, ↓fX8_mirrorLength_8, ↓fX8_mirrorLength_9, ↓fX8_mirrorLength_10, ↓fX8_mirrorLength_11, ↓fX8_mirrorLength_12, ↓fX8_mirrorLength_13, ↓fX8_mirrorLength_15, ↓fX8_mirrorLength_16, ↓fX8_mirrorLength_17, ↓fX8_mirrorLength_20, ↓fX8_mirrorLength_22, ↓fX8_mirrorLength_23, ↓fX8_mirrorLength_24, ↓fX8_mirrorLength_24n, ↓fX8_mirrorLength_25, ↓fX8_mirrorLength_28, ↓fX8_mirrorLength_31, ↓fX8_mirrorLength_31n, ↓fX8_mirrorLength_32, ↓fX8_mirrorLength_33, ↓fX8_mirrorLength_34, ↓fX8_mirrorLength_35, ↓fX8_mirrorLength_38, ↓fX8_mirrorLength_38n, ↓fX8_mirrorLength_39, ↓fX8_mirrorLength_41, ↓fX8_mirrorLength_42, ↓fX8_mirrorLength_43, ↓fX8_mirrorLength_46, ↓fX8_mirrorLength_49, ↓fX8_mirrorLength_52, ↓fX8_mirrorLength_55, ↓fX8_mirrorLength_60, ↓fX8_mirrorLength_61, ↓fX8_mirrorLength_62, ↓fX8_mirrorLength_63, ↓fX8_mirrorLength_64, ↓fin, h7, and_self, true_and, and_true, false_and, and_false, not_true_eq_false, not_false_eq_true, or_self, true_or, or_true, false_or, or_false, ite_not, Decidable.not_not, decide_eq_true_eq, Bool.not_true, Bool.not_false, Bool.false_eq_true, Bool.not_eq_true, n10, n20, n21, n30, n31, n32, n40, n41, n42, n43, ↓reduceIte]
    · by_cases h6 : hi + c - 1 + 1 < G S 13
      · have ea : lo - c + 1 - 1 = lo - c := by omega
        have eb : hi + c - 1 + 1 = hi + c := by omega
        by_cases h9 : gA G S (lo - c + 1 - 1) = gA G S (hi + c - 1 + 1)
        · have em : mrL (gA G S) (G S 13) lo hi (k + 1) c = mrL (gA G S) (G S 13) lo hi k (c + 1) := by
            rw [mrL, if_pos ⟨by omega, by omega, by rw [← ea, ← eb]; exact h9⟩]
          have e1 : lo - c + 1 + (-1) = lo - (c + 1) + 1 := by omega
          have e2 : hi + c - 1 + 1 = hi + (c + 1) - 1 := by omega
          rw [em, ← ih (c + 1) (by omega) (by omega) (by omega), fX8_mirrorLength_15]
          simp (disch := first | assumption | exact c2_int _ | exact c2_ref _ | exact c2_jk | exact c2_null | omega | (apply rN1; assumption) | (apply rN2; assumption) | (apply rN3; assumption) | (apply rN4; assumption) | exact bI_r _ | exact bI_01 _) only [↓fX8_mirrorLength_0, ↓fX8_mirrorLength_1, ↓fX8_mirrorLength_2, ↓fX8_mirrorLength_3, ↓fX8_mirrorLength_4, ↓fX8_mirrorLength_5, ↓fX8_mirrorLength_6, ↓fX8_mirrorLength_7, ↓fX8_mirrorLength_8, ↓fX8_mirrorLength_9, ↓fX8_mirrorLength_10, ↓fX8_mirrorLength_11, ↓fX8_mirrorLength_12, ↓fX8_mirrorLength_13, ↓fX8_mirrorLength_16, ↓fX8_mirrorLength_17, ↓fX8_mirrorLength_20, ↓fX8_mirrorLength_22, ↓fX8_mirrorLength_23, ↓fX8_mirrorLength_24, ↓fX8_mirrorLength_24n, ↓fX8_mirrorLength_25, ↓fX8_mirrorLength_28, ↓fX8_mirrorLength_31, ↓fX8_mirrorLength_31n, ↓fX8_mirrorLength_32, ↓fX8_mirrorLength_33, ↓fX8_mirrorLength_34, ↓fX8_mirrorLength_35, ↓fX8_mirrorLength_38, ↓fX8_mirrorLength_38n, ↓fX8_mirrorLength_39, ↓fX8_mirrorLength_41, ↓fX8_mirrorLength_42, ↓fX8_mirrorLength_43, ↓fX8_mirrorLength_46, ↓fX8_mirrorLength_49, ↓fX8_mirrorLength_52, ↓fX8_mirrorLength_55, ↓fX8_mirrorLength_60, ↓fX8_mirrorLength_61, ↓fX8_mirrorLength_62, ↓fX8_mirrorLength_63, ↓fX8_mirrorLength_64, ↓c7_gapAt, h6, h7, h9, and_self, true_and, and_true, false_and, and_false, not_true_eq_false, not_false_eq_true, or_self, true_or, or_true, false_or, or_false, ite_not, Decidable.not_not, decide_eq_true_eq, Bool.not_true, Bool.not_false, Bool.false_eq_true, Bool.not_eq_true, n10, n20, n21, n30, n31, n32, n40, n41, n42, n43, ↓reduceIte]
          rw [e1, e2]
        · have em : mrL (gA G S) (G S 13) lo hi (k + 1) c = c := by rw [mrL, if_neg (fun z => h9 (by rw [ea, eb]; exact z.2.2))]
          rw [em]
          simp (disch := first | assumption | exact c2_int _ | exact c2_ref _ | exact c2_jk | exact c2_null | omega | (apply rN1; assumption) | (apply rN2; assumption) | (apply rN3; assumption) | (apply rN4; assumption) | exact bI_r _ | exact bI_01 _) only [↓fX8_mirrorLength_0, ↓fX8_mirrorLength_1, ↓fX8_mirrorLength_2, ↓fX8_mirrorLength_3, ↓fX8_mirrorLength_4, ↓fX8_mirrorLength_5, ↓fX8_mirrorLength_6, ↓fX8_mirrorLength_7, ↓fX8_mirrorLength_8, ↓fX8_mirrorLength_9, ↓fX8_mirrorLength_10, ↓fX8_mirrorLength_11, ↓fX8_mirrorLength_12, ↓fX8_mirrorLength_13, ↓fX8_mirrorLength_15, ↓fX8_mirrorLength_16, ↓fX8_mirrorLength_17, ↓fX8_mirrorLength_20, ↓fX8_mirrorLength_22, ↓fX8_mirrorLength_23, ↓fX8_mirrorLength_24, ↓fX8_mirrorLength_24n, ↓fX8_mirrorLength_25, ↓fX8_mirrorLength_28, ↓fX8_mirrorLength_31, ↓fX8_mirrorLength_31n, ↓fX8_mirrorLength_32, ↓fX8_mirrorLength_33, ↓fX8_mirrorLength_34, ↓fX8_mirrorLength_35, ↓fX8_mirrorLength_38, ↓fX8_mirrorLength_38n, ↓fX8_mirrorLength_39, ↓fX8_mirrorLength_41, ↓fX8_mirrorLength_42, ↓fX8_mirrorLength_43, ↓fX8_mirrorLength_46, ↓fX8_mirrorLength_49, ↓fX8_mirrorLength_52, ↓fX8_mirrorLength_55, ↓fX8_mirrorLength_60, ↓fX8_mirrorLength_61, ↓fX8_mirrorLength_62, ↓fX8_mirrorLength_63, ↓fX8_mirrorLength_64, ↓c7_gapAt, ↓fin, h6, h7, h9, and_self, true_and, and_true, false_and, and_false, not_true_eq_false, not_false_eq_true, or_self, true_or, or_true, false_or, or_false, ite_not, Decidable.not_not, decide_eq_true_eq, Bool.not_true, Bool.not_false, Bool.false_eq_true, Bool.not_eq_true, n10, n20, n21, n30, n31, n32, n40, n41, n42, n43, ↓reduceIte]
      · have em : mrL (gA G S) (G S 13) lo hi (k + 1) c = c := by rw [mrL, if_neg (fun z => by omega)]
        rw [em]
        simp (disch := first | assumption | exact c2_int _ | exact c2_ref _ | exact c2_jk | exact c2_null | omega | (apply rN1; assumption) | (apply rN2; assumption) | (apply rN3; assumption) | (apply rN4; assumption) | exact bI_r _ | exact bI_01 _) only [↓fX8_mirrorLength_0, ↓fX8_mirrorLength_1, ↓fX8_mirrorLength_2, ↓fX8_mirrorLength_3, ↓fX8_mirrorLength_4, ↓fX8_mirrorLength_5, ↓fX8_mirrorLength_6, ↓fX8_mirrorLength_7, ↓fX8_mirrorLength_8, ↓fX8_mirrorLength_9, ↓fX8_mirrorLength_10, ↓fX8_mirrorLength_11, ↓fX8_mirrorLength_12, ↓fX8_mirrorLength_13, ↓fX8_mirrorLength_15, ↓fX8_mirrorLength_16, ↓fX8_mirrorLength_17, ↓fX8_mirrorLength_20, ↓fX8_mirrorLength_22, ↓fX8_mirrorLength_23, ↓fX8_mirrorLength_24, ↓fX8_mirrorLength_24n, ↓fX8_mirrorLength_25, ↓fX8_mirrorLength_28, ↓fX8_mirrorLength_31, ↓fX8_mirrorLength_31n, ↓fX8_mirrorLength_32, ↓fX8_mirrorLength_33, ↓fX8_mirrorLength_34, ↓fX8_mirrorLength_35, ↓fX8_mirrorLength_38, ↓fX8_mirrorLength_38n, ↓fX8_mirrorLength_39, ↓fX8_mirrorLength_41, ↓fX8_mirrorLength_42, ↓fX8_mirrorLength_43, ↓fX8_mirrorLength_46, ↓fX8_mirrorLength_49, ↓fX8_mirrorLength_52, ↓fX8_mirrorLength_55, ↓fX8_mirrorLength_60, ↓fX8_mirrorLength_61, ↓fX8_mirrorLength_62, ↓fX8_mirrorLength_63, ↓fX8_mirrorLength_64, ↓fin, h6, h7, and_self, true_and, and_true, false_and, and_false, not_true_eq_false, not_false_eq_true, or_self, true_or, or_true, false_or, or_false, ite_not, Decidable.not_not, decide_eq_true_eq, Bool.not_true, Bool.not_false, Bool.false_eq_true, Bool.not_eq_true, n10, n20, n21, n30, n31, n32, n40, n41, n42, n43, ↓reduceIte]
theorem c8_mirrorLength (hs : shS E r S) (hg : rgS G S) (hm : 2 ≤ m ∧ m ≤ 1200) (hK : K = 2 * c + m % 2 - 1) (h0 : 0 ≤ c) (hc : c ≤ mrL (gA G S) (G S 13) (m / 2) (m / 2 + m % 2) 600 0) : RK MX8_mirrorLength 0 [.ref S, .int (zi m), .int (zi K), jk, jk] [] (0, 0) (E, zg G, zk L, r) Q = Q (E, zg G, zk L, r) (.int (zi (lnM (gA G S) (G S 13) m))) := by
  have g13 := hg.2.2.2.2.2.2.2.2.1
  obtain ⟨a0, a1, a2⟩ := mrL_q (gA G S) (G S 13) (m / 2) (m / 2 + m % 2) 600 0 (by omega) (by omega) (fun t t1 t2 => by omega)
  have hb : c ≤ m / 2 := by
    rcases Int.lt_or_le 0 (mrL (gA G S) (G S 13) (m / 2) (m / 2 + m % 2) 600 0) with z | z
    · have := (a1 _ (show 0 ≤ mrL (gA G S) (G S 13) (m / 2) (m / 2 + m % 2) 600 0 - 1 by omega) (by omega)).1
      omega
    · omega
  have e1 : (m - K + 1) / 2 = m / 2 - c + 1 := by omega
  have e2 : (m - K + 1) / 2 + K - 1 = m / 2 + m % 2 + c - 1 := by omega
  have hl := c8_mirrorLength_loop (L := L) (Q := Q) (w1 := .int (zi m)) (w2 := .int (zi K)) hs hg rfl rfl (lo := m / 2) (hi := m / 2 + m % 2) (by omega) (by omega) 600 c (by omega) h0 (by omega)
  rw [mrL_fix _ _ _ _ (by omega) h0 hc] at hl
  have e3 : m / 2 + m % 2 - m / 2 + 2 * mrL (gA G S) (G S 13) (m / 2) (m / 2 + m % 2) 600 0 - 1 = lnM (gA G S) (G S 13) m := by
    unfold lnM
    omega
  rw [e3] at hl
  rw [← hl]
  simp (disch := first | assumption | exact c2_int _ | exact c2_ref _ | exact c2_jk | exact c2_null | omega | (apply rN1; assumption) | (apply rN2; assumption) | (apply rN3; assumption) | (apply rN4; assumption) | exact bI_r _ | exact bI_01 _) only [↓fX8_mirrorLength_0, ↓fX8_mirrorLength_1, ↓fX8_mirrorLength_2, ↓fX8_mirrorLength_3, ↓fX8_mirrorLength_4, ↓fX8_mirrorLength_5, ↓fX8_mirrorLength_6, ↓fX8_mirrorLength_7, ↓fX8_mirrorLength_8, ↓fX8_mirrorLength_9, ↓fX8_mirrorLength_10, ↓fX8_mirrorLength_11, ↓fX8_mirrorLength_12, ↓fX8_mirrorLength_13, ↓fX8_mirrorLength_16, ↓fX8_mirrorLength_17, ↓fX8_mirrorLength_20, ↓fX8_mirrorLength_22, ↓fX8_mirrorLength_23, ↓fX8_mirrorLength_24, ↓fX8_mirrorLength_24n, ↓fX8_mirrorLength_25, ↓fX8_mirrorLength_28, ↓fX8_mirrorLength_31, ↓fX8_mirrorLength_31n, ↓fX8_mirrorLength_32, ↓fX8_mirrorLength_33, ↓fX8_mirrorLength_34, ↓fX8_mirrorLength_35, ↓fX8_mirrorLength_38, ↓fX8_mirrorLength_38n, ↓fX8_mirrorLength_39, ↓fX8_mirrorLength_41, ↓fX8_mirrorLength_42, ↓fX8_mirrorLength_43, ↓fX8_mirrorLength_46, ↓fX8_mirrorLength_49, ↓fX8_mirrorLength_52, ↓fX8_mirrorLength_55, ↓fX8_mirrorLength_58, ↓fX8_mirrorLength_60, ↓fX8_mirrorLength_61, ↓fX8_mirrorLength_62, ↓fX8_mirrorLength_63, ↓fX8_mirrorLength_64, and_self, true_and, and_true, false_and, and_false, not_true_eq_false, not_false_eq_true, or_self, true_or, or_true, false_or, or_false, ite_not, Decidable.not_not, decide_eq_true_eq, Bool.not_true, Bool.not_false, Bool.false_eq_true, Bool.not_eq_true, n10, n20, n21, n30, n31, n32, n40, n41, n42, n43, ↓reduceIte]
  rw [e2, e1]
def mrI (g : Int → Int) (n m o en : Int) : Prop := (o = 0 ∧ en = 0) ∨ (2 ≤ o ∧ o < m ∧ 2 * en = o + lnM g n o - 1)
theorem c8_mir_head {a b : Int} {l8 l9 l10 : Value} {H : Nat → Nat → Int} (hs : shS E r S) (hG : rgS G S) (ht : shT E T) (ho : ofS T S) (hH : ∀ q, q ≠ T → H q = G q) (h6 : m ≤ 2 * (G S 13 - 1)) (h2 : 2 ≤ m) (hj : ∀ j, 2 ≤ j → j < m → H T j.toNat = lnM (gA G S) (G S 13) j) (hI : mrI (gA G S) (G S 13) m o en) : ∃ l8' : Value, c2 l8' = false ∧
    ∀ Q, RK MX8_longestMirror 14 [.ref S, .int (zi w), .ref T, .int (zi a), .int (zi b), .int (zi o), .int (zi en), .int (zi m), l8, l9, l10] [] (0, 0) (E, zg H, zk L, r) Q = RK MX8_longestMirror 79 [.ref S, .int (zi w), .ref T, .int (zi a), .int (zi b), .int (zi o), .int (zi en), .int (zi m), l8', .int (zi (lnM (gA G S) (G S 13) m)), l10] [] (0, 0) (E, zg (u2 H T m.toNat (lnM (gA G S) (G S 13) m)), zk L, r) Q := by
  obtain ⟨ht1, ht2⟩ := id ht
  have ho' := ho
  unfold ofS at ho'
  have g13 := hG.2.2.2.2.2.2.2.2.1
  have s0 := hs.1
  have hc : eqS G H S := fun q a b => hH q (by omega)
  have hS : H S = G S := hH S (by omega)
  have hg : rgS H S := rgS_c hc hG
  have hgA : gA H S = gA G S := gA_c hc
  have hob : 0 ≤ o ∧ o ≤ 1200 ∧ -1200 ≤ en ∧ en ≤ 1300 := by
    have := lnM_b (gA G S) (G S 13) o
    rcases hI with ⟨z1, z2⟩ | ⟨z1, z2, z3⟩ <;> omega
  obtain ⟨A, hA, eA⟩ := zi_ex (zi (cAt E H T (2 * o - m)))
  have hAl : 2 ≤ 2 * o - m → A = lnM (gA G S) (G S 13) (2 * o - m) := by
    intro z
    have hlt : 2 * o - m < m := by
      rcases hI with ⟨z1, z2⟩ | ⟨z1, z2, z3⟩ <;> omega
    have hb := lnM_b (gA G S) (G S 13) (2 * o - m)
    rw [cAt_T ht ⟨by omega, by omega⟩, hj _ z hlt] at eA
    exact ((zi_eq ⟨by omega, by omega⟩ hA).mp eA).symm
  obtain ⟨M, hM⟩ : ∃ M, M = if 2 * en - m + 1 < A then 2 * en - m + 1 else A := ⟨_, rfl⟩
  obtain ⟨K, hK⟩ : ∃ K, K = if M < (m + 1) % 2 then (m + 1) % 2 else M := ⟨_, rfl⟩
  obtain ⟨c, q1, q2, q3⟩ := mir_start (by omega) ⟨h2, h6⟩ hI hAl hM hK
  have hMb : I32 M := by
    rw [hM]
    split
    · exact ⟨by omega, by omega⟩
    · exact hA
  have e5 : ∀ Q, RK MX8_mirrorLength 0 [.ref S, .int (zi m), .int (zi K), jk, jk] [] (0, 0) (E, zg H, zk L, r) Q = Q (E, zg H, zk L, r) (.int (zi (lnM (gA G S) (G S 13) m))) := by
    intro Q
    have := c8_mirrorLength (L := L) (Q := Q) hs hg (m := m) (K := K) (c := c) ⟨h2, by omega⟩ q1 q2 (by rw [hgA, hS]; exact q3)
    rw [hgA, hS] at this
    exact this
  have e6 : (if 0 ≤ m ∧ m < (le E T : Int) then u2 H T m.toNat (lnM (gA G S) (G S 13) m) else H) = u2 H T m.toNat (lnM (gA G S) (G S 13) m) := if_pos (by omega)
  refine ⟨.int (zi M), c2_int _, fun Q => ?_⟩
  simp (disch := first | assumption | exact c2_int _ | exact c2_ref _ | exact c2_jk | exact c2_null | omega | (apply rN1; assumption) | (apply rN2; assumption) | (apply rN3; assumption) | (apply rN4; assumption) | exact bI_r _ | exact bI_01 _) only [↓fX8_longestMirror_0, ↓fX8_longestMirror_1, ↓fX8_longestMirror_2, ↓fX8_longestMirror_3, ↓fX8_longestMirror_5, ↓fX8_longestMirror_6, ↓fX8_longestMirror_8, ↓fX8_longestMirror_9, ↓fX8_longestMirror_11, ↓fX8_longestMirror_12, ↓fX8_longestMirror_14, ↓fX8_longestMirror_16, ↓fX8_longestMirror_17, ↓fX8_longestMirror_17n, ↓fX8_longestMirror_18, ↓fX8_longestMirror_21, ↓fX8_longestMirror_22, ↓fX8_longestMirror_23, ↓fX8_longestMirror_24, ↓fX8_longestMirror_27, ↓fX8_longestMirror_27n, ↓fX8_longestMirror_28, ↓fX8_longestMirror_29, ↓fX8_longestMirror_31, ↓fX8_longestMirror_32, ↓fX8_longestMirror_34, ↓fX8_longestMirror_35, ↓fX8_longestMirror_38, ↓fX8_longestMirror_39, ↓fX8_longestMirror_41, ↓fX8_longestMirror_42, ↓fX8_longestMirror_44, ↓fX8_longestMirror_45, ↓fX8_longestMirror_46, ↓fX8_longestMirror_50, ↓fX8_longestMirror_52, ↓fX8_longestMirror_52n, ↓fX8_longestMirror_53, ↓fX8_longestMirror_55, ↓fX8_longestMirror_57, ↓fX8_longestMirror_59, ↓fX8_longestMirror_60, ↓fX8_longestMirror_61, ↓fX8_longestMirror_62, ↓fX8_longestMirror_63, ↓fX8_longestMirror_66, ↓fX8_longestMirror_69, ↓fX8_longestMirror_71, ↓fX8_longestMirror_71n, ↓fX8_longestMirror_72, ↓fX8_longestMirror_74, ↓fX8_longestMirror_76, ↓fX8_longestMirror_81, ↓fX8_longestMirror_83, ↓fX8_longestMirror_84, ↓fX8_longestMirror_85, ↓fX8_longestMirror_86, ↓fX8_longestMirror_87, ↓fX8_longestMirror_88, ↓fX8_longestMirror_90, ↓fX8_longestMirror_92, ↓fX8_longestMirror_94, ↓fX8_longestMirror_97, ↓fX8_longestMirror_99, ↓fX8_longestMirror_101, ↓fX8_longestMirror_103, ↓fX8_longestMirror_105, ↓fX8_longestMirror_107, ↓fX8_longestMirror_108, ↓fX8_longestMirror_111, ↓fX8_longestMirror_113, ↓fX8_longestMirror_114, ↓fX8_longestMirror_116, ↓fX8_longestMirror_118, ↓fX8_longestMirror_119, ↓fX8_longestMirror_120, ↓fX8_longestMirror_121, ↓fX8_longestMirror_123, ↓fX8_longestMirror_126, ↓fX8_longestMirror_129, ↓fX8_longestMirror_130, ↓fX8_longestMirror_131, ↓fX8_longestMirror_134, ↓fX8_longestMirror_136, ↓fX8_longestMirror_137, ↓fX8_longestMirror_140, ↓fX8_longestMirror_142, ↓fX8_longestMirror_145, ↓fX8_longestMirror_146, ↓c9_at, hS, h6, eA, and_self, true_and, and_true, false_and, and_false, not_true_eq_false, not_false_eq_true, or_self, true_or, or_true, false_or, or_false, ite_not, Decidable.not_not, decide_eq_true_eq, Bool.not_true, Bool.not_false, Bool.false_eq_true, Bool.not_eq_true, n10, n20, n21, n30, n31, n32, n40, n41, n42, n43, ↓reduceIte]
  rw [fX8_longestMirror_47 hA ⟨by omega, by omega⟩, ← hM]
  simp (disch := first | assumption | exact c2_int _ | exact c2_ref _ | exact c2_jk | exact c2_null | omega | (apply rN1; assumption) | (apply rN2; assumption) | (apply rN3; assumption) | (apply rN4; assumption) | exact bI_r _ | exact bI_01 _) only [↓fX8_longestMirror_0, ↓fX8_longestMirror_1, ↓fX8_longestMirror_2, ↓fX8_longestMirror_3, ↓fX8_longestMirror_5, ↓fX8_longestMirror_6, ↓fX8_longestMirror_8, ↓fX8_longestMirror_9, ↓fX8_longestMirror_11, ↓fX8_longestMirror_12, ↓fX8_longestMirror_14, ↓fX8_longestMirror_16, ↓fX8_longestMirror_17, ↓fX8_longestMirror_17n, ↓fX8_longestMirror_18, ↓fX8_longestMirror_21, ↓fX8_longestMirror_22, ↓fX8_longestMirror_23, ↓fX8_longestMirror_24, ↓fX8_longestMirror_27, ↓fX8_longestMirror_27n, ↓fX8_longestMirror_28, ↓fX8_longestMirror_29, ↓fX8_longestMirror_31, ↓fX8_longestMirror_32, ↓fX8_longestMirror_34, ↓fX8_longestMirror_35, ↓fX8_longestMirror_38, ↓fX8_longestMirror_39, ↓fX8_longestMirror_41, ↓fX8_longestMirror_42, ↓fX8_longestMirror_44, ↓fX8_longestMirror_45, ↓fX8_longestMirror_46, ↓fX8_longestMirror_47, ↓fX8_longestMirror_50, ↓fX8_longestMirror_52, ↓fX8_longestMirror_52n, ↓fX8_longestMirror_53, ↓fX8_longestMirror_55, ↓fX8_longestMirror_57, ↓fX8_longestMirror_59, ↓fX8_longestMirror_60, ↓fX8_longestMirror_61, ↓fX8_longestMirror_62, ↓fX8_longestMirror_66, ↓fX8_longestMirror_69, ↓fX8_longestMirror_71, ↓fX8_longestMirror_71n, ↓fX8_longestMirror_72, ↓fX8_longestMirror_74, ↓fX8_longestMirror_76, ↓fX8_longestMirror_81, ↓fX8_longestMirror_83, ↓fX8_longestMirror_84, ↓fX8_longestMirror_85, ↓fX8_longestMirror_86, ↓fX8_longestMirror_87, ↓fX8_longestMirror_88, ↓fX8_longestMirror_90, ↓fX8_longestMirror_92, ↓fX8_longestMirror_94, ↓fX8_longestMirror_97, ↓fX8_longestMirror_99, ↓fX8_longestMirror_101, ↓fX8_longestMirror_103, ↓fX8_longestMirror_105, ↓fX8_longestMirror_107, ↓fX8_longestMirror_108, ↓fX8_longestMirror_111, ↓fX8_longestMirror_113, ↓fX8_longestMirror_114, ↓fX8_longestMirror_116, ↓fX8_longestMirror_118, ↓fX8_longestMirror_119, ↓fX8_longestMirror_120, ↓fX8_longestMirror_121, ↓fX8_longestMirror_123, ↓fX8_longestMirror_126, ↓fX8_longestMirror_129, ↓fX8_longestMirror_130, ↓fX8_longestMirror_131, ↓fX8_longestMirror_134, ↓fX8_longestMirror_136, ↓fX8_longestMirror_137, ↓fX8_longestMirror_140, ↓fX8_longestMirror_142, ↓fX8_longestMirror_145, ↓fX8_longestMirror_146, and_self, true_and, and_true, false_and, and_false, not_true_eq_false, not_false_eq_true, or_self, true_or, or_true, false_or, or_false, ite_not, Decidable.not_not, decide_eq_true_eq, Bool.not_true, Bool.not_false, Bool.false_eq_true, Bool.not_eq_true, n10, n20, n21, n30, n31, n32, n40, n41, n42, n43, ↓reduceIte]
  rw [fX8_longestMirror_63 hMb ⟨by omega, by omega⟩, ← hK]
  simp (disch := first | assumption | exact c2_int _ | exact c2_ref _ | exact c2_jk | exact c2_null | omega | (apply rN1; assumption) | (apply rN2; assumption) | (apply rN3; assumption) | (apply rN4; assumption) | exact bI_r _ | exact bI_01 _) only [↓fX8_longestMirror_0, ↓fX8_longestMirror_1, ↓fX8_longestMirror_2, ↓fX8_longestMirror_3, ↓fX8_longestMirror_5, ↓fX8_longestMirror_6, ↓fX8_longestMirror_8, ↓fX8_longestMirror_9, ↓fX8_longestMirror_11, ↓fX8_longestMirror_12, ↓fX8_longestMirror_14, ↓fX8_longestMirror_16, ↓fX8_longestMirror_17, ↓fX8_longestMirror_17n, ↓fX8_longestMirror_18, ↓fX8_longestMirror_21, ↓fX8_longestMirror_22, ↓fX8_longestMirror_23, ↓fX8_longestMirror_24, ↓fX8_longestMirror_27, ↓fX8_longestMirror_27n, ↓fX8_longestMirror_28, ↓fX8_longestMirror_29, ↓fX8_longestMirror_31, ↓fX8_longestMirror_32, ↓fX8_longestMirror_34, ↓fX8_longestMirror_35, ↓fX8_longestMirror_38, ↓fX8_longestMirror_39, ↓fX8_longestMirror_41, ↓fX8_longestMirror_42, ↓fX8_longestMirror_44, ↓fX8_longestMirror_45, ↓fX8_longestMirror_46, ↓fX8_longestMirror_47, ↓fX8_longestMirror_50, ↓fX8_longestMirror_52, ↓fX8_longestMirror_52n, ↓fX8_longestMirror_53, ↓fX8_longestMirror_55, ↓fX8_longestMirror_57, ↓fX8_longestMirror_59, ↓fX8_longestMirror_60, ↓fX8_longestMirror_61, ↓fX8_longestMirror_62, ↓fX8_longestMirror_63, ↓fX8_longestMirror_66, ↓fX8_longestMirror_69, ↓fX8_longestMirror_71, ↓fX8_longestMirror_71n, ↓fX8_longestMirror_72, ↓fX8_longestMirror_74, ↓fX8_longestMirror_76, ↓fX8_longestMirror_81, ↓fX8_longestMirror_83, ↓fX8_longestMirror_84, ↓fX8_longestMirror_85, ↓fX8_longestMirror_86, ↓fX8_longestMirror_87, ↓fX8_longestMirror_88, ↓fX8_longestMirror_90, ↓fX8_longestMirror_92, ↓fX8_longestMirror_94, ↓fX8_longestMirror_97, ↓fX8_longestMirror_99, ↓fX8_longestMirror_101, ↓fX8_longestMirror_103, ↓fX8_longestMirror_105, ↓fX8_longestMirror_107, ↓fX8_longestMirror_108, ↓fX8_longestMirror_111, ↓fX8_longestMirror_113, ↓fX8_longestMirror_114, ↓fX8_longestMirror_116, ↓fX8_longestMirror_118, ↓fX8_longestMirror_119, ↓fX8_longestMirror_120, ↓fX8_longestMirror_121, ↓fX8_longestMirror_123, ↓fX8_longestMirror_126, ↓fX8_longestMirror_129, ↓fX8_longestMirror_130, ↓fX8_longestMirror_131, ↓fX8_longestMirror_134, ↓fX8_longestMirror_136, ↓fX8_longestMirror_137, ↓fX8_longestMirror_140, ↓fX8_longestMirror_142, ↓fX8_longestMirror_145, ↓fX8_longestMirror_146, ↓e5, ↓c9_put, e6, and_self, true_and, and_true, false_and, and_false, not_true_eq_false, not_false_eq_true, or_self, true_or, or_true, false_or, or_false, ite_not, Decidable.not_not, decide_eq_true_eq, Bool.not_true, Bool.not_false, Bool.false_eq_true, Bool.not_eq_true, n10, n20, n21, n30, n31, n32, n40, n41, n42, n43, ↓reduceIte]
theorem c8_mir_loop (hs : shS E r S) (hG : rgS G S) (ht : shT E T) (ho : ofS T S) (hw : I32 w) : ∀ (k : Nat) (m o en : Int) (s : Int × Int) (l8 l9 l10 : Value) (H : Nat → Nat → Int), 2 * (G S 13) - 1 - m ≤ k → 2 ≤ m → m + k ≤ 10000 → (∀ q, q ≠ T → H q = G q) → (∀ j, 2 ≤ j → j < m → H T j.toNat = lnM (gA G S) (G S 13) j) → mrI (gA G S) (G S 13) m o en → (-10000 ≤ s.1 ∧ s.1 ≤ 10000) → (-10000 ≤ s.2 ∧ s.2 ≤ 10000) →
    ∃ H' : Nat → Nat → Int, (∀ q, q ≠ T → H' q = G q) ∧ ∀ Q, RK MX8_longestMirror 14 [.ref S, .int (zi w), .ref T, .int (zi s.1), .int (zi s.2), .int (zi o), .int (zi en), .int (zi m), l8, l9, l10] [] (0, 0) (E, zg H, zk L, r) Q = Q (E, zg H', zk L, r) (.int (zi (mrA w (mmK (gA G S) (G S 13) k m s)))) := by
  have ho' := ho
  unfold ofS at ho'
  have g13 := hG.2.2.2.2.2.2.2.2.1
  have s0 := hs.1
  have fin : ∀ (H : Nat → Nat → Int) (l2 l5 l6 l7 l8 l9 l10 : Value) (s : Int × Int), (-10000 ≤ s.2 ∧ s.2 ≤ 10000) → ∀ Q, RK MX8_longestMirror 129 [.ref S, .int (zi w), l2, .int (zi s.1), .int (zi s.2), l5, l6, l7, l8, l9, l10] [] (0, 0) (E, zg H, zk L, r) Q = Q (E, zg H, zk L, r) (.int (zi (mrA w s))) := by
    intro H l2 l5 l6 l7 l8 l9 l10 s h2 Q
    unfold mrA
    by_cases h3 : w = 1
    · simp (disch := first | assumption | exact c2_int _ | exact c2_ref _ | exact c2_jk | exact c2_null | omega | (apply rN1; assumption) | (apply rN2; assumption) | (apply rN3; assumption) | (apply rN4; assumption) | exact bI_r _ | exact bI_01 _) only [↓fX8_longestMirror_0, ↓fX8_longestMirror_1, ↓fX8_longestMirror_2, ↓fX8_longestMirror_3, ↓fX8_longestMirror_5, ↓fX8_longestMirror_6, ↓fX8_longestMirror_8, ↓fX8_longestMirror_9, ↓fX8_longestMirror_11, ↓fX8_longestMirror_12, ↓fX8_longestMirror_14, ↓fX8_longestMirror_16, ↓fX8_longestMirror_17, ↓fX8_longestMirror_17n, ↓fX8_longestMirror_18, ↓fX8_longestMirror_21, ↓fX8_longestMirror_22, ↓fX8_longestMirror_23, ↓fX8_longestMirror_24, ↓fX8_longestMirror_27, ↓fX8_longestMirror_27n, ↓fX8_longestMirror_28, ↓fX8_longestMirror_29, ↓fX8_longestMirror_31, ↓fX8_longestMirror_32, ↓fX8_longestMirror_34, ↓fX8_longestMirror_35, ↓fX8_longestMirror_38, ↓fX8_longestMirror_39, ↓fX8_longestMirror_41, ↓fX8_longestMirror_42, ↓fX8_longestMirror_44, ↓fX8_longestMirror_45, ↓fX8_longestMirror_46, ↓fX8_longestMirror_47, ↓fX8_longestMirror_50, ↓fX8_longestMirror_52, ↓fX8_longestMirror_52n, ↓fX8_longestMirror_53, ↓fX8_longestMirror_55, ↓fX8_longestMirror_57, ↓fX8_longestMirror_59, ↓fX8_longestMirror_60, ↓fX8_longestMirror_61, ↓fX8_longestMirror_62, ↓fX8_longestMirror_63, ↓fX8_longestMirror_66, ↓fX8_longestMirror_69, ↓fX8_longestMirror_71, ↓fX8_longestMirror_71n, ↓fX8_longestMirror_72, ↓fX8_longestMirror_74, ↓fX8_longestMirror_76, ↓fX8_longestMirror_79, ↓fX8_longestMirror_81, ↓fX8_longestMirror_83, ↓fX8_longestMirror_84, ↓fX8_longestMirror_85, ↓fX8_longestMirror_86, ↓fX8_longestMirror_87, ↓fX8_longestMirror_88, ↓fX8_longestMirror_90, ↓fX8_longestMirror_92, ↓fX8_longestMirror_94, ↓fX8_longestMirror_97, ↓fX8_longestMirror_99, ↓fX8_longestMirror_101, ↓fX8_longestMirror_103, ↓fX8_longestMirror_105, ↓fX8_longestMirror_107, ↓fX8_longestMirror_108, ↓fX8_longestMirror_111, ↓fX8_longestMirror_113, ↓fX8_longestMirror_114, ↓fX8_longestMirror_116, ↓fX8_longestMirror_118, ↓fX8_longestMirror_119, ↓fX8_longestMirror_120, ↓fX8_longestMirror_121, ↓fX8_longestMirror_123, ↓fX8_longestMirror_126, ↓fX8_longestMirror_129, ↓fX8_longestMirror_130, ↓fX8_longestMirror_131, ↓fX8_longestMirror_134, ↓fX8_longestMirror_136, ↓fX8_longestMirror_137, ↓fX8_longestMirror_140, ↓fX8_longestMirror_142, ↓fX8_longestMirror_145, ↓fX8_longestMirror_146, h3, and_self, true_and, and_true, false_and, and_false, not_true_eq_false, not_false_eq_true, or_self, true_or, or_true, false_or, or_false, ite_not, Decidable.not_not, decide_eq_true_eq, Bool.not_true, Bool.not_false, Bool.false_eq_true, Bool.not_eq_true, n10, n20, n21, n30, n31, n32, n40, n41, n42, n43, ↓reduceIte]
    · by_cases h4 : s.2 = -1
      · simp (disch := first | assumption | exact c2_int _ | exact c2_ref _ | exact c2_jk | exact c2_null | omega | (apply rN1; assumption) | (apply rN2; assumption) | (apply rN3; assumption) | (apply rN4; assumption) | exact bI_r _ | exact bI_01 _) only [↓fX8_longestMirror_0, ↓fX8_longestMirror_1, ↓fX8_longestMirror_2, ↓fX8_longestMirror_3, ↓fX8_longestMirror_5, ↓fX8_longestMirror_6, ↓fX8_longestMirror_8, ↓fX8_longestMirror_9, ↓fX8_longestMirror_11, ↓fX8_longestMirror_12, ↓fX8_longestMirror_14, ↓fX8_longestMirror_16, ↓fX8_longestMirror_17, ↓fX8_longestMirror_17n, ↓fX8_longestMirror_18, ↓fX8_longestMirror_21, ↓fX8_longestMirror_22, ↓fX8_longestMirror_23, ↓fX8_longestMirror_24, ↓fX8_longestMirror_27, ↓fX8_longestMirror_27n, ↓fX8_longestMirror_28, ↓fX8_longestMirror_29, ↓fX8_longestMirror_31, ↓fX8_longestMirror_32, ↓fX8_longestMirror_34, ↓fX8_longestMirror_35, ↓fX8_longestMirror_38, ↓fX8_longestMirror_39, ↓fX8_longestMirror_41, ↓fX8_longestMirror_42, ↓fX8_longestMirror_44, ↓fX8_longestMirror_45, ↓fX8_longestMirror_46, ↓fX8_longestMirror_47, ↓fX8_longestMirror_50, ↓fX8_longestMirror_52, ↓fX8_longestMirror_52n, ↓fX8_longestMirror_53, ↓fX8_longestMirror_55, ↓fX8_longestMirror_57, ↓fX8_longestMirror_59, ↓fX8_longestMirror_60, ↓fX8_longestMirror_61, ↓fX8_longestMirror_62, ↓fX8_longestMirror_63, ↓fX8_longestMirror_66, ↓fX8_longestMirror_69, ↓fX8_longestMirror_71, ↓fX8_longestMirror_71n, ↓fX8_longestMirror_72, ↓fX8_longestMirror_74, ↓fX8_longestMirror_76, ↓fX8_longestMirror_79, ↓fX8_longestMirror_81, ↓fX8_longestMirror_83, ↓fX8_longestMirror_84, ↓fX8_longestMirror_85, ↓fX8_longestMirror_86, ↓fX8_longestMirror_87, ↓fX8_longestMirror_88, ↓fX8_longestMirror_90, ↓fX8_longestMirror_92, ↓fX8_longestMirror_94, ↓fX8_longestMirror_97, ↓fX8_longestMirror_99, ↓fX8_longestMirror_101, ↓fX8_longestMirror_103, ↓fX8_longestMirror_105, ↓fX8_longestMirror_107, ↓fX8_longestMirror_108, ↓fX8_longestMirror_111, ↓fX8_longestMirror_113, ↓fX8_longestMirror_114, ↓fX8_longestMirror_116, ↓fX8_longestMirror_118, ↓fX8_longestMirror_119, ↓fX8_longestMirror_120, ↓fX8_longestMirror_121, ↓fX8_longestMirror_123, ↓fX8_longestMirror_126, ↓fX8_longestMirror_129, ↓fX8_longestMirror_130, ↓fX8_longestMirror_131, ↓fX8_longestMirror_134, ↓fX8_longestMirror_136, ↓fX8_longestMirror_137, ↓fX8_longestMirror_140, ↓fX8_longestMirror_142, ↓fX8_longestMirror_145, ↓fX8_longestMirror_146, h3, h4, and_self, true_and, and_true, false_and, and_false, not_true_eq_false, not_false_eq_true, or_self, true_or, or_true, false_or, or_false, ite_not, Decidable.not_not, decide_eq_true_eq, Bool.not_true, Bool.not_false, Bool.false_eq_true, Bool.not_eq_true, n10, n20, n21, n30, n31, n32, n40, n41, n42, n43, ↓reduceIte]
      · simp (disch := first | assumption | exact c2_int _ | exact c2_ref _ | exact c2_jk | exact c2_null | omega | (apply rN1; assumption) | (apply rN2; assumption) | (apply rN3; assumption) | (apply rN4; assumption) | exact bI_r _ | exact bI_01 _) only [↓fX8_longestMirror_0, ↓fX8_longestMirror_1, ↓fX8_longestMirror_2, ↓fX8_longestMirror_3, ↓fX8_longestMirror_5, ↓fX8_longestMirror_6, ↓fX8_longestMirror_8, ↓fX8_longestMirror_9, ↓fX8_longestMirror_11, ↓fX8_longestMirror_12, ↓fX8_longestMirror_14, ↓fX8_longestMirror_16, ↓fX8_longestMirror_17, ↓fX8_longestMirror_17n, ↓fX8_longestMirror_18, ↓fX8_longestMirror_21, ↓fX8_longestMirror_22, ↓fX8_longestMirror_23, ↓fX8_longestMirror_24, ↓fX8_longestMirror_27, ↓fX8_longestMirror_27n, ↓fX8_longestMirror_28, ↓fX8_longestMirror_29, ↓fX8_longestMirror_31, ↓fX8_longestMirror_32, ↓fX8_longestMirror_34, ↓fX8_longestMirror_35, ↓fX8_longestMirror_38, ↓fX8_longestMirror_39, ↓fX8_longestMirror_41, ↓fX8_longestMirror_42, ↓fX8_longestMirror_44, ↓fX8_longestMirror_45, ↓fX8_longestMirror_46, ↓fX8_longestMirror_47, ↓fX8_longestMirror_50, ↓fX8_longestMirror_52, ↓fX8_longestMirror_52n, ↓fX8_longestMirror_53, ↓fX8_longestMirror_55, ↓fX8_longestMirror_57, ↓fX8_longestMirror_59, ↓fX8_longestMirror_60, ↓fX8_longestMirror_61, ↓fX8_longestMirror_62, ↓fX8_longestMirror_63, ↓fX8_longestMirror_66, ↓fX8_longestMirror_69, ↓fX8_longestMirror_71, ↓fX8_longestMirror_71n, ↓fX8_longestMirror_72, ↓fX8_longestMirror_74, ↓fX8_longestMirror_76, ↓fX8_longestMirror_79, ↓fX8_longestMirror_81, ↓fX8_longestMirror_83, ↓fX8_longestMirror_84, ↓fX8_longestMirror_85, ↓fX8_longestMirror_86, ↓fX8_longestMirror_87, ↓fX8_longestMirror_88, ↓fX8_longestMirror_90, ↓fX8_longestMirror_92, ↓fX8_longestMirror_94, ↓fX8_longestMirror_97, ↓fX8_longestMirror_99, ↓fX8_longestMirror_101, ↓fX8_longestMirror_103, ↓fX8_longestMirror_105, ↓fX8_longestMirror_107, ↓fX8_longestMirror_108, ↓fX8_longestMirror_111, ↓fX8_longestMirror_113, ↓fX8_longestMirror_114, ↓fX8_longestMirror_116, ↓fX8_longestMirror_118, ↓fX8_longestMirror_119, ↓fX8_longestMirror_120, ↓fX8_longestMirror_121, ↓fX8_longestMirror_123, ↓fX8_longestMirror_126, ↓fX8_longestMirror_129, ↓fX8_longestMirror_130, ↓fX8_longestMirror_131, ↓fX8_longestMirror_134, ↓fX8_longestMirror_136, ↓fX8_longestMirror_137, ↓fX8_longestMirror_140, ↓fX8_longestMirror_142, ↓fX8_longestMirror_145, ↓fX8_longestMirror_146, h3, h4, and_self, true_and, and_true, false_and, and_false, not_true_eq_false, not_false_eq_true, or_self, true_or, or_true, false_or, or_false, ite_not, Decidable.not_not, decide_eq_true_eq, Bool.not_true, Bool.not_false, Bool.false_eq_true, Bool.not_eq_true, n10, n20, n21, n30, n31, n32, n40, n41, n42, n43, ↓reduceIte]
  intro k
  induction k with
  | zero =>
    intro m o en s l8 l9 l10 H h1 h2 h3 hH hj hI b1 b2
    have h6 : ¬ m ≤ 2 * (G S 13 - 1) := by omega
    have hS : H S = G S := hH S (by omega)
    refine ⟨H, hH, fun Q => ?_⟩
    simp (disch := first | assumption | exact c2_int _ | exact c2_ref _ | exact c2_jk | exact c2_null | omega | (apply rN1; assumption) | (apply rN2; assumption) | (apply rN3; assumption) | (apply rN4; assumption) | exact bI_r _ | exact bI_01 _) only [↓fX8_longestMirror_0, ↓fX8_longestMirror_1, ↓fX8_longestMirror_2, ↓fX8_longestMirror_3, ↓fX8_longestMirror_5, ↓fX8_longestMirror_6, ↓fX8_longestMirror_8, ↓fX8_longestMirror_9, ↓fX8_longestMirror_11, ↓fX8_longestMirror_12, ↓fX8_longestMirror_14, ↓fX8_longestMirror_16, ↓fX8_longestMirror_17, ↓fX8_longestMirror_17n, ↓fX8_longestMirror_18, ↓fX8_longestMirror_21, ↓fX8_longestMirror_22, ↓fX8_longestMirror_23, ↓fX8_longestMirror_24, ↓fX8_longestMirror_27, ↓fX8_longestMirror_27n, ↓fX8_longestMirror_28, ↓fX8_longestMirror_29, ↓fX8_longestMirror_31, ↓fX8_longestMirror_32, ↓fX8_longestMirror_34, ↓fX8_longestMirror_35, ↓fX8_longestMirror_38, ↓fX8_longestMirror_39, ↓fX8_longestMirror_41, ↓fX8_longestMirror_42, ↓fX8_longestMirror_44, ↓fX8_longestMirror_45, ↓fX8_longestMirror_46, ↓fX8_longestMirror_47, ↓fX8_longestMirror_50, ↓fX8_longestMirror_52, ↓fX8_longestMirror_52n, ↓fX8_longestMirror_53, ↓fX8_longestMirror_55, ↓fX8_longestMirror_57, ↓fX8_longestMirror_59, ↓fX8_longestMirror_60, ↓fX8_longestMirror_61, ↓fX8_longestMirror_62, ↓fX8_longestMirror_63, ↓fX8_longestMirror_66, ↓fX8_longestMirror_69, ↓fX8_longestMirror_71, ↓fX8_longestMirror_71n, ↓fX8_longestMirror_72, ↓fX8_longestMirror_74, ↓fX8_longestMirror_76, ↓fX8_longestMirror_79, ↓fX8_longestMirror_81, ↓fX8_longestMirror_83, ↓fX8_longestMirror_84, ↓fX8_longestMirror_85, ↓fX8_longestMirror_86, ↓fX8_longestMirror_87, ↓fX8_longestMirror_88, ↓fX8_longestMirror_90, ↓fX8_longestMirror_92, ↓fX8_longestMirror_94, ↓fX8_longestMirror_97, ↓fX8_longestMirror_99, ↓fX8_longestMirror_101, ↓fX8_longestMirror_103, ↓fX8_longestMirror_105, ↓fX8_longestMirror_107, ↓fX8_longestMirror_108, ↓fX8_longestMirror_111, ↓fX8_longestMirror_113, ↓fX8_longestMirror_114, ↓fX8_longestMirror_116, ↓fX8_longestMirror_118, ↓fX8_longestMirror_119, ↓fX8_longestMirror_120, ↓fX8_longestMirror_121, ↓fX8_longestMirror_123, ↓fX8_longestMirror_126, ↓fX8_longestMirror_130, ↓fX8_longestMirror_131, ↓fX8_longestMirror_134, ↓fX8_longestMirror_136, ↓fX8_longestMirror_137, ↓fX8_longestMirror_140, ↓fX8_longestMirror_142, ↓fX8_longestMirror_145, ↓fX8_longestMirror_146, ↓fin, hS, h6, mmK, and_self, true_and, and_true, false_and, and_false, not_true_eq_false, not_false_eq_true, or_self, true_or, or_true, false_or, or_false, ite_not, Decidable.not_not, decide_eq_true_eq, Bool.not_true, Bool.not_false, Bool.false_eq_true, Bool.not_eq_true, n10, n20, n21, n30, n31, n32, n40, n41, n42, n43, ↓reduceIte]
  | succ k ih =>
    intro m o en s l8 l9 l10 H h1 h2 h3 hH hj hI b1 b2
    have hS : H S = G S := hH S (by omega)
    by_cases h6 : m ≤ 2 * (G S 13 - 1)
    · obtain ⟨l8', k8, e1⟩ := c8_mir_head (L := L) (r := r) (w := w) (a := s.1) (b := s.2) (l8 := l8) (l9 := l9) (l10 := l10) hs hG ht ho hH h6 h2 hj hI
      have lb := lnM_b (gA G S) (G S 13) m
      have hl0 : 0 ≤ m + lnM (gA G S) (G S 13) m - 1 := by omega
      have epar : 2 * ((m + lnM (gA G S) (G S 13) m - 1) / 2) = m + lnM (gA G S) (G S 13) m - 1 := by
        unfold lnM
        omega
      have eK : mmK (gA G S) (G S 13) (k + 1) m s = mmK (gA G S) (G S 13) k (m + 1) (if lnM (gA G S) (G S 13) m ≤ s.1 then s else (lnM (gA G S) (G S 13) m, (m + lnM (gA G S) (G S 13) m - 1) / 2 - lnM (gA G S) (G S 13) m + 1)) := by
        rw [mmK, if_pos h6, mmS_ln]
      have hH1 : ∀ q, q ≠ T → u2 H T m.toNat (lnM (gA G S) (G S 13) m) q = G q := fun q hq => (u2_a _ _ _ _ hq).trans (hH q hq)
      have hj1 : ∀ j, 2 ≤ j → j < m + 1 → u2 H T m.toNat (lnM (gA G S) (G S 13) m) T j.toNat = lnM (gA G S) (G S 13) j := by
        intro j j1 j2
        show (if T = T ∧ j.toNat = m.toNat then _ else H T j.toNat) = _
        by_cases z : j = m
        · rw [z, if_pos ⟨rfl, rfl⟩]
        · rw [if_neg (fun z2 => z (by omega)), hj j j1 (by omega)]
      have hI1 : mrI (gA G S) (G S 13) (m + 1) o en := by
        rcases hI with z | ⟨z1, z2, z3⟩
        · exact Or.inl z
        · exact Or.inr ⟨z1, by omega, z3⟩
      have hI2 : mrI (gA G S) (G S 13) (m + 1) m ((m + lnM (gA G S) (G S 13) m - 1) / 2) := Or.inr ⟨h2, by omega, epar⟩
      have hob : -1200 ≤ en ∧ en ≤ 1300 := by
        have := lnM_b (gA G S) (G S 13) o
        rcases hI with ⟨z1, z2⟩ | ⟨z1, z2, z3⟩ <;> omega
      rw [eK]
      generalize hln : lnM (gA G S) (G S 13) m = ln at e1 lb hl0 epar hH1 hj1 hI2 ⊢
      have k2 : -10000 ≤ (m + ln - 1) / 2 - ln + 1 ∧ (m + ln - 1) / 2 - ln + 1 ≤ 10000 := by omega
      by_cases h9 : (m + ln - 1) / 2 ≤ en
      · by_cases h10 : ln ≤ s.1
        · rw [if_pos h10]
          obtain ⟨H', f1, f2⟩ := ih (m + 1) o en s l8' (.int (zi ln)) (.int (zi ((m + ln - 1) / 2))) _ (by omega) (by omega) (by omega) hH1 hj1 hI1 b1 b2
          refine ⟨H', f1, fun Q => ?_⟩
          rw [e1 Q, ← f2 Q]
          simp (disch := first | assumption | exact c2_int _ | exact c2_ref _ | exact c2_jk | exact c2_null | omega | (apply rN1; assumption) | (apply rN2; assumption) | (apply rN3; assumption) | (apply rN4; assumption) | exact bI_r _ | exact bI_01 _) only [↓fX8_longestMirror_0, ↓fX8_longestMirror_1, ↓fX8_longestMirror_2, ↓fX8_longestMirror_3, ↓fX8_longestMirror_5, ↓fX8_longestMirror_6, ↓fX8_longestMirror_8, ↓fX8_longestMirror_9, ↓fX8_longestMirror_11, ↓fX8_longestMirror_12, ↓fX8_longestMirror_16, ↓fX8_longestMirror_17, ↓fX8_longestMirror_17n, ↓fX8_longestMirror_18, ↓fX8_longestMirror_21, ↓fX8_longestMirror_22, ↓fX8_longestMirror_23, ↓fX8_longestMirror_24, ↓fX8_longestMirror_27, ↓fX8_longestMirror_27n, ↓fX8_longestMirror_28, ↓fX8_longestMirror_29, ↓fX8_longestMirror_31, ↓fX8_longestMirror_32, ↓fX8_longestMirror_34, ↓fX8_longestMirror_35, ↓fX8_longestMirror_38, ↓fX8_longestMirror_39, ↓fX8_longestMirror_41, ↓fX8_longestMirror_42, ↓fX8_longestMirror_44, ↓fX8_longestMirror_45, ↓fX8_longestMirror_46, ↓fX8_longestMirror_47, ↓fX8_longestMirror_50, ↓fX8_longestMirror_52, ↓fX8_longestMirror_52n, ↓fX8_longestMirror_53, ↓fX8_longestMirror_55, ↓fX8_longestMirror_57, ↓fX8_longestMirror_59, ↓fX8_longestMirror_60, ↓fX8_longestMirror_61, ↓fX8_longestMirror_62, ↓fX8_longestMirror_63, ↓fX8_longestMirror_66, ↓fX8_longestMirror_69, ↓fX8_longestMirror_71, ↓fX8_longestMirror_71n, ↓fX8_longestMirror_72, ↓fX8_longestMirror_74, ↓fX8_longestMirror_76, ↓fX8_longestMirror_79, ↓fX8_longestMirror_81, ↓fX8_longestMirror_83, ↓fX8_longestMirror_84, ↓fX8_longestMirror_85, ↓fX8_longestMirror_86, ↓fX8_longestMirror_87, ↓fX8_longestMirror_88, ↓fX8_longestMirror_90, ↓fX8_longestMirror_92, ↓fX8_longestMirror_94, ↓fX8_longestMirror_97, ↓fX8_longestMirror_99, ↓fX8_longestMirror_101, ↓fX8_longestMirror_103, ↓fX8_longestMirror_105, ↓fX8_longestMirror_107, ↓fX8_longestMirror_108, ↓fX8_longestMirror_111, ↓fX8_longestMirror_113, ↓fX8_longestMirror_114, ↓fX8_longestMirror_116, ↓fX8_longestMirror_118, ↓fX8_longestMirror_119, ↓fX8_longestMirror_120, ↓fX8_longestMirror_121, ↓fX8_longestMirror_123, ↓fX8_longestMirror_126, ↓fX8_longestMirror_129, ↓fX8_longestMirror_130, ↓fX8_longestMirror_131, ↓fX8_longestMirror_134, ↓fX8_longestMirror_136, ↓fX8_longestMirror_137, ↓fX8_longestMirror_140, ↓fX8_longestMirror_142, ↓fX8_longestMirror_145, ↓fX8_longestMirror_146, h9, h10, and_self, true_and, and_true, false_and, and_false, not_true_eq_false, not_false_eq_true, or_self, true_or, or_true, false_or, or_false, ite_not, Decidable.not_not, decide_eq_true_eq, Bool.not_true, Bool.not_false, Bool.false_eq_true, Bool.not_eq_true, n10, n20, n21, n30, n31, n32, n40, n41, n42, n43, ↓reduceIte]
        · rw [if_neg h10]
          obtain ⟨H', f1, f2⟩ := ih (m + 1) o en (ln, (m + ln - 1) / 2 - ln + 1) l8' (.int (zi ln)) (.int (zi ((m + ln - 1) / 2))) _ (by omega) (by omega) (by omega) hH1 hj1 hI1 (by show -10000 ≤ ln ∧ ln ≤ 10000; omega) k2
          refine ⟨H', f1, fun Q => ?_⟩
          rw [e1 Q, ← f2 Q]
          simp (disch := first | assumption | exact c2_int _ | exact c2_ref _ | exact c2_jk | exact c2_null | omega | (apply rN1; assumption) | (apply rN2; assumption) | (apply rN3; assumption) | (apply rN4; assumption) | exact bI_r _ | exact bI_01 _) only [↓fX8_longestMirror_0, ↓fX8_longestMirror_1, ↓fX8_longestMirror_2, ↓fX8_longestMirror_3, ↓fX8_longestMirror_5, ↓fX8_longestMirror_6, ↓fX8_longestMirror_8, ↓fX8_longestMirror_9, ↓fX8_longestMirror_11, ↓fX8_longestMirror_12, ↓fX8_longestMirror_16, ↓fX8_longestMirror_17, ↓fX8_longestMirror_17n, ↓fX8_longestMirror_18, ↓fX8_longestMirror_21, ↓fX8_longestMirror_22, ↓fX8_longestMirror_23, ↓fX8_longestMirror_24, ↓fX8_longestMirror_27, ↓fX8_longestMirror_27n, ↓fX8_longestMirror_28, ↓fX8_longestMirror_29, ↓fX8_longestMirror_31, ↓fX8_longestMirror_32, ↓fX8_longestMirror_34, ↓fX8_longestMirror_35, ↓fX8_longestMirror_38, ↓fX8_longestMirror_39, ↓fX8_longestMirror_41, ↓fX8_longestMirror_42, ↓fX8_longestMirror_44, ↓fX8_longestMirror_45, ↓fX8_longestMirror_46, ↓fX8_longestMirror_47, ↓fX8_longestMirror_50, ↓fX8_longestMirror_52, ↓fX8_longestMirror_52n, ↓fX8_longestMirror_53, ↓fX8_longestMirror_55, ↓fX8_longestMirror_57, ↓fX8_longestMirror_59, ↓fX8_longestMirror_60, ↓fX8_longestMirror_61, ↓fX8_longestMirror_62, ↓fX8_longestMirror_63, ↓fX8_longestMirror_66, ↓fX8_longestMirror_69, ↓fX8_longestMirror_71, ↓fX8_longestMirror_71n, ↓fX8_longestMirror_72, ↓fX8_longestMirror_74, ↓fX8_longestMirror_76, ↓fX8_longestMirror_79, ↓fX8_longestMirror_81, ↓fX8_longestMirror_83, ↓fX8_longestMirror_84, ↓fX8_longestMirror_85, ↓fX8_longestMirror_86, ↓fX8_longestMirror_87, ↓fX8_longestMirror_88, ↓fX8_longestMirror_90, ↓fX8_longestMirror_92, ↓fX8_longestMirror_94, ↓fX8_longestMirror_97, ↓fX8_longestMirror_99, ↓fX8_longestMirror_101, ↓fX8_longestMirror_103, ↓fX8_longestMirror_105, ↓fX8_longestMirror_107, ↓fX8_longestMirror_108, ↓fX8_longestMirror_111, ↓fX8_longestMirror_113, ↓fX8_longestMirror_114, ↓fX8_longestMirror_116, ↓fX8_longestMirror_118, ↓fX8_longestMirror_119, ↓fX8_longestMirror_120, ↓fX8_longestMirror_121, ↓fX8_longestMirror_123, ↓fX8_longestMirror_126, ↓fX8_longestMirror_129, ↓fX8_longestMirror_130, ↓fX8_longestMirror_131, ↓fX8_longestMirror_134, ↓fX8_longestMirror_136, ↓fX8_longestMirror_137, ↓fX8_longestMirror_140, ↓fX8_longestMirror_142, ↓fX8_longestMirror_145, ↓fX8_longestMirror_146, h9, h10, and_self, true_and, and_true, false_and, and_false, not_true_eq_false, not_false_eq_true, or_self, true_or, or_true, false_or, or_false, ite_not, Decidable.not_not, decide_eq_true_eq, Bool.not_true, Bool.not_false, Bool.false_eq_true, Bool.not_eq_true, n10, n20, n21, n30, n31, n32, n40, n41, n42, n43, ↓reduceIte]
      · by_cases h10 : ln ≤ s.1
        · rw [if_pos h10]
          obtain ⟨H', f1, f2⟩ := ih (m + 1) m ((m + ln - 1) / 2) s l8' (.int (zi ln)) (.int (zi ((m + ln - 1) / 2))) _ (by omega) (by omega) (by omega) hH1 hj1 hI2 b1 b2
          refine ⟨H', f1, fun Q => ?_⟩
          rw [e1 Q, ← f2 Q]
          simp (disch := first | assumption | exact c2_int _ | exact c2_ref _ | exact c2_jk | exact c2_null | omega | (apply rN1; assumption) | (apply rN2; assumption) | (apply rN3; assumption) | (apply rN4; assumption) | exact bI_r _ | exact bI_01 _) only [↓fX8_longestMirror_0, ↓fX8_longestMirror_1, ↓fX8_longestMirror_2, ↓fX8_longestMirror_3, ↓fX8_longestMirror_5, ↓fX8_longestMirror_6, ↓fX8_longestMirror_8, ↓fX8_longestMirror_9, ↓fX8_longestMirror_11, ↓fX8_longestMirror_12, ↓fX8_longestMirror_16, ↓fX8_longestMirror_17, ↓fX8_longestMirror_17n, ↓fX8_longestMirror_18, ↓fX8_longestMirror_21, ↓fX8_longestMirror_22, ↓fX8_longestMirror_23, ↓fX8_longestMirror_24, ↓fX8_longestMirror_27, ↓fX8_longestMirror_27n, ↓fX8_longestMirror_28, ↓fX8_longestMirror_29, ↓fX8_longestMirror_31, ↓fX8_longestMirror_32, ↓fX8_longestMirror_34, ↓fX8_longestMirror_35, ↓fX8_longestMirror_38, ↓fX8_longestMirror_39, ↓fX8_longestMirror_41, ↓fX8_longestMirror_42, ↓fX8_longestMirror_44, ↓fX8_longestMirror_45, ↓fX8_longestMirror_46, ↓fX8_longestMirror_47, ↓fX8_longestMirror_50, ↓fX8_longestMirror_52, ↓fX8_longestMirror_52n, ↓fX8_longestMirror_53, ↓fX8_longestMirror_55, ↓fX8_longestMirror_57, ↓fX8_longestMirror_59, ↓fX8_longestMirror_60, ↓fX8_longestMirror_61, ↓fX8_longestMirror_62, ↓fX8_longestMirror_63, ↓fX8_longestMirror_66, ↓fX8_longestMirror_69, ↓fX8_longestMirror_71, ↓fX8_longestMirror_71n, ↓fX8_longestMirror_72, ↓fX8_longestMirror_74, ↓fX8_longestMirror_76, ↓fX8_longestMirror_79, ↓fX8_longestMirror_81, ↓fX8_longestMirror_83, ↓fX8_longestMirror_84, ↓fX8_longestMirror_85, ↓fX8_longestMirror_86, ↓fX8_longestMirror_87, ↓fX8_longestMirror_88, ↓fX8_longestMirror_90, ↓fX8_longestMirror_92, ↓fX8_longestMirror_94, ↓fX8_longestMirror_97, ↓fX8_longestMirror_99, ↓fX8_longestMirror_101, ↓fX8_longestMirror_103, ↓fX8_longestMirror_105, ↓fX8_longestMirror_107, ↓fX8_longestMirror_108, ↓fX8_longestMirror_111, ↓fX8_longestMirror_113, ↓fX8_longestMirror_114, ↓fX8_longestMirror_116, ↓fX8_longestMirror_118, ↓fX8_longestMirror_119, ↓fX8_longestMirror_120, ↓fX8_longestMirror_121, ↓fX8_longestMirror_123, ↓fX8_longestMirror_126, ↓fX8_longestMirror_129, ↓fX8_longestMirror_130, ↓fX8_longestMirror_131, ↓fX8_longestMirror_134, ↓fX8_longestMirror_136, ↓fX8_longestMirror_137, ↓fX8_longestMirror_140, ↓fX8_longestMirror_142, ↓fX8_longestMirror_145, ↓fX8_longestMirror_146, h9, h10, and_self, true_and, and_true, false_and, and_false, not_true_eq_false, not_false_eq_true, or_self, true_or, or_true, false_or, or_false, ite_not, Decidable.not_not, decide_eq_true_eq, Bool.not_true, Bool.not_false, Bool.false_eq_true, Bool.not_eq_true, n10, n20, n21, n30, n31, n32, n40, n41, n42, n43, ↓reduceIte]
        · rw [if_neg h10]
          obtain ⟨H', f1, f2⟩ := ih (m + 1) m ((m + ln - 1) / 2) (ln, (m + ln - 1) / 2 - ln + 1) l8' (.int (zi ln)) (.int (zi ((m + ln - 1) / 2))) _ (by omega) (by omega) (by omega) hH1 hj1 hI2 (by show -10000 ≤ ln ∧ ln ≤ 10000; omega) k2
          refine ⟨H', f1, fun Q => ?_⟩
          rw [e1 Q, ← f2 Q]
          simp (disch := first | assumption | exact c2_int _ | exact c2_ref _ | exact c2_jk | exact c2_null | omega | (apply rN1; assumption) | (apply rN2; assumption) | (apply rN3; assumption) | (apply rN4; assumption) | exact bI_r _ | exact bI_01 _) only [↓fX8_longestMirror_0, ↓fX8_longestMirror_1, ↓fX8_longestMirror_2, ↓fX8_longestMirror_3, ↓fX8_longestMirror_5, ↓fX8_longestMirror_6, ↓fX8_longestMirror_8, ↓fX8_longestMirror_9, ↓fX8_longestMirror_11, ↓fX8_longestMirror_12, ↓fX8_longestMirror_16, ↓fX8_longestMirror_17, ↓fX8_longestMirror_17n, ↓fX8_longestMirror_18, ↓fX8_longestMirror_21, ↓fX8_longestMirror_22, ↓fX8_longestMirror_23, ↓fX8_longestMirror_24, ↓fX8_longestMirror_27, ↓fX8_longestMirror_27n, ↓fX8_longestMirror_28, ↓fX8_longestMirror_29, ↓fX8_longestMirror_31, ↓fX8_longestMirror_32, ↓fX8_longestMirror_34, ↓fX8_longestMirror_35, ↓fX8_longestMirror_38, ↓fX8_longestMirror_39, ↓fX8_longestMirror_41, ↓fX8_longestMirror_42, ↓fX8_longestMirror_44, ↓fX8_longestMirror_45, ↓fX8_longestMirror_46, ↓fX8_longestMirror_47, ↓fX8_longestMirror_50, ↓fX8_longestMirror_52, ↓fX8_longestMirror_52n, ↓fX8_longestMirror_53, ↓fX8_longestMirror_55, ↓fX8_longestMirror_57, ↓fX8_longestMirror_59, ↓fX8_longestMirror_60, ↓fX8_longestMirror_61, ↓fX8_longestMirror_62, ↓fX8_longestMirror_63, ↓fX8_longestMirror_66, ↓fX8_longestMirror_69, ↓fX8_longestMirror_71, ↓fX8_longestMirror_71n, ↓fX8_longestMirror_72, ↓fX8_longestMirror_74, ↓fX8_longestMirror_76, ↓fX8_longestMirror_79, ↓fX8_longestMirror_81, ↓fX8_longestMirror_83, ↓fX8_longestMirror_84, ↓fX8_longestMirror_85, ↓fX8_longestMirror_86, ↓fX8_longestMirror_87, ↓fX8_longestMirror_88, ↓fX8_longestMirror_90, ↓fX8_longestMirror_92, ↓fX8_longestMirror_94, ↓fX8_longestMirror_97, ↓fX8_longestMirror_99, ↓fX8_longestMirror_101, ↓fX8_longestMirror_103, ↓fX8_longestMirror_105, ↓fX8_longestMirror_107, ↓fX8_longestMirror_108, ↓fX8_longestMirror_111, ↓fX8_longestMirror_113, ↓fX8_longestMirror_114, ↓fX8_longestMirror_116, ↓fX8_longestMirror_118, ↓fX8_longestMirror_119, ↓fX8_longestMirror_120, ↓fX8_longestMirror_121, ↓fX8_longestMirror_123, ↓fX8_longestMirror_126, ↓fX8_longestMirror_129, ↓fX8_longestMirror_130, ↓fX8_longestMirror_131, ↓fX8_longestMirror_134, ↓fX8_longestMirror_136, ↓fX8_longestMirror_137, ↓fX8_longestMirror_140, ↓fX8_longestMirror_142, ↓fX8_longestMirror_145, ↓fX8_longestMirror_146, h9, h10, and_self, true_and, and_true, false_and, and_false, not_true_eq_false, not_false_eq_true, or_self, true_or, or_true, false_or, or_false, ite_not, Decidable.not_not, decide_eq_true_eq, Bool.not_true, Bool.not_false, Bool.false_eq_true, Bool.not_eq_true, n10, n20, n21, n30, n31, n32, n40, n41, n42, n43, ↓reduceIte]
    · have eK : mmK (gA G S) (G S 13) (k + 1) m s = s := by rw [mmK, if_neg h6]
      refine ⟨H, hH, fun Q => ?_⟩
      rw [eK]
      simp (disch := first | assumption | exact c2_int _ | exact c2_ref _ | exact c2_jk | exact c2_null | omega | (apply rN1; assumption) | (apply rN2; assumption) | (apply rN3; assumption) | (apply rN4; assumption) | exact bI_r _ | exact bI_01 _) only [↓fX8_longestMirror_0, ↓fX8_longestMirror_1, ↓fX8_longestMirror_2, ↓fX8_longestMirror_3, ↓fX8_longestMirror_5, ↓fX8_longestMirror_6, ↓fX8_longestMirror_8, ↓fX8_longestMirror_9, ↓fX8_longestMirror_11, ↓fX8_longestMirror_12, ↓fX8_longestMirror_14, ↓fX8_longestMirror_16, ↓fX8_longestMirror_17, ↓fX8_longestMirror_17n, ↓fX8_longestMirror_18, ↓fX8_longestMirror_21, ↓fX8_longestMirror_22, ↓fX8_longestMirror_23, ↓fX8_longestMirror_24, ↓fX8_longestMirror_27, ↓fX8_longestMirror_27n, ↓fX8_longestMirror_28, ↓fX8_longestMirror_29, ↓fX8_longestMirror_31, ↓fX8_longestMirror_32, ↓fX8_longestMirror_34, ↓fX8_longestMirror_35, ↓fX8_longestMirror_38, ↓fX8_longestMirror_39, ↓fX8_longestMirror_41, ↓fX8_longestMirror_42, ↓fX8_longestMirror_44, ↓fX8_longestMirror_45, ↓fX8_longestMirror_46, ↓fX8_longestMirror_47, ↓fX8_longestMirror_50, ↓fX8_longestMirror_52, ↓fX8_longestMirror_52n, ↓fX8_longestMirror_53, ↓fX8_longestMirror_55, ↓fX8_longestMirror_57, ↓fX8_longestMirror_59, ↓fX8_longestMirror_60, ↓fX8_longestMirror_61, ↓fX8_longestMirror_62, ↓fX8_longestMirror_63, ↓fX8_longestMirror_66, ↓fX8_longestMirror_69, ↓fX8_longestMirror_71, ↓fX8_longestMirror_71n, ↓fX8_longestMirror_72, ↓fX8_longestMirror_74, ↓fX8_longestMirror_76, ↓fX8_longestMirror_79, ↓fX8_longestMirror_81, ↓fX8_longestMirror_83, ↓fX8_longestMirror_84, ↓fX8_longestMirror_85, ↓fX8_longestMirror_86, ↓fX8_longestMirror_87, ↓fX8_longestMirror_88, ↓fX8_longestMirror_90, ↓fX8_longestMirror_92, ↓fX8_longestMirror_94, ↓fX8_longestMirror_97, ↓fX8_longestMirror_99, ↓fX8_longestMirror_101, ↓fX8_longestMirror_103, ↓fX8_longestMirror_105, ↓fX8_longestMirror_107, ↓fX8_longestMirror_108, ↓fX8_longestMirror_111, ↓fX8_longestMirror_113, ↓fX8_longestMirror_114, ↓fX8_longestMirror_116, ↓fX8_longestMirror_118, ↓fX8_longestMirror_119, ↓fX8_longestMirror_120, ↓fX8_longestMirror_121, ↓fX8_longestMirror_123, ↓fX8_longestMirror_126, ↓fX8_longestMirror_130, ↓fX8_longestMirror_131, ↓fX8_longestMirror_134, ↓fX8_longestMirror_136, ↓fX8_longestMirror_137, ↓fX8_longestMirror_140, ↓fX8_longestMirror_142, ↓fX8_longestMirror_145, ↓fX8_longestMirror_146, ↓fin, hS, h6, and_self, true_and, and_true, false_and, and_false, not_true_eq_false, not_false_eq_true, or_self, true_or, or_true, false_or, or_false, ite_not, Decidable.not_not, decide_eq_true_eq, Bool.not_true, Bool.not_false, Bool.false_eq_true, Bool.not_eq_true, n10, n20, n21, n30, n31, n32, n40, n41, n42, n43, ↓reduceIte]
theorem c8_longestMirror (hs : shS E r S) (hG : rgS G S) (ht : shT E T) (ho : ofS T S) (hw : I32 w) : ∃ G' : Nat → Nat → Int, (∀ q, q ≠ T → G' q = G q) ∧ ∀ Q, RK MX8_longestMirror 0 [.ref S, .int (zi w), .ref T, jk, jk, jk, jk, jk, jk, jk, jk] [] (0, 0) (E, zg G, zk L, r) Q = Q (E, zg G', zk L, r) (.int (zi (mrA w (mmL (gA G S) (G S 13) 600 1 (0, -1))))) := by
  have g13 := hG.2.2.2.2.2.2.2.2.1
  obtain ⟨H', f1, f2⟩ := c8_mir_loop (L := L) (r := r) hs hG ht ho hw (2 * 600) (2 * 1) 0 0 (0, -1) jk jk jk G (by omega) (by omega) (by omega) (fun _ _ => rfl) (fun j j1 j2 => by omega) (Or.inl ⟨rfl, rfl⟩) (by show -10000 ≤ (0 : Int) ∧ (0 : Int) ≤ 10000; omega) (by show -10000 ≤ (-1 : Int) ∧ (-1 : Int) ≤ 10000; omega)
  rw [mmK_L _ _ 600 1 (0, -1) (by omega) (Int.le_refl _)] at f2
  refine ⟨H', f1, fun Q => ?_⟩
  rw [← f2 Q]
  simp (disch := first | assumption | exact c2_int _ | exact c2_ref _ | exact c2_jk | exact c2_null | omega | (apply rN1; assumption) | (apply rN2; assumption) | (apply rN3; assumption) | (apply rN4; assumption) | exact bI_r _ | exact bI_01 _) only [↓fX8_longestMirror_0, ↓fX8_longestMirror_1, ↓fX8_longestMirror_2, ↓fX8_longestMirror_3, ↓fX8_longestMirror_5, ↓fX8_longestMirror_6, ↓fX8_longestMirror_8, ↓fX8_longestMirror_9, ↓fX8_longestMirror_11, ↓fX8_longestMirror_12, ↓fX8_longestMirror_16, ↓fX8_longestMirror_17, ↓fX8_longestMirror_17n, ↓fX8_longestMirror_18, ↓fX8_longestMirror_21, ↓fX8_longestMirror_22, ↓fX8_longestMirror_23, ↓fX8_longestMirror_24, ↓fX8_longestMirror_27, ↓fX8_longestMirror_27n, ↓fX8_longestMirror_28, ↓fX8_longestMirror_29, ↓fX8_longestMirror_31, ↓fX8_longestMirror_32, ↓fX8_longestMirror_34, ↓fX8_longestMirror_35, ↓fX8_longestMirror_38, ↓fX8_longestMirror_39, ↓fX8_longestMirror_41, ↓fX8_longestMirror_42, ↓fX8_longestMirror_44, ↓fX8_longestMirror_45, ↓fX8_longestMirror_46, ↓fX8_longestMirror_47, ↓fX8_longestMirror_50, ↓fX8_longestMirror_52, ↓fX8_longestMirror_52n, ↓fX8_longestMirror_53, ↓fX8_longestMirror_55, ↓fX8_longestMirror_57, ↓fX8_longestMirror_59, ↓fX8_longestMirror_60, ↓fX8_longestMirror_61, ↓fX8_longestMirror_62, ↓fX8_longestMirror_63, ↓fX8_longestMirror_66, ↓fX8_longestMirror_69, ↓fX8_longestMirror_71, ↓fX8_longestMirror_71n, ↓fX8_longestMirror_72, ↓fX8_longestMirror_74, ↓fX8_longestMirror_76, ↓fX8_longestMirror_79, ↓fX8_longestMirror_81, ↓fX8_longestMirror_83, ↓fX8_longestMirror_84, ↓fX8_longestMirror_85, ↓fX8_longestMirror_86, ↓fX8_longestMirror_87, ↓fX8_longestMirror_88, ↓fX8_longestMirror_90, ↓fX8_longestMirror_92, ↓fX8_longestMirror_94, ↓fX8_longestMirror_97, ↓fX8_longestMirror_99, ↓fX8_longestMirror_101, ↓fX8_longestMirror_103, ↓fX8_longestMirror_105, ↓fX8_longestMirror_107, ↓fX8_longestMirror_108, ↓fX8_longestMirror_111, ↓fX8_longestMirror_113, ↓fX8_longestMirror_114, ↓fX8_longestMirror_116, ↓fX8_longestMirror_118, ↓fX8_longestMirror_119, ↓fX8_longestMirror_120, ↓fX8_longestMirror_121, ↓fX8_longestMirror_123, ↓fX8_longestMirror_126, ↓fX8_longestMirror_129, ↓fX8_longestMirror_130, ↓fX8_longestMirror_131, ↓fX8_longestMirror_134, ↓fX8_longestMirror_136, ↓fX8_longestMirror_137, ↓fX8_longestMirror_140, ↓fX8_longestMirror_142, ↓fX8_longestMirror_145, ↓fX8_longestMirror_146, and_self, true_and, and_true, false_and, and_false, not_true_eq_false, not_false_eq_true, or_self, true_or, or_true, false_or, or_false, ite_not, Decidable.not_not, decide_eq_true_eq, Bool.not_true, Bool.not_false, Bool.false_eq_true, Bool.not_eq_true, n10, n20, n21, n30, n31, n32, n40, n41, n42, n43, ↓reduceIte]
  rfl
end BS
