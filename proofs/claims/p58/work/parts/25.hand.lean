/-! A number struck by hand; a sieve begun anew, longer, made. -/
theorem ctN_one {P P' : Int → Bool} {n i : Nat} (hi : i < n) (h1 : P (i : Int) = true) (h2 : P' (i : Int) = false) (h3 : ∀ j : Nat, j < n → j ≠ i → P' (j : Int) = P (j : Int)) : ctN P' n + 1 = ctN P n := by
  induction n with
  | zero => omega
  | succ n ih =>
    rw [ctN, ctN]
    by_cases q : i = n
    · subst q
      rw [h1, h2, ctN_congr i (fun j hj => h3 j (by omega) (by omega))]
      simp
    · have := ih (by omega) (fun j hj hne => h3 j (by omega) hne)
      rw [h3 n (by omega) (by omega)]
      omega
theorem ctN_all {P : Int → Bool} : ∀ n : Nat, (∀ i : Nat, i < n → P (i : Int) = true) → ctN P n = n := by
  intro n
  induction n with
  | zero => intro _; rfl
  | succ n ih =>
    intro h
    rw [ctN, ih (fun i hi => h i (by omega)), if_pos (h n (by omega))]
    rfl
section SW
variable {E : AE} {G G' L : Nat → Nat → Int} {r : Nat → Nat → Option Nat} {h : AH} {Q : AH → Value → Prop} {S S2 : Nat} {σ : Nat → Int} {gap x n m : Int}
theorem hdS_hb {i : Nat} (hσ : 0 ≤ σ 5) {j : Nat} : hbS (hdS σ i) j = if j = i then false else hbS σ j := by
  unfold hbS
  rw [Int.toNat_natCast]
  have e : hdS σ i (20 + j) = if j = i then σ 5 + 1 else σ (20 + j) := by
    unfold hdS
    rw [if_neg (by omega), if_neg (by omega)]
    by_cases q : j = i
    · rw [if_pos (by omega), if_pos q]
    · rw [if_neg (by omega), if_neg q]
  rw [e]
  by_cases q : j = i
  · rw [if_pos q, if_pos q, decide_eq_false_iff_not]
    omega
  · rw [if_neg q, if_neg q]
theorem hdS_WF (w : WF σ) {i : Nat} (hi : (i : Int) < σ 3) (hh : hbS σ i = true) (hz : 2 ≤ szS σ) : WF (hdS σ i) ∧ szS (hdS σ i) + 1 = szS σ := by
  have h5 := WF_5 w
  have e : ∀ k : Nat, k ≠ 5 → k ≠ 6 → k ≠ 20 + i → hdS σ i k = σ k := fun k a b c => by
    unfold hdS
    rw [if_neg a, if_neg b, if_neg c]
  obtain ⟨w0, w1, w2, w3, w4, w5, w6, w7, w8, w9, w10, w11, w12⟩ := w
  have e5 : hdS σ i 5 = σ 5 + 1 := rfl
  have e6 : hdS σ i 6 = σ 6 + 1 := rfl
  have hsz : szS (hdS σ i) + 1 = szS σ := by
    unfold szS
    rw [e 3 (by decide) (by decide) (by omega)]
    refine ctN_one (i := i) (by omega) hh ?_ fun j hj hne => ?_
    · rw [hdS_hb h5.1, if_pos rfl]
    · rw [hdS_hb h5.1, if_neg hne]
  refine ⟨?_, hsz⟩
  have ei : hdS σ i (20 + i) = σ 5 + 1 := by
    unfold hdS
    rw [if_neg (by omega), if_neg (by omega), if_pos rfl]
  have hg0 : σ (20 + i) = 0 := by
    unfold hbS at hh
    rw [Int.toNat_natCast] at hh
    exact of_decide_eq_true hh
  unfold WF
  rw [e 0 (by decide) (by decide) (by omega), e 1 (by decide) (by decide) (by omega), e 2 (by decide) (by decide) (by omega), e 3 (by decide) (by decide) (by omega), e 4 (by decide) (by decide) (by omega), e 7 (by decide) (by decide) (by omega), e 8 (by decide) (by decide) (by omega), e 9 (by decide) (by decide) (by omega), e5, e6]
  refine ⟨w0, w1, w2, w3, by omega, by omega, fun k => by have := w6 k; omega, w7, fun k => ?_, fun j hj => ?_, fun j j1 j2 => ?_, fun a b i1 i2 i3 => ?_, fun t t1 t2 => ?_⟩
  · obtain ⟨x1, x2, x3, x4⟩ := w8 k
    refine ⟨x1, x2, x3, fun j hj => ?_⟩
    rw [e (8 + j) (by omega) (by omega) (by omega)]
    exact x4 j hj
  · by_cases q : j = i
    · subst q
      rw [ei]
      omega
    · rw [e (20 + j) (by omega) (by omega) (by omega)]
      have := w9 j hj
      omega
  · rw [e (620 + j) (by omega) (by omega) (by omega), e (1222 + j) (by omega) (by omega) (by omega)]
    have := w10 j j1 j2
    omega
  · rw [e (620 + a) (by omega) (by omega) (by omega), e (620 + b) (by omega) (by omega) (by omega)]
    exact w11 a b i1 i2 i3
  · by_cases q : t = σ 5 + 1
    · exact Or.inr ⟨i, hi, ei.trans q.symm⟩
    · rcases w12 t t1 (by omega) with ⟨j, j1, j2, j3⟩ | ⟨j, j1, j2⟩
      · exact Or.inl ⟨j, j1, j2, by rw [e (620 + j) (by omega) (by omega) (by omega)]; exact j3⟩
      · refine Or.inr ⟨j, j1, ?_⟩
        have : j ≠ i := fun z => by subst z; omega
        rw [e (20 + j) (by omega) (by omega) (by omega)]
        exact j2
theorem c7_takeOutS (hs : shS E r S) (h : RS G S σ) (w : WF σ) (hx : I32 x) {i : Nat} (hix : iXS σ x = i) (hh : hbS σ i = true) (hz : 2 ≤ szS σ) :
    ∃ G' : Nat → Nat → Int, fr6 G G' S ∧ RS G' S (hdS σ i) ∧ WF (hdS σ i) ∧ ∀ Q, RK MX7_takeOut 0 [.ref S, .int (zi x)] [] (0, 0) (E, zg G, zk L, r) Q = Q (E, zg G', zk L, r) .null := by
  have hib := iXS_b w x
  have hi : (i : Int) < σ 3 := by omega
  obtain ⟨w', wz⟩ := hdS_WF w hi hh hz
  have h5 := WF_5 w
  have f := h.2.2.1
  have w4 := w.2.2.2.2.1
  have w3 := w.2.2.2.1
  have w5 := w.2.2.2.2.2.1
  let G1 : Nat → Nat → Int := u2 G S 7 (G S 7 + 1)
  let G2 : Nat → Nat → Int := u2 G1 S 8 (G S 8 + 1)
  let G3 : Nat → Nat → Int := u2 G2 (S + 2) i (G S 7 + 1)
  have e : ∀ q j, G3 q j = if q = S + 2 ∧ j = i then G S 7 + 1 else if q = S ∧ j = 8 then G S 8 + 1 else if q = S ∧ j = 7 then G S 7 + 1 else G q j := fun q j => rfl
  have eS : ∀ j, j ≠ 7 → j ≠ 8 → G3 S j = G S j := fun j a b => by rw [e, if_neg (by omega), if_neg (by omega), if_neg (by omega)]
  have e7 : G3 S 7 = G S 7 + 1 := by rw [e, if_neg (by omega), if_neg (by omega), if_pos ⟨rfl, rfl⟩]
  have e8 : G3 S 8 = G S 8 + 1 := by rw [e, if_neg (by omega), if_pos ⟨rfl, rfl⟩]
  have eq : ∀ q, q ≠ S → q ≠ S + 2 → G3 q = G q := fun q a b => by
    funext j
    rw [e, if_neg (fun z => b z.1), if_neg (fun z => a z.1), if_neg (fun z => a z.1)]
  have e2 : ∀ j, G3 (S + 2) j = if j = i then G S 7 + 1 else G (S + 2) j := fun j => by
    rw [e]
    by_cases q : j = i
    · rw [if_pos ⟨rfl, q⟩, if_pos q]
    · rw [if_neg (fun z => q z.2), if_neg q, if_neg (by omega), if_neg (by omega)]
  have hg := h.1
  have hg3 : rgS G3 S := by
    obtain ⟨g0, g1, g2, g3, g4, g6, g7, g8, g13, ga1, ga2, ga3, ga4, ga5⟩ := id hg
    unfold rgS
    rw [eS 0 (by decide) (by decide), eS 1 (by decide) (by decide), eS 2 (by decide) (by decide), eS 3 (by decide) (by decide), eS 4 (by decide) (by decide), eS 6 (by decide) (by decide), e7, e8, eS 13 (by decide) (by decide), eq (S + 1) (by omega) (by omega), eq (S + 3) (by omega) (by omega), eq (S + 4) (by omega) (by omega), eq (S + 5) (by omega) (by omega)]
    refine ⟨g0, g1, g2, g3, g4, g6, ⟨by omega, by omega⟩, ⟨by omega, by omega⟩, g13, ga1, fun t => ?_, ga3, ga4, ga5⟩
    rw [e2]
    have := ga2 t
    split <;> omega
  obtain ⟨G', p1, p2, p3, p4⟩ := c7_closeUp (L := L) hs hg3 (by rw [eS 2 (by decide) (by decide), eS 3 (by decide) (by decide)]; exact h.2.1.1)
  have d : ∀ k : Nat, k ≠ 5 → k ≠ 6 → k ≠ 20 + i → hdS σ i k = σ k := fun k a b c => by
    unfold hdS
    rw [if_neg a, if_neg b, if_neg c]
  refine ⟨G', fun q hq => ?_, ⟨p2, p3, ⟨?_, ?_, ?_, ?_, ?_, ?_, ?_⟩, fun k => ?_, fun k => ?_, fun j hj => ?_, fun j j1 j2 => ?_⟩, w', fun Q => ?_⟩
  · funext j
    rw [p1 q j (by omega), eq q (by omega) (by omega)]
  · rw [p1 S 0 (by omega), eS 0 (by decide) (by decide), d 0 (by decide) (by decide) (by omega)]; exact f.1
  · rw [p1 S 1 (by omega), eS 1 (by decide) (by decide), d 1 (by decide) (by decide) (by omega)]; exact f.2.1
  · rw [p1 S 2 (by omega), eS 2 (by decide) (by decide), d 2 (by decide) (by decide) (by omega)]; exact f.2.2.1
  · rw [p1 S 3 (by omega), eS 3 (by decide) (by decide), d 3 (by decide) (by decide) (by omega)]; exact f.2.2.2.1
  · rw [p1 S 6 (by omega), eS 6 (by decide) (by decide), d 4 (by decide) (by decide) (by omega)]; exact f.2.2.2.2.1
  · rw [p1 S 7 (by omega), e7, f.2.2.2.2.2.1]; rfl
  · rw [p1 S 8 (by omega), e8, f.2.2.2.2.2.2]; rfl
  · rw [d 0 (by decide) (by decide) (by omega)] at k
    rw [p1 S 4 (by omega), eS 4 (by decide) (by decide), p1 (S + 1) 0 (by omega), eq (S + 1) (by omega) (by omega), d 9 (by decide) (by decide) (by omega), d 8 (by decide) (by decide) (by omega)]
    exact h.2.2.2.1 k
  · rw [d 0 (by decide) (by decide) (by omega)] at k
    obtain ⟨x1, x2⟩ := h.2.2.2.2.1 k
    have y := w.2.2.2.2.2.2.2.2.1 k
    rw [p1 S 4 (by omega), eS 4 (by decide) (by decide), d 7 (by decide) (by decide) (by omega)]
    refine ⟨x1, fun j hj => ?_⟩
    rw [p1 (S + 1) j (by omega), eq (S + 1) (by omega) (by omega), d (8 + j) (by omega) (by omega) (by omega)]
    exact x2 j hj
  · rw [d 3 (by decide) (by decide) (by omega)] at hj
    rw [p1 (S + 2) j (by omega), e2, f.2.2.2.2.2.1]
    by_cases q : j = i
    · subst q
      have ej : hdS σ j (20 + j) = σ 5 + 1 := by
        unfold hdS
        rw [if_neg (by omega), if_neg (by omega), if_pos rfl]
      rw [if_pos rfl, ej, if_neg (by omega)]
    · rw [if_neg q, d (20 + j) (by omega) (by omega) (by omega)]
      exact h.2.2.2.2.2.1 j hj
  · rw [d 4 (by decide) (by decide) (by omega)] at j2
    rw [p1 (S + 3) j (by omega), p1 (S + 4) j (by omega), eq (S + 3) (by omega) (by omega), eq (S + 4) (by omega) (by omega), d (1222 + j) (by omega) (by omega) (by omega), d (620 + j) (by omega) (by omega) (by omega)]
    exact h.2.2.2.2.2.2 j j1 j2
  · have gg2 : ∀ j, G2 S j = if j = 8 then G S 8 + 1 else if j = 7 then G S 7 + 1 else G S j := by
      intro j
      show (if S = S ∧ j = 8 then _ else if S = S ∧ j = 7 then _ else G S j) = _
      simp only [true_and]
    have g2q : ∀ q, q ≠ S → G2 q = G q := by
      intro q hq
      funext j
      show (if q = S ∧ j = 8 then _ else if q = S ∧ j = 7 then _ else G q j) = _
      rw [if_neg (fun z => hq z.1), if_neg (fun z => hq z.1)]
    have eX : iX G2 S x = i := by
      have : iX G2 S = iX G S := by
        funext y
        unfold iX
        rw [gg2 1, gg2 2, gg2 3]
        rfl
      rw [this, RS_iX h w, hix]
    have hG2 : rgS G2 S := by
      obtain ⟨g0, g1, g2, g3, g4, g6, g7, g8, g13, ga1, ga2, ga3, ga4, ga5⟩ := id hg
      unfold rgS
      rw [gg2 0, gg2 1, gg2 2, gg2 3, gg2 4, gg2 6, gg2 7, gg2 8, gg2 13, g2q (S + 1) (by omega), g2q (S + 2) (by omega), g2q (S + 3) (by omega), g2q (S + 4) (by omega), g2q (S + 5) (by omega)]
      exact ⟨g0, g1, g2, g3, g4, g6, ⟨by show 0 ≤ G S 7 + 1; omega, by show G S 7 + 1 ≤ 1000000; omega⟩, ⟨by show 0 ≤ G S 8 + 1; omega, by show G S 8 + 1 ≤ 1000000; omega⟩, g13, ga1, ga2, ga3, ga4, ga5⟩
    have k1 : u2 G S 7 (G S 7 + 1) S 8 = G S 8 := by
      show (if S = S ∧ 8 = 7 then _ else G S 8) = _
      rw [if_neg (by omega)]
    have k2 : G2 S 7 = G S 7 + 1 := by rw [gg2 7]; rfl
    have k0 : u2 (u2 G S 7 (G S 7 + 1)) S 8 (G S 8 + 1) = G2 := rfl
    obtain ⟨s0, ⟨s1, s2, s3, s4, s5⟩, ⟨l1, l2, l3, l4, l5⟩, r1, r2, r3, r4, r5⟩ := id hs
    have k3 : (if 0 ≤ (i : Int) ∧ (i : Int) < (le E (S + 2) : Int) then u2 G2 (S + 2) (i : Int).toNat (G S 7 + 1) else G2) = G3 := if_pos (by omega)
    simp (disch := first | assumption | exact c2_int _ | exact c2_ref _ | exact c2_jk | exact c2_null | omega | (apply rN1; assumption) | (apply rN2; assumption) | (apply rN3; assumption) | (apply rN4; assumption) | exact bI_r _ | exact bI_01 _) only [↓fX7_takeOut_0, ↓fX7_takeOut_1, ↓fX7_takeOut_2, ↓fX7_takeOut_5, ↓fX7_takeOut_6, ↓fX7_takeOut_7, ↓fX7_takeOut_10, ↓fX7_takeOut_11, ↓fX7_takeOut_12, ↓fX7_takeOut_15, ↓fX7_takeOut_16, ↓fX7_takeOut_17, ↓fX7_takeOut_20, ↓fX7_takeOut_21, ↓fX7_takeOut_24, ↓fX7_takeOut_25, ↓fX7_takeOut_26, ↓fX7_takeOut_27, ↓fX7_takeOut_30, ↓fX7_takeOut_31, ↓fX7_takeOut_34, ↓fX7_takeOut_37, ↓fX7_takeOut_38, ↓fX7_takeOut_41, ↓c7_indexOf, ↓c9_put, k1, k0, k2, k3, eX, and_self, true_and, and_true, false_and, and_false, not_true_eq_false, not_false_eq_true, or_self, true_or, or_true, false_or, or_false, ite_not, Decidable.not_not, decide_eq_true_eq, Bool.not_true, Bool.not_false, Bool.false_eq_true, Bool.not_eq_true, n10, n20, n21, n30, n31, n32, n40, n41, n42, n43, ↓reduceIte]
    exact p4 _
theorem bgS_hb (σ : Nat → Int) (m : Int) (j : Nat) : hbS (bgS σ m) j = true := by
  unfold hbS bgS
  rw [Int.toNat_natCast, if_neg (by omega), if_neg (by omega), if_pos (by omega)]
  rfl
theorem bgS_lo (σ : Nat → Int) (m : Int) {k : Nat} (h3 : k ≠ 3) (h4 : k ≠ 4) (h5 : k ≠ 5) (h6 : k ≠ 6) (h : k < 20) : bgS σ m k = σ k := by
  unfold bgS
  rw [if_neg h3, if_neg (by omega), if_neg (by omega)]
theorem bgS_hi (σ : Nat → Int) (m : Int) {k : Nat} (h : 20 ≤ k) : bgS σ m k = 0 := by
  unfold bgS
  rw [if_neg (by omega), if_neg (by omega), if_pos h]
theorem bgS_WF (w : WF σ) (hm : 2 ≤ m ∧ m ≤ 600) : WF (bgS σ m) := by
  obtain ⟨w0, w1, w2, w3, w4, w5, w6, w7, w8, -⟩ := w
  have e3 : bgS σ m 3 = m := rfl
  have e4 : bgS σ m 4 = 0 := rfl
  have e5 : bgS σ m 5 = 0 := rfl
  have e6 : bgS σ m 6 = 0 := rfl
  have hz : szS (bgS σ m) = m := by
    unfold szS
    rw [e3, ctN_all _ (fun i _ => bgS_hb σ m i)]
    omega
  unfold WF
  rw [hz, e3, e4, e5, e6, bgS_lo σ m (k := 0) (by decide) (by decide) (by decide) (by decide) (by decide), bgS_lo σ m (k := 1) (by decide) (by decide) (by decide) (by decide) (by decide), bgS_lo σ m (k := 2) (by decide) (by decide) (by decide) (by decide) (by decide), bgS_lo σ m (k := 7) (by decide) (by decide) (by decide) (by decide) (by decide), bgS_lo σ m (k := 8) (by decide) (by decide) (by decide) (by decide) (by decide), bgS_lo σ m (k := 9) (by decide) (by decide) (by decide) (by decide) (by decide)]
  refine ⟨w0, w1, w2, hm, by omega, by omega, fun _ => by omega, fun k => ?_, fun k => ?_, fun j hj => ?_, fun j j1 j2 => absurd j2 (by omega), fun a b i1 i2 i3 => absurd i3 (by omega), fun t t1 t2 => absurd t2 (by omega)⟩
  · have := w7 k
    omega
  · obtain ⟨x1, x2, x3, x4⟩ := w8 k
    refine ⟨by omega, x2, x3, fun j hj => ?_⟩
    rw [bgS_lo σ m (by omega) (by omega) (by omega) (by omega) (by omega)]
    exact x4 j hj
  · rw [bgS_hi σ m (by omega)]
    omega
end SW
