/-! Functional part: a sieve taken over; a number struck by hand. -/
section BS
variable {E : AE} {G L : Nat → Nat → Int} {r : Nat → Nat → Option Nat} {h : AH} {Q : AH → Value → Prop} {S S2 T : Nat} {i v n p x kk en ev idx gap : Int}
/-- S has what O has -/
def tkQ (G G' : Nat → Nat → Int) (S O : Nat) : Prop := fr6 G G' S ∧ (∀ j, j = 0 ∨ j = 1 ∨ j = 2 ∨ j = 3 ∨ j = 4 ∨ j = 6 ∨ j = 7 ∨ j = 8 ∨ j = 13 → G' S j = G O j) ∧ (∀ j, j < 12 → G' (S + 1) j = G (O + 1) j) ∧ (∀ j, j < 600 → G' (S + 2) j = G (O + 2) j) ∧ (∀ j, j < 601 → G' (S + 3) j = G (O + 3) j) ∧ (∀ j, j < 601 → G' (S + 4) j = G (O + 4) j) ∧ (∀ j, j < 600 → G' (S + 5) j = G (O + 5) j) ∧ rgS G' S
def tkF (G : Nat → Nat → Int) (S O : Nat) : Nat → Nat → Int := u2 (u2 (u2 (u2 (u2 (u2 (u2 (u2 (u2 G S 0 (G O 0)) S 1 (G O 1)) S 2 (G O 2)) S 3 (G O 3)) S 4 (G O 4)) S 6 (G O 6)) S 7 (G O 7)) S 8 (G O 8)) S 13 (G O 13)
theorem tkF_q {S O q : Nat} (hq : q ≠ S) : tkF G S O q = G q := by
  unfold tkF
  rw [u2_a _ _ _ _ hq, u2_a _ _ _ _ hq, u2_a _ _ _ _ hq, u2_a _ _ _ _ hq, u2_a _ _ _ _ hq, u2_a _ _ _ _ hq, u2_a _ _ _ _ hq, u2_a _ _ _ _ hq, u2_a _ _ _ _ hq]
theorem tkF_S {S O : Nat} (j : Nat) : tkF G S O S j = if j = 13 then G O 13 else if j = 8 then G O 8 else if j = 7 then G O 7 else if j = 6 then G O 6 else if j = 4 then G O 4 else if j = 3 then G O 3 else if j = 2 then G O 2 else if j = 1 then G O 1 else if j = 0 then G O 0 else G S j := by
  unfold tkF u2
  simp only [true_and]
theorem c7_takeOver (hs : shS E r S) (hs2 : shS E r S2) (hg : rgS G S) (hg2 : rgS G S2) (hd : S2 + 5 < S ∨ S + 5 < S2) :
    ∃ G' : Nat → Nat → Int, tkQ G G' S S2 ∧ ∀ Q, RK MX7_takeOver 0 [.ref S, .ref S2] [] (0, 0) (E, zg G, zk L, r) Q = Q (E, zg G', zk L, r) .null := by
  let G' : Nat → Nat → Int := cpG9 (cpG9 (cpG9 (cpG9 (cpG9 (tkF G S S2) (S2 + 1) (S + 1) 12) (S2 + 2) (S + 2) 600) (S2 + 3) (S + 3) 601) (S2 + 4) (S + 4) 601) (S2 + 5) (S + 5) 600
  have e : ∀ q j, G' q j = if q = S + 5 ∧ j < 600 then G (S2 + 5) j else if q = S + 4 ∧ j < 601 then G (S2 + 4) j else if q = S + 3 ∧ j < 601 then G (S2 + 3) j else if q = S + 2 ∧ j < 600 then G (S2 + 2) j else if q = S + 1 ∧ j < 12 then G (S2 + 1) j else tkF G S S2 q j := by
    intro q j
    have f1 : ∀ j, tkF G S S2 (S2 + 1) j = G (S2 + 1) j := fun j => by rw [tkF_q (by omega)]
    have f2 : ∀ j, tkF G S S2 (S2 + 2) j = G (S2 + 2) j := fun j => by rw [tkF_q (by omega)]
    have f3 : ∀ j, tkF G S S2 (S2 + 3) j = G (S2 + 3) j := fun j => by rw [tkF_q (by omega)]
    have f4 : ∀ j, tkF G S S2 (S2 + 4) j = G (S2 + 4) j := fun j => by rw [tkF_q (by omega)]
    have f5 : ∀ j, tkF G S S2 (S2 + 5) j = G (S2 + 5) j := fun j => by rw [tkF_q (by omega)]
    have n52 : ¬ S2 + 5 = S + 4 := by omega
    have n53 : ¬ S2 + 5 = S + 3 := by omega
    have n54 : ¬ S2 + 5 = S + 2 := by omega
    have n55 : ¬ S2 + 5 = S + 1 := by omega
    have n42 : ¬ S2 + 4 = S + 3 := by omega
    have n43 : ¬ S2 + 4 = S + 2 := by omega
    have n44 : ¬ S2 + 4 = S + 1 := by omega
    have n32 : ¬ S2 + 3 = S + 2 := by omega
    have n33 : ¬ S2 + 3 = S + 1 := by omega
    have n22 : ¬ S2 + 2 = S + 1 := by omega
    show (if q = S + 5 ∧ j < 600 then cpG9 _ _ _ _ (S2 + 5) j else if q = S + 4 ∧ j < 601 then cpG9 _ _ _ _ (S2 + 4) j else if q = S + 3 ∧ j < 601 then cpG9 _ _ _ _ (S2 + 3) j else if q = S + 2 ∧ j < 600 then cpG9 _ _ _ _ (S2 + 2) j else if q = S + 1 ∧ j < 12 then tkF G S S2 (S2 + 1) j else tkF G S S2 q j) = _
    simp only [cpG9, n52, n53, n54, n55, n42, n43, n44, n32, n33, n22, false_and, if_false, f1, f2, f3, f4, f5]
  have eq : ∀ q j, q ≠ S + 1 → q ≠ S + 2 → q ≠ S + 3 → q ≠ S + 4 → q ≠ S + 5 → G' q j = tkF G S S2 q j := by
    intro q j h1 h2 h3 h4 h5
    rw [e, if_neg (fun z => h5 z.1), if_neg (fun z => h4 z.1), if_neg (fun z => h3 z.1), if_neg (fun z => h2 z.1), if_neg (fun z => h1 z.1)]
  have eS : ∀ j, G' S j = tkF G S S2 S j := fun j => eq S j (by omega) (by omega) (by omega) (by omega) (by omega)
  have e1 : ∀ j, G' (S + 1) j = if j < 12 then G (S2 + 1) j else G (S + 1) j := fun j => by
    rw [e, if_neg (by omega), if_neg (by omega), if_neg (by omega), if_neg (by omega), tkF_q (by omega)]
    simp only [true_and]
  have e2 : ∀ j, G' (S + 2) j = if j < 600 then G (S2 + 2) j else G (S + 2) j := fun j => by
    rw [e, if_neg (by omega), if_neg (by omega), if_neg (by omega)]
    by_cases q : j < 600
    · rw [if_pos ⟨rfl, q⟩, if_pos q]
    · rw [if_neg (fun z => q z.2), if_neg q, if_neg (by omega), tkF_q (by omega)]
  have e3 : ∀ j, G' (S + 3) j = if j < 601 then G (S2 + 3) j else G (S + 3) j := fun j => by
    rw [e, if_neg (by omega), if_neg (by omega)]
    by_cases q : j < 601
    · rw [if_pos ⟨rfl, q⟩, if_pos q]
    · rw [if_neg (fun z => q z.2), if_neg q, if_neg (by omega), if_neg (by omega), tkF_q (by omega)]
  have e4 : ∀ j, G' (S + 4) j = if j < 601 then G (S2 + 4) j else G (S + 4) j := fun j => by
    rw [e, if_neg (by omega)]
    by_cases q : j < 601
    · rw [if_pos ⟨rfl, q⟩, if_pos q]
    · rw [if_neg (fun z => q z.2), if_neg q, if_neg (by omega), if_neg (by omega), if_neg (by omega), tkF_q (by omega)]
  have e5 : ∀ j, G' (S + 5) j = if j < 600 then G (S2 + 5) j else G (S + 5) j := fun j => by
    rw [e]
    by_cases q : j < 600
    · rw [if_pos ⟨rfl, q⟩, if_pos q]
    · rw [if_neg (fun z => q z.2), if_neg q, if_neg (by omega), if_neg (by omega), if_neg (by omega), if_neg (by omega), tkF_q (by omega)]
  have eF : ∀ j, j = 0 ∨ j = 1 ∨ j = 2 ∨ j = 3 ∨ j = 4 ∨ j = 6 ∨ j = 7 ∨ j = 8 ∨ j = 13 → G' S j = G S2 j := by
    intro j hj
    rw [eS, tkF_S]
    rcases hj with rfl | rfl | rfl | rfl | rfl | rfl | rfl | rfl | rfl <;> simp
  refine ⟨G', ⟨fun q hq => ?_, eF, fun j hj => by rw [e1, if_pos hj], fun j hj => by rw [e2, if_pos hj], fun j hj => by rw [e3, if_pos hj], fun j hj => by rw [e4, if_pos hj], fun j hj => by rw [e5, if_pos hj], ?_⟩, fun Q => ?_⟩
  · funext j
    rw [eq q j (by omega) (by omega) (by omega) (by omega) (by omega), tkF_q (by omega)]
  · obtain ⟨g0, g1, g2, g3, g4, g6, g7, g8, g13, ga1, ga2, ga3, ga4, ga5⟩ := id hg
    obtain ⟨b0, b1, b2, b3, b4, b6, b7, b8, b13, ba1, ba2, ba3, ba4, ba5⟩ := id hg2
    unfold rgS
    rw [eF 0 (by decide), eF 1 (by decide), eF 2 (by decide), eF 3 (by decide), eF 4 (by decide), eF 6 (by decide), eF 7 (by decide), eF 8 (by decide), eF 13 (by decide)]
    refine ⟨b0, b1, b2, b3, b4, b6, b7, b8, b13, fun t => ?_, fun t => ?_, fun t => ?_, fun t => ?_, fun t => ?_⟩
    · rw [e1]; split
      · exact ba1 t
      · exact ga1 t
    · rw [e2]; split
      · exact ba2 t
      · exact ga2 t
    · rw [e3]; split
      · exact ba3 t
      · exact ga3 t
    · rw [e4]; split
      · exact ba4 t
      · exact ga4 t
    · rw [e5]; split
      · exact ba5 t
      · exact ga5 t
  · have hne : S2 ≠ S := by omega
    have x1 : S2 + 1 ≠ S + 1 := by omega
    have x2 : S2 + 2 ≠ S + 2 := by omega
    have x3 : S2 + 3 ≠ S + 3 := by omega
    have x4 : S2 + 4 ≠ S + 4 := by omega
    have x5 : S2 + 5 ≠ S + 5 := by omega
    obtain ⟨s0, ⟨s1, s2, s3, s4, s5⟩, ⟨l1, l2, l3, l4, l5⟩, r1, r2, r3, r4, r5⟩ := id hs
    obtain ⟨t0, ⟨t1, t2, t3, t4, t5⟩, ⟨y1, y2, y3, y4, y5⟩, v1, v2, v3, v4, v5⟩ := id hs2
    simp (disch := first | assumption | exact c2_int _ | exact c2_ref _ | exact c2_jk | exact c2_null | omega | (apply rN1; assumption) | (apply rN2; assumption) | (apply rN3; assumption) | (apply rN4; assumption) | exact bI_r _ | exact bI_01 _) only [↓fX7_takeOver_0, ↓fX7_takeOver_1, ↓fX7_takeOver_1n, ↓fX7_takeOver_2, ↓fX7_takeOver_5, ↓fX7_takeOver_8, ↓fX7_takeOver_9, ↓fX7_takeOver_9n, ↓fX7_takeOver_10, ↓fX7_takeOver_13, ↓fX7_takeOver_16, ↓fX7_takeOver_17, ↓fX7_takeOver_17n, ↓fX7_takeOver_18, ↓fX7_takeOver_21, ↓fX7_takeOver_24, ↓fX7_takeOver_25, ↓fX7_takeOver_25n, ↓fX7_takeOver_26, ↓fX7_takeOver_29, ↓fX7_takeOver_32, ↓fX7_takeOver_33, ↓fX7_takeOver_33n, ↓fX7_takeOver_34, ↓fX7_takeOver_37, ↓fX7_takeOver_40, ↓fX7_takeOver_41, ↓fX7_takeOver_41n, ↓fX7_takeOver_42, ↓fX7_takeOver_45, ↓fX7_takeOver_48, ↓fX7_takeOver_49, ↓fX7_takeOver_49n, ↓fX7_takeOver_50, ↓fX7_takeOver_53, ↓fX7_takeOver_56, ↓fX7_takeOver_57, ↓fX7_takeOver_57n, ↓fX7_takeOver_58, ↓fX7_takeOver_61, ↓fX7_takeOver_64, ↓fX7_takeOver_65, ↓fX7_takeOver_65n, ↓fX7_takeOver_66, ↓fX7_takeOver_69, ↓fX7_takeOver_72, ↓fX7_takeOver_72n, ↓fX7_takeOver_73, ↓fX7_takeOver_76, ↓fX7_takeOver_77, ↓fX7_takeOver_80, ↓fX7_takeOver_83, ↓fX7_takeOver_83n, ↓fX7_takeOver_84, ↓fX7_takeOver_87, ↓fX7_takeOver_88, ↓fX7_takeOver_91, ↓fX7_takeOver_94, ↓fX7_takeOver_94n, ↓fX7_takeOver_95, ↓fX7_takeOver_98, ↓fX7_takeOver_99, ↓fX7_takeOver_102, ↓fX7_takeOver_105, ↓fX7_takeOver_105n, ↓fX7_takeOver_106, ↓fX7_takeOver_109, ↓fX7_takeOver_110, ↓fX7_takeOver_113, ↓fX7_takeOver_116, ↓fX7_takeOver_116n, ↓fX7_takeOver_117, ↓fX7_takeOver_120, ↓fX7_takeOver_121, ↓fX7_takeOver_124, ↓fX7_takeOver_127, ↓c9_copyCells, u2_a, l1, l2, l3, l4, l5, y1, y2, y3, y4, y5, Nat.min_self, and_self, true_and, and_true, false_and, and_false, not_true_eq_false, not_false_eq_true, or_self, true_or, or_true, false_or, or_false, ite_not, Decidable.not_not, decide_eq_true_eq, Bool.not_true, Bool.not_false, Bool.false_eq_true, Bool.not_eq_true, n10, n20, n21, n30, n31, n32, n40, n41, n42, n43, ↓reduceIte]
    rfl
end BS
