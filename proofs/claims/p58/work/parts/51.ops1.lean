/-! The house's calls that only look: (status, answer). -/
def HXS (E : AE) (r : Nat → Nat → Option Nat) (G : Nat → Nat → Int) (X : Nat) (p q : Nat → Nat) (n : Nat) (σ : Nat → Nat → Int) (a : Nat) (kk nn : Nat → Int) (τ : Nat → Nat → Int) : Prop := shX E r X ∧ SHF E r G (X + 37) p q n σ a kk nn τ ∧ rgS G (X + 123)
def ans (v : Int) : Int × Int := (if v = -1 then 5 else 0, v)
/-- an answer that stands on one sieve -/
def onS (bad : Bool) (n : Nat) (s : Int) (f : Int × Int) : Int × Int := if bad = true then (1, -1) else if 0 ≤ s ∧ s < n then f else (2, -1)
section BS
variable {E : AE} {G G' L : Nat → Nat → Int} {r : Nat → Nat → Option Nat} {h : AH} {Q : AH → Value → Prop} {X S n a : Nat} {v y s x d : Int} {p q : Nat → Nat} {σ τ : Nat → Nat → Int} {kk nn : Nat → Int}
theorem HXS_none (hx : HXS E r G X p q n σ a kk nn τ) (hs : I32 s) (c : ¬ (0 ≤ s ∧ s < n)) : ∀ Q, RK MX6_sieveAt 0 [.ref (X + 37), .int (zi s)] [] (0, 0) (E, zg G, zk L, r) Q = Q (E, zg G, zk L, r) .null := fun Q => by
  have n1 := hx.2.1.2.2.2.1
  rw [c6_sieveAt hx.2.1.1 hx.2.1.2.1 (by omega) hs, if_neg (by omega)]
theorem HXS_some (hx : HXS E r G X p q n σ a kk nn τ) (c : 0 ≤ s ∧ s < n) : ∃ S, shS E r S ∧ RS G S (σ s.toNat) ∧ WF (σ s.toNat) ∧ (X + 43 ≤ S ∧ S + 5 ≤ X + 66) ∧ ∀ Q, RK MX6_sieveAt 0 [.ref (X + 37), .int (zi s)] [] (0, 0) (E, zg G, zk L, r) Q = Q (E, zg G, zk L, r) (.ref S) := by
  have n1 := hx.2.1.2.2.2.1
  have hp := (hx.2.1.2.1.1 s.toNat (by omega)).2
  have hr := hx.2.1.2.2.2.2.2.1 s.toNat (by omega)
  refine ⟨X + 37 + 6 + 6 * p s.toNat, hx.2.1.1.2.2.2.2.1 _ hp, hr.1, hr.2, by omega, fun Q => ?_⟩
  rw [c6_sieveAt hx.2.1.1 hx.2.1.2.1 (by omega) (by omega), if_pos (by omega)]
theorem o_number (hx : HXS E r G X p q n σ a kk nn τ) (hs : I32 s) (hy : I32 y) : RK MX9_number 0 [.ref X, .int (zi s), .int (zi y), jk] [] (0, 0) (E, zg G, zk L, r) Q = Q (E, zg (u2 G X 5 (onS (decide (y < 1)) n s (ans (nAS (σ s.toNat) y))).1), zk L, r) (.int (zi (onS (decide (y < 1)) n s (ans (nAS (σ s.toNat) y))).2)) := by
  obtain ⟨x0, ⟨x1, x2, x3, x4, x5⟩, -⟩ := hx.1
  unfold onS
  by_cases c1 : y < 1
  · rw [if_pos (decide_eq_true c1)]
    simp (disch := first | assumption | exact c2_int _ | exact c2_ref _ | exact c2_jk | exact c2_null | omega | (apply rN1; assumption) | (apply rN2; assumption) | (apply rN3; assumption) | (apply rN4; assumption) | exact bI_r _ | exact bI_01 _) only [↓fX9_number_0, ↓fX9_number_1, ↓fX9_number_2, ↓fX9_number_5, ↓fX9_number_6, ↓fX9_number_7, ↓fX9_number_10, ↓fX9_number_11, ↓fX9_number_12, ↓fX9_number_15, ↓fX9_number_16, ↓fX9_number_19, ↓fX9_number_19n, ↓fX9_number_20, ↓fX9_number_20n, ↓fX9_number_21, ↓fX9_number_21r, ↓fX9_number_24, ↓fX9_number_25, ↓fX9_number_26, ↓fX9_number_29, ↓fX9_number_30, ↓fX9_number_31, ↓fX9_number_31n, ↓fX9_number_32, ↓fX9_number_33, ↓fX9_number_36, ↓fX9_number_39, ↓c9_fail, c1, and_self, true_and, and_true, false_and, and_false, not_true_eq_false, not_false_eq_true, or_self, true_or, or_true, false_or, or_false, ite_not, Decidable.not_not, decide_eq_true_eq, Bool.not_true, Bool.not_false, Bool.false_eq_true, Bool.not_eq_true, n10, n20, n21, n30, n31, n32, n40, n41, n42, n43, ↓reduceIte]
  · rw [if_neg (by simpa using c1)]
    have c1' : 1 ≤ y := by omega
    have h0 := hx.2.1.1.1
    by_cases c2 : 0 ≤ s ∧ s < n
    · rw [if_pos c2]
      obtain ⟨S, hS, hR, hW, hd, e1⟩ := HXS_some (L := L) hx c2
      have s0 := hS.1
      have hg := hR.1
      have e2 : ∀ Q, RK MX7_numberAt 0 [.ref S, .int (zi y)] [] (0, 0) (E, zg G, zk L, r) Q = Q (E, zg G, zk L, r) (.int (zi (nAS (σ s.toNat) y))) := fun Q => by
        rw [c7_numberAt hS hg hy, RS_nA hR hW]
      have e3 : I32 (nAS (σ s.toNat) y) := by
        rw [← RS_nA hR hW]
        exact rN1 hg
      simp (disch := first | assumption | exact c2_int _ | exact c2_ref _ | exact c2_jk | exact c2_null | omega | (apply rN1; assumption) | (apply rN2; assumption) | (apply rN3; assumption) | (apply rN4; assumption) | exact bI_r _ | exact bI_01 _) only [↓fX9_number_0, ↓fX9_number_1, ↓fX9_number_2, ↓fX9_number_5, ↓fX9_number_6, ↓fX9_number_7, ↓fX9_number_10, ↓fX9_number_11, ↓fX9_number_12, ↓fX9_number_15, ↓fX9_number_16, ↓fX9_number_19, ↓fX9_number_19n, ↓fX9_number_20, ↓fX9_number_20n, ↓fX9_number_21, ↓fX9_number_21r, ↓fX9_number_24, ↓fX9_number_25, ↓fX9_number_26, ↓fX9_number_29, ↓fX9_number_30, ↓fX9_number_31, ↓fX9_number_31n, ↓fX9_number_32, ↓fX9_number_33, ↓fX9_number_36, ↓fX9_number_39, ↓e1, ↓e2, ↓c9_answer, c1, c1', and_self, true_and, and_true, false_and, and_false, not_true_eq_false, not_false_eq_true, or_self, true_or, or_true, false_or, or_false, ite_not, Decidable.not_not, decide_eq_true_eq, Bool.not_true, Bool.not_false, Bool.false_eq_true, Bool.not_eq_true, n10, n20, n21, n30, n31, n32, n40, n41, n42, n43, ↓reduceIte]
      rfl
    · rw [if_neg c2]
      have e1 := HXS_none (L := L) hx hs c2
      simp (disch := first | assumption | exact c2_int _ | exact c2_ref _ | exact c2_jk | exact c2_null | omega | (apply rN1; assumption) | (apply rN2; assumption) | (apply rN3; assumption) | (apply rN4; assumption) | exact bI_r _ | exact bI_01 _) only [↓fX9_number_0, ↓fX9_number_1, ↓fX9_number_2, ↓fX9_number_5, ↓fX9_number_6, ↓fX9_number_7, ↓fX9_number_10, ↓fX9_number_11, ↓fX9_number_12, ↓fX9_number_15, ↓fX9_number_16, ↓fX9_number_19, ↓fX9_number_19n, ↓fX9_number_20, ↓fX9_number_20n, ↓fX9_number_21, ↓fX9_number_21r, ↓fX9_number_24, ↓fX9_number_25, ↓fX9_number_26, ↓fX9_number_29, ↓fX9_number_30, ↓fX9_number_31, ↓fX9_number_31n, ↓fX9_number_32, ↓fX9_number_33, ↓fX9_number_36, ↓fX9_number_39, ↓e1, ↓c9_fail, c1, c1', and_self, true_and, and_true, false_and, and_false, not_true_eq_false, not_false_eq_true, or_self, true_or, or_true, false_or, or_false, ite_not, Decidable.not_not, decide_eq_true_eq, Bool.not_true, Bool.not_false, Bool.false_eq_true, Bool.not_eq_true, n10, n20, n21, n30, n31, n32, n40, n41, n42, n43, ↓reduceIte]
/-- the address of a sieve -/
def svA (X : Nat) (p : Nat → Nat) (s : Int) : Nat := X + 43 + 6 * p s.toNat
theorem HXS_sv (hx : HXS E r G X p q n σ a kk nn τ) (c : 0 ≤ s ∧ s < n) : shS E r (svA X p s) ∧ RS G (svA X p s) (σ s.toNat) ∧ WF (σ s.toNat) ∧ ∀ Q, RK MX6_sieveAt 0 [.ref (X + 37), .int (zi s)] [] (0, 0) (E, zg G, zk L, r) Q = Q (E, zg G, zk L, r) (.ref (svA X p s)) := by
  have n1 := hx.2.1.2.2.2.1
  have hp := (hx.2.1.2.1.1 s.toNat (by omega)).2
  have hr := hx.2.1.2.2.2.2.2.1 s.toNat (by omega)
  refine ⟨hx.2.1.1.2.2.2.2.1 _ hp, hr.1, hr.2, fun Q => ?_⟩
  rw [c6_sieveAt hx.2.1.1 hx.2.1.2.1 (by omega) (by omega), if_pos (by omega)]
  rfl
theorem o_upTo (hx : HXS E r G X p q n σ a kk nn τ) (hs : I32 s) (hy : I32 y) : RK MX9_upTo 0 [.ref X, .int (zi s), .int (zi y), jk] [] (0, 0) (E, zg G, zk L, r) Q = Q (E, zg (u2 G X 5 (onS false n s (0, cuL (nA G (svA X p s)) (G (svA X p s) 13) y 600 0)).1), zk L, r) (.int (zi (onS false n s (0, cuL (nA G (svA X p s)) (G (svA X p s) 13) y 600 0)).2)) := by
  obtain ⟨x0, ⟨x1, x2, x3, x4, x5⟩, -⟩ := hx.1
  unfold onS
  rw [if_neg (by decide)]
  have h0 := hx.2.1.1.1
  by_cases c2 : 0 ≤ s ∧ s < n
  · rw [if_pos c2]
    obtain ⟨hS, hR, hW, e1⟩ := HXS_sv (L := L) hx c2
    have s0 := hS.1
    have e2 := fun Q => c7_countUpTo (L := L) (Q := Q) hS hR.1 hy
    simp (disch := first | assumption | exact c2_int _ | exact c2_ref _ | exact c2_jk | exact c2_null | omega | (apply rN1; assumption) | (apply rN2; assumption) | (apply rN3; assumption) | (apply rN4; assumption) | exact bI_r _ | exact bI_01 _) only [↓fX9_upTo_0, ↓fX9_upTo_1, ↓fX9_upTo_4, ↓fX9_upTo_5, ↓fX9_upTo_8, ↓fX9_upTo_8n, ↓fX9_upTo_9, ↓fX9_upTo_9n, ↓fX9_upTo_10, ↓fX9_upTo_10r, ↓fX9_upTo_13, ↓fX9_upTo_14, ↓fX9_upTo_15, ↓fX9_upTo_18, ↓fX9_upTo_19, ↓fX9_upTo_20, ↓fX9_upTo_20n, ↓fX9_upTo_21, ↓fX9_upTo_22, ↓fX9_upTo_25, ↓fX9_upTo_28, ↓e1, ↓e2, ↓c9_succeed, and_self, true_and, and_true, false_and, and_false, not_true_eq_false, not_false_eq_true, or_self, true_or, or_true, false_or, or_false, ite_not, Decidable.not_not, decide_eq_true_eq, Bool.not_true, Bool.not_false, Bool.false_eq_true, Bool.not_eq_true, n10, n20, n21, n30, n31, n32, n40, n41, n42, n43, ↓reduceIte]
  · rw [if_neg c2]
    have e1 := HXS_none (L := L) hx hs c2
    simp (disch := first | assumption | exact c2_int _ | exact c2_ref _ | exact c2_jk | exact c2_null | omega | (apply rN1; assumption) | (apply rN2; assumption) | (apply rN3; assumption) | (apply rN4; assumption) | exact bI_r _ | exact bI_01 _) only [↓fX9_upTo_0, ↓fX9_upTo_1, ↓fX9_upTo_4, ↓fX9_upTo_5, ↓fX9_upTo_8, ↓fX9_upTo_8n, ↓fX9_upTo_9, ↓fX9_upTo_9n, ↓fX9_upTo_10, ↓fX9_upTo_10r, ↓fX9_upTo_13, ↓fX9_upTo_14, ↓fX9_upTo_15, ↓fX9_upTo_18, ↓fX9_upTo_19, ↓fX9_upTo_20, ↓fX9_upTo_20n, ↓fX9_upTo_21, ↓fX9_upTo_22, ↓fX9_upTo_25, ↓fX9_upTo_28, ↓e1, ↓c9_fail, and_self, true_and, and_true, false_and, and_false, not_true_eq_false, not_false_eq_true, or_self, true_or, or_true, false_or, or_false, ite_not, Decidable.not_not, decide_eq_true_eq, Bool.not_true, Bool.not_false, Bool.false_eq_true, Bool.not_eq_true, n10, n20, n21, n30, n31, n32, n40, n41, n42, n43, ↓reduceIte]
end BS
