/-! print. -/
section BS
variable {E : AE} {G G' L : Nat → Nat → Int} {r r' : Nat → Nat → Option Nat} {h : AH} {Q : AH → Value → Prop} {X H S n a cl c : Nat} {v y s x d e b w k ki fr by_ ma : Int} {p q : Nat → Nat} {σ τ : Nat → Nat → Int} {kk nn : Nat → Int} {ln : Nat → Nat} {lv : Nat → Nat → Int}
theorem o_print0 (hx : HXS E r G X p q n σ a kk nn τ) (hs : I32 s) (c : ¬ (0 ≤ s ∧ s < n)) : RK MX9_print 0 [.ref X, .int (zi s), jk] [] (0, 0) (E, zg G, zk L, r) Q = Q (E, zg (u2 G X 5 2), zk L, r) (.int (zi (-1))) := by
  obtain ⟨x0, ⟨x1, x2, x3, x4, x5⟩, -⟩ := hx.1
  have h0 := hx.2.1.1.1
  have e1 := HXS_none (L := L) hx hs c
  simp (disch := first | assumption | exact c2_int _ | exact c2_ref _ | exact c2_jk | exact c2_null | omega | (apply rN1; assumption) | (apply rN2; assumption) | (apply rN3; assumption) | (apply rN4; assumption) | exact bI_r _ | exact bI_01 _) only [↓fX9_print_0, ↓fX9_print_1, ↓fX9_print_4, ↓fX9_print_5, ↓fX9_print_8, ↓fX9_print_8n, ↓fX9_print_9, ↓fX9_print_9n, ↓fX9_print_10, ↓fX9_print_10r, ↓fX9_print_13, ↓fX9_print_14, ↓fX9_print_15, ↓fX9_print_18, ↓fX9_print_19, ↓fX9_print_20, ↓fX9_print_23, ↓fX9_print_23n, ↓fX9_print_24, ↓fX9_print_27, ↓fX9_print_28, ↓fX9_print_29, ↓fX9_print_32, ↓fX9_print_35, ↓fX9_print_38, ↓e1, ↓c9_fail, and_self, true_and, and_true, false_and, and_false, not_true_eq_false, not_false_eq_true, or_self, true_or, or_true, false_or, or_false, ite_not, Decidable.not_not, decide_eq_true_eq, Bool.not_true, Bool.not_false, Bool.false_eq_true, Bool.not_eq_true, n10, n20, n21, n30, n31, n32, n40, n41, n42, n43, ↓reduceIte]
theorem o_print (hx : HXS E r G X p q n σ a kk nn τ) (c : 0 ≤ s ∧ s < n) :
    RK MX9_print 0 [.ref X, .int (zi s), jk] [] (0, 0) (E, zg G, zk L, r) Q = Q (E, zg (u2 (wrL (u2 G (X + 121) 1 0) (X + 121) 1 (X + 121 + 1) 3600 (pwC G (svA X p s))) X 5 0), zk L, r) (.int (zi ((pwC G (svA X p s)).length : Int))) := by
  obtain ⟨x0, ⟨x1, x2, x3, x4, x5⟩, xD, xP, xS, xT⟩ := hx.1
  have h0 := hx.2.1.1.1
  obtain ⟨hS, hR, hW, e1⟩ := HXS_sv (L := L) hx c
  have s0 := hS.1
  have p0 := xP.1
  have hnn := hx.2.1.2.2.2.1.2
  have hps := (hx.2.1.2.1.1 s.toNat (by omega)).2
  have e2 := fun Q => c4_write (L := L) (Q := Q) hS xP (by unfold svA; omega) hR.1 (fun j j1 j2 => by
    have := nA_0 hR.1 (p := j) ⟨j1, j2⟩
    omega)
  have e3 : wrL (u2 G (X + 121) 1 0) (X + 121) 1 (X + 121 + 1) 3600 (pwC G (svA X p s)) (X + 121) 1 = ((pwC G (svA X p s)).length : Int) := by
    rw [wrL_n, u2_s, Int.zero_add]
  simp (disch := first | assumption | exact c2_int _ | exact c2_ref _ | exact c2_jk | exact c2_null | omega | (apply rN1; assumption) | (apply rN2; assumption) | (apply rN3; assumption) | (apply rN4; assumption) | exact bI_r _ | exact bI_01 _) only [↓fX9_print_0, ↓fX9_print_1, ↓fX9_print_4, ↓fX9_print_5, ↓fX9_print_8, ↓fX9_print_8n, ↓fX9_print_9, ↓fX9_print_9n, ↓fX9_print_10, ↓fX9_print_10r, ↓fX9_print_13, ↓fX9_print_14, ↓fX9_print_15, ↓fX9_print_18, ↓fX9_print_19, ↓fX9_print_20, ↓fX9_print_23, ↓fX9_print_23n, ↓fX9_print_24, ↓fX9_print_27, ↓fX9_print_28, ↓fX9_print_29, ↓fX9_print_32, ↓fX9_print_35, ↓fX9_print_38, ↓e1, ↓e2, ↓c9_succeed, e3, and_self, true_and, and_true, false_and, and_false, not_true_eq_false, not_false_eq_true, or_self, true_or, or_true, false_or, or_false, ite_not, Decidable.not_not, decide_eq_true_eq, Bool.not_true, Bool.not_false, Bool.false_eq_true, Bool.not_eq_true, n10, n20, n21, n30, n31, n32, n40, n41, n42, n43, ↓reduceIte]
end BS
