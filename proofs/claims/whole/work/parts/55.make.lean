/-! make. -/
section BS
variable {E : AE} {G G' L : Nat → Nat → Int} {r r' : Nat → Nat → Option Nat} {h : AH} {Q : AH → Value → Prop} {X H S n a cl c : Nat} {v y s x d e b w k ki fr by_ ma : Int} {p q : Nat → Nat} {σ τ : Nat → Nat → Int} {kk nn : Nat → Int} {ln : Nat → Nat} {lv : Nat → Nat → Int}
theorem o_make (hx : HXS E r G X p q n σ a kk nn τ) (hr : HXR E G X cl ln lv) (h0 : 0 ≤ ki ∧ ki ≤ 3) (h1 : 0 ≤ fr ∧ fr ≤ 999) (h2 : 1 ≤ by_ ∧ by_ ≤ 99) (h3 : 2 ≤ ma ∧ ma ≤ 600) (hn : n < 4) :
    ∃ (G' : Nat → Nat → Int) (r' : Nat → Nat → Option Nat) (q' : Nat → Nat), HXS E r' G' X p q' (n + 1) (fun t => if t = n then nwS ki fr by_ ma 0 (fun _ => 0) else σ t) (kpA a) (kpN a kk 1) (kpN a nn n) (kpN a τ (σ n)) ∧ HXR E G' X cl ln lv ∧ G' X 5 = 0 ∧ (∀ x, x < X ∨ (X < x ∧ x < X + 37) ∨ X + 120 < x → G' x = G x) ∧ ∀ Q, RK MX9_make 0 [.ref X, .int (zi ki), .int (zi fr), .int (zi by_), .int (zi ma), jk] [] (0, 0) (E, zg G, zk L, r) Q = Q (E, zg G', zk L, r') (.int (zi (n : Int))) := by
  obtain ⟨x0, ⟨x1, x2, x3, x4, x5⟩, -⟩ := hx.1
  have hh0 := hx.2.1.1.1
  obtain ⟨G1, r1, q', f1, f2, f3, f4⟩ := c6_add (L := L) hx.2.1 hn
  have hp := (f1.2.1.1 n hn).2
  have hS := f1.1.2.2.2.2.1 (p n) hp
  have g1 : ∀ x, x ≠ X + 37 → u2 G1 (X + 37) 1 ((n : Int) + 1) x = G1 x := fun x hxx => u2_a _ _ _ _ hxx
  obtain ⟨G2, s1, k1, k2, k6, k3, k4, k5, e1⟩ := c7_set (L := L) (ki := ki) (fr := fr) (by_ := by_) (ma := ma) hS (rgS_c (fun x xa xb => g1 x (by omega)) (f1.2.2.2.2.1 n hn)) (by omega) h1 h2 h3
  have g2 : ∀ x, x ≠ X + 37 → ¬ (X + 37 + 6 + 6 * p n ≤ x ∧ x ≤ X + 37 + 6 + 6 * p n + 5) → G2 x = G1 x := fun x xa xb => (s1 x (by omega)).trans (g1 x xa)
  have eH : ∀ j, G2 (X + 37) j = if j = 1 then (n : Int) + 1 else G1 (X + 37) j := fun j => by
    rw [s1 (X + 37) (by omega)]
    show (if X + 37 = X + 37 ∧ j = 1 then _ else _) = _
    simp only [true_and]
  have hR : RS G2 (X + 37 + 6 + 6 * p n) (nwS ki fr by_ ma 0 (fun _ => 0)) := nwS_RS (K := G2) (lim := 0) k1 k2 k3 k4 k5 (fun _ _ _ => rfl) (fun _ _ => rfl) k1.2.2.2.2 (by omega) (k4.2.2.2.2.2.2.2.2.2.1) h3 (fun z => by omega) (fun z => by omega) (fun z => by omega)
  have hW : WF (nwS ki fr by_ ma 0 (fun _ => 0)) := nwS_WF (by omega) h1 h2 h3 (fun z => by omega) (fun z => by omega)
  have f5 := SHF_grow f1 hn g2 (by rw [eH, if_neg (by decide)]) (by rw [eH, if_pos rfl]) hR hW
  have fr2 : frH G G2 (X + 37) := f2.trans ⟨fun x hxx => g2 x (by omega) (by omega), by rw [eH, if_neg (by decide)]⟩
  have hx1 := HXS_f hx f5 fr2 f3
  have xx2 := hx1.1.2.1.2.1
  have s0 := hS.1
  have e3 : G2 (X + 37) 1 - 1 = (n : Int) := by
    rw [eH, if_pos rfl]
    omega
  refine ⟨u2 G2 X 5 0, r1, q', st_HXS hx1, st_HXR x0 (HXR_f hr fr2), u2_s _ _ _ _, fun x hxx => ?_, fun Q => ?_⟩
  · rw [u2_a _ _ _ _ (by omega), fr2.1 x (by omega)]
  · have z0 : (0 ≤ ki ∧ ki ≤ 3) = True := eq_true h0
    have z1 : (0 ≤ fr ∧ fr ≤ 999) = True := eq_true h1
    have z2 : (1 ≤ by_ ∧ by_ ≤ 99) = True := eq_true h2
    have z3 : (2 ≤ ma ∧ ma ≤ 600) = True := eq_true h3
    simp (disch := first | assumption | exact c2_int _ | exact c2_ref _ | exact c2_jk | exact c2_null | omega | (apply rN1; assumption) | (apply rN2; assumption) | (apply rN3; assumption) | (apply rN4; assumption) | exact bI_r _ | exact bI_01 _) only [↓fX9_make_0, ↓fX9_make_1, ↓fX9_make_2, ↓fX9_make_3, ↓fX9_make_6, ↓fX9_make_9, ↓fX9_make_10, ↓fX9_make_11, ↓fX9_make_14, ↓fX9_make_17, ↓fX9_make_20, ↓fX9_make_21, ↓fX9_make_22, ↓fX9_make_25, ↓fX9_make_26, ↓fX9_make_27, ↓fX9_make_28, ↓fX9_make_30, ↓fX9_make_33, ↓fX9_make_36, ↓fX9_make_38, ↓fX9_make_39, ↓fX9_make_42, ↓fX9_make_45, ↓fX9_make_48, ↓fX9_make_49, ↓fX9_make_50, ↓fX9_make_53, ↓fX9_make_54, ↓fX9_make_55, ↓fX9_make_58, ↓fX9_make_61, ↓fX9_make_61n, ↓fX9_make_63, ↓fX9_make_63n, ↓fX9_make_65, ↓fX9_make_65r, ↓fX9_make_68, ↓fX9_make_69, ↓fX9_make_70, ↓fX9_make_73, ↓fX9_make_74, ↓fX9_make_74n, ↓fX9_make_76, ↓fX9_make_77, ↓fX9_make_78, ↓fX9_make_79, ↓fX9_make_81, ↓fX9_make_84, ↓fX9_make_85, ↓fX9_make_86, ↓fX9_make_89, ↓fX9_make_92, ↓fX9_make_93, ↓fX9_make_94, ↓fX9_make_97, ↓c9_within, bI_0, z0, z1, z2, z3, ↓f4, ↓e1, ↓c9_succeed, e3, and_self, true_and, and_true, false_and, and_false, not_true_eq_false, not_false_eq_true, or_self, true_or, or_true, false_or, or_false, ite_not, Decidable.not_not, decide_eq_true_eq, Bool.not_true, Bool.not_false, Bool.false_eq_true, Bool.not_eq_true, n10, n20, n21, n30, n31, n32, n40, n41, n42, n43, ↓reduceIte]
end BS
