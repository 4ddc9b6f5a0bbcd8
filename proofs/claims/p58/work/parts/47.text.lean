/-! readText. -/
def rdText (B : Int → Int) (n : Int) : Nat → (Nat → Int) → (Nat → Int) → Nat → Nat → (Nat → Nat → Int) → (Nat → Nat) → (Nat → Nat → Int) → Int × Int × Int × Int → Except ER (Nat × Nat × (Nat → Nat → Int) × (Nat → Nat) × (Nat → Nat → Int))
  | 0, _, _, cs, cl, σ, ln, lv, _ => .ok (cs, cl, σ, ln, lv)
  | k + 1, f, g, cs, cl, σ, ln, lv, T => if T.1 = 1 then .ok (cs, cl, σ, ln, lv) else
    if isT B T (wdL 75) = true then (match rdSieve B n f g (cs + cl) cs T with
      | .error e => .error e
      | .ok (s, T') => rdText B n k (upN f (cs + cl) (nxT B n T.2.2.1).2.1) (upN g (cs + cl) (nxT B n T.2.2.1).2.2.1) (cs + 1) cl (fun t => if t = cs then s else σ t) ln lv T')
    else if isT B T (wdL 85) = true then (match rdList B n f g (cs + cl) cl T with
      | .error e => .error e
      | .ok (i, g', T') => rdText B n k (upN f (cs + cl) (nxT B n T.2.2.1).2.1) (upN g (cs + cl) (nxT B n T.2.2.1).2.2.1) cs (cl + 1) σ (fun t => if t = cl then i else ln t) (fun t => if t = cl then g' else lv t) T')
    else .error (unK T, T)
/-- what the reader holds: sieves, lists -/
def RH (G : Nat → Nat → Int) (D cs cl : Nat) (σ : Nat → Nat → Int) (ln : Nat → Nat) (lv : Nat → Nat → Int) : Prop := (G D 10 = cs ∧ cs ≤ 4) ∧ (G D 12 = cl ∧ cl ≤ 3) ∧ (∀ t, t < cs → RS G (D + 6 + 6 * t) (σ t) ∧ WF (σ t)) ∧ ∀ t, t < cl → G (D + 30 + 2 * t) 1 = ln t ∧ (1 ≤ ln t ∧ ln t ≤ 10) ∧ ∀ j, j < ln t → G (D + 30 + 2 * t + 1) j = lv t j ∧ 0 ≤ lv t j ∧ lv t j ≤ 9999
section BS
variable {E : AE} {G G' L : Nat → Nat → Int} {r : Nat → Nat → Option Nat} {h : AH} {Q : AH → Value → Prop} {D S a c l cl cs : Nat} {w : List Int} {i v x b u s e t n lo hi ki fr by_ ma cn : Int} {B : Int → Int} {T T' T4 : Int × Int × Int × Int} {g : Nat → Int}
theorem isT_w {w : List Int} (h : isT B T w = true) (hw : 1 ≤ w.length) : T.1 = 2 ∧ T.2.1 + 1 ≤ T.2.2.1 := by
  have := of_decide_eq_true h
  exact ⟨this.1, by have := this.2.1; omega⟩
theorem text_loop {nv : Value} (hnv : c2 nv = false) : ∀ (k : Nat) (line : Nat) (cs cl : Nat) (σ : Nat → Nat → Int) (ln : Nat → Nat) (lv : Nat → Nat → Int) (T : Int × Int × Int × Int) (G : Nat → Nat → Int), PS E r G D B n T → RW G D → RH G D cs cl σ ln lv → (∀ i, i < cs + cl → (0 ≤ G (D + 4) i ∧ G (D + 4) i ≤ 1000) ∧ (0 ≤ G (D + 5) i ∧ G (D + 5) i ≤ 1000)) → SE T → (line : Int) ≤ T.2.1 → n + 1 - T.2.1 ≤ k →
    (∃ cs' cl' σ' ln' lv' G', rdText B n k (G (D + 4)) (G (D + 5)) cs cl σ ln lv T = .ok (cs', cl', σ', ln', lv') ∧ RF G G' D ∧ RH G' D cs' cl' σ' ln' lv' ∧ (G' D 3 = G D 3 ∧ G' D 4 = G D 4) ∧ ∀ Q, RK MX5_readText 41 [.ref D, nv, .int (zi (line : Int))] [] (0, 0) (E, zg G, zk L, r) Q = Q (E, zg G', zk L, r) (.int (zi 1))) ∨
    (∃ (kf : Int) (T' : Int × Int × Int × Int) (H : Nat → Nat → Int), rdText B n k (G (D + 4)) (G (D + 5)) cs cl σ ln lv T = .error (kf, T') ∧ RF G H D ∧ ∀ Q, RK MX5_readText 41 [.ref D, nv, .int (zi (line : Int))] [] (0, 0) (E, zg G, zk L, r) Q = Q (E, zg (faG H D kf T'.2.1), zk L, r) (.int (zi 0))) := by
  intro k
  induction k with
  | zero =>
    intro line cs cl σ ln lv T G h hw hh hN hse h1 h2
    have := h.2.2.2.2.2.2.2.1
    omega
  | succ k ih =>
    intro line cs cl σ ln lv T G h hw hh hN hse h1 h2
    have h0 := h.1.1
    have hn := PS_n h
    have tr := h.2.2.2.2.2.2
    have e5 := h.2.2.2.2.2.1.1
    have e2 := h.2.2.2.2.1
    have hl1 : (line : Int) ≤ G D 2 := by
      have := tr.2.1
      omega
    have tr1 := tr.1
    have i1 := fun Q => PS_is (L := L) (Q := Q) h 75 (by decide)
    have i2 := fun Q => PS_is (L := L) (Q := Q) h 85 (by decide)
    obtain ⟨⟨hc1, hc2⟩, ⟨hc3, hc4⟩, hs, hls⟩ := id hh
    have tn := PS_nx h
    unfold rdText
    by_cases c1 : T.1 = 1
    · rw [if_pos c1]
      have c1' : G D 5 = 1 := by omega
      refine Or.inl ⟨cs, cl, σ, ln, lv, G, rfl, ⟨fun _ _ => rfl, rfl, rfl, rfl, hw⟩, hh, ⟨rfl, rfl⟩, fun Q => ?_⟩
      simp (disch := first | assumption | exact c2_int _ | exact c2_ref _ | exact c2_jk | exact c2_null | omega | (apply rN1; assumption) | (apply rN2; assumption) | (apply rN3; assumption) | (apply rN4; assumption) | exact bI_r _ | exact bI_01 _) only [↓fX5_readText_0, ↓fX5_readText_1, ↓fX5_readText_2, ↓fX5_readText_5, ↓fX5_readText_6, ↓fX5_readText_7, ↓fX5_readText_10, ↓fX5_readText_11, ↓fX5_readText_12, ↓fX5_readText_15, ↓fX5_readText_16, ↓fX5_readText_17, ↓fX5_readText_20, ↓fX5_readText_21, ↓fX5_readText_22, ↓fX5_readText_25, ↓fX5_readText_26, ↓fX5_readText_27, ↓fX5_readText_30, ↓fX5_readText_31, ↓fX5_readText_32, ↓fX5_readText_35, ↓fX5_readText_36, ↓fX5_readText_39, ↓fX5_readText_40, ↓fX5_readText_41, ↓fX5_readText_42, ↓fX5_readText_43, ↓fX5_readText_46, ↓fX5_readText_49, ↓fX5_readText_50, ↓fX5_readText_53, ↓fX5_readText_54, ↓fX5_readText_57, ↓fX5_readText_58, ↓fX5_readText_60, ↓fX5_readText_63, ↓fX5_readText_66, ↓fX5_readText_67, ↓fX5_readText_70, ↓fX5_readText_73, ↓fX5_readText_74, ↓fX5_readText_75, ↓fX5_readText_76, ↓fX5_readText_78, ↓fX5_readText_81, ↓fX5_readText_84, ↓fX5_readText_85, ↓fX5_readText_88, ↓fX5_readText_91, ↓fX5_readText_92, ↓fX5_readText_93, ↓fX5_readText_94, ↓fX5_readText_97, ↓fX5_readText_98, ↓fX5_readText_101, ↓fX5_readText_104, ↓fX5_readText_105, hl1, c1', and_self, true_and, and_true, false_and, and_false, not_true_eq_false, not_false_eq_true, or_self, true_or, or_true, false_or, or_false, ite_not, Decidable.not_not, decide_eq_true_eq, Bool.not_true, Bool.not_false, Bool.false_eq_true, Bool.not_eq_true, n10, n20, n21, n30, n31, n32, n40, n41, n42, n43, ↓reduceIte]
    · rw [if_neg c1]
      have c1' : ¬ G D 5 = 1 := by omega
      by_cases c2 : isT B T (wdL 75) = true
      · rw [if_pos c2]
        have w2 := isT_w c2 (by decide)
        rcases PS_sieve (L := L) (c := cs + cl) h hw hc1 (by omega) (by omega) hc2 hN with ⟨s, T', G', a1, a0, a2, a3, a4, a5, a6, a7, a8, a9, a10, a11, a12⟩ | ⟨kf, T', H, a1, a2, a3⟩
        · simp only [a1]
          have go := rdSieve_go a1
          have hh' : RH G' D (cs + 1) cl (fun t => if t = cs then s else σ t) ln lv := by
            refine ⟨⟨by omega, by omega⟩, ⟨by omega, hc4⟩, fun t ht => ?_, fun t ht => ?_⟩
            · by_cases z : t = cs
              · simp only [z, if_true]
                exact ⟨a10, a11⟩
              · simp only [z, if_false]
                exact ⟨RS_c (fun x x1 x2 => a9 x (by omega) (by omega)) (hs t (by omega)).1, (hs t (by omega)).2⟩
            · rw [a9 _ (by omega) (by omega), a9 _ (by omega) (by omega)]
              exact hls t ht
          have hN' : ∀ i, i < cs + 1 + cl → (0 ≤ G' (D + 4) i ∧ G' (D + 4) i ≤ 1000) ∧ (0 ≤ G' (D + 5) i ∧ G' (D + 5) i ≤ 1000) := fun i hi => by
            rw [a7, a8]
            unfold upN
            have t1 := tn.2.1
            have t2 := tn.2.2.1
            by_cases z : i = cs + cl
            · rw [if_pos z, if_pos z]
              omega
            · rw [if_neg z, if_neg z]
              exact hN i (by omega)
          have st : ∀ Q, RK MX5_readText 41 [.ref D, nv, .int (zi (line : Int))] [] (0, 0) (E, zg G, zk L, r) Q = RK MX5_readText 41 [.ref D, nv, .int (zi ((line + 1 : Nat) : Int))] [] (0, 0) (E, zg G', zk L, r) Q := fun Q => by
            rw [fX5_readText_41]
            simp (disch := first | assumption | exact c2_int _ | exact c2_ref _ | exact c2_jk | exact c2_null | omega | (apply rN1; assumption) | (apply rN2; assumption) | (apply rN3; assumption) | (apply rN4; assumption) | exact bI_r _ | exact bI_01 _) only [↓fX5_readText_0, ↓fX5_readText_1, ↓fX5_readText_2, ↓fX5_readText_5, ↓fX5_readText_6, ↓fX5_readText_7, ↓fX5_readText_10, ↓fX5_readText_11, ↓fX5_readText_12, ↓fX5_readText_15, ↓fX5_readText_16, ↓fX5_readText_17, ↓fX5_readText_20, ↓fX5_readText_21, ↓fX5_readText_22, ↓fX5_readText_25, ↓fX5_readText_26, ↓fX5_readText_27, ↓fX5_readText_30, ↓fX5_readText_31, ↓fX5_readText_32, ↓fX5_readText_35, ↓fX5_readText_36, ↓fX5_readText_39, ↓fX5_readText_40, ↓fX5_readText_42, ↓fX5_readText_43, ↓fX5_readText_46, ↓fX5_readText_49, ↓fX5_readText_50, ↓fX5_readText_53, ↓fX5_readText_54, ↓fX5_readText_57, ↓fX5_readText_58, ↓fX5_readText_60, ↓fX5_readText_63, ↓fX5_readText_66, ↓fX5_readText_67, ↓fX5_readText_70, ↓fX5_readText_73, ↓fX5_readText_74, ↓fX5_readText_75, ↓fX5_readText_76, ↓fX5_readText_78, ↓fX5_readText_81, ↓fX5_readText_84, ↓fX5_readText_85, ↓fX5_readText_88, ↓fX5_readText_91, ↓fX5_readText_92, ↓fX5_readText_93, ↓fX5_readText_94, ↓fX5_readText_97, ↓fX5_readText_98, ↓fX5_readText_101, ↓fX5_readText_104, ↓fX5_readText_105, ↓i1, ↓a12, bI_0, hl1, c1', c2, and_self, true_and, and_true, false_and, and_false, not_true_eq_false, not_false_eq_true, or_self, true_or, or_true, false_or, or_false, ite_not, Decidable.not_not, decide_eq_true_eq, Bool.not_true, Bool.not_false, Bool.false_eq_true, Bool.not_eq_true, n10, n20, n21, n30, n31, n32, n40, n41, n42, n43, ↓reduceIte]
            rfl
          rw [← a7, ← a8]
          rcases ih (line + 1) (cs + 1) cl (fun t => if t = cs then s else σ t) ln lv T' G' a2 a3.2.2.2.2 hh' hN' go.2 (by omega) (by omega) with ⟨cs', cl', σ', ln', lv', G'', b1, b2, b3, b4, b5⟩ | ⟨kf, T'', H, b1, b2, b3⟩
          · exact Or.inl ⟨cs', cl', σ', ln', lv', G'', b1, a3.trans b2, b3, ⟨b4.1.trans a6.1, b4.2.trans a6.2⟩, fun Q => (st Q).trans (b5 Q)⟩
          · exact Or.inr ⟨kf, T'', H, b1, a3.trans b2, fun Q => (st Q).trans (b3 Q)⟩
        · simp only [a1]
          refine Or.inr ⟨kf, T', H, rfl, a2, fun Q => ?_⟩
          simp (disch := first | assumption | exact c2_int _ | exact c2_ref _ | exact c2_jk | exact c2_null | omega | (apply rN1; assumption) | (apply rN2; assumption) | (apply rN3; assumption) | (apply rN4; assumption) | exact bI_r _ | exact bI_01 _) only [↓fX5_readText_0, ↓fX5_readText_1, ↓fX5_readText_2, ↓fX5_readText_5, ↓fX5_readText_6, ↓fX5_readText_7, ↓fX5_readText_10, ↓fX5_readText_11, ↓fX5_readText_12, ↓fX5_readText_15, ↓fX5_readText_16, ↓fX5_readText_17, ↓fX5_readText_20, ↓fX5_readText_21, ↓fX5_readText_22, ↓fX5_readText_25, ↓fX5_readText_26, ↓fX5_readText_27, ↓fX5_readText_30, ↓fX5_readText_31, ↓fX5_readText_32, ↓fX5_readText_35, ↓fX5_readText_36, ↓fX5_readText_39, ↓fX5_readText_40, ↓fX5_readText_41, ↓fX5_readText_42, ↓fX5_readText_43, ↓fX5_readText_46, ↓fX5_readText_49, ↓fX5_readText_50, ↓fX5_readText_53, ↓fX5_readText_54, ↓fX5_readText_57, ↓fX5_readText_58, ↓fX5_readText_60, ↓fX5_readText_63, ↓fX5_readText_66, ↓fX5_readText_67, ↓fX5_readText_70, ↓fX5_readText_73, ↓fX5_readText_74, ↓fX5_readText_75, ↓fX5_readText_76, ↓fX5_readText_78, ↓fX5_readText_81, ↓fX5_readText_84, ↓fX5_readText_85, ↓fX5_readText_88, ↓fX5_readText_91, ↓fX5_readText_92, ↓fX5_readText_93, ↓fX5_readText_94, ↓fX5_readText_97, ↓fX5_readText_98, ↓fX5_readText_101, ↓fX5_readText_104, ↓fX5_readText_105, ↓i1, ↓a3, bI_0, hl1, c1', c2, and_self, true_and, and_true, false_and, and_false, not_true_eq_false, not_false_eq_true, or_self, true_or, or_true, false_or, or_false, ite_not, Decidable.not_not, decide_eq_true_eq, Bool.not_true, Bool.not_false, Bool.false_eq_true, Bool.not_eq_true, n10, n20, n21, n30, n31, n32, n40, n41, n42, n43, ↓reduceIte]
      · rw [if_neg c2]
        by_cases c3 : isT B T (wdL 85) = true
        · rw [if_pos c3]
          have w2 := isT_w c3 (by decide)
          rcases PS_list (L := L) (c := cs + cl) h hw hc3 (by omega) (by omega) hc4 hN with ⟨i, g', T', G', a1, a0, ai, ag, a2, a3, a4, a5, a6, a7, a8, a9, a10, a11, a12⟩ | ⟨kf, T', H, a1, a2, a3⟩
          · simp only [a1]
            have go := rdList_go a1
            have hh' : RH G' D cs (cl + 1) σ (fun t => if t = cl then i else ln t) (fun t => if t = cl then g' else lv t) := by
              refine ⟨⟨by omega, hc2⟩, ⟨by omega, by omega⟩, fun t ht => ⟨RS_c (fun x x1 x2 => a9 x (by omega) (by omega) (by omega)) (hs t ht).1, (hs t ht).2⟩, fun t ht => ?_⟩
              by_cases z : t = cl
              · simp only [z, if_true]
                exact ⟨a10, ai, fun j hj => ⟨a11 j hj, ag j hj⟩⟩
              · simp only [z, if_false]
                rw [a9 _ (by omega) (by omega) (by omega), a9 _ (by omega) (by omega) (by omega)]
                exact hls t (by omega)
            have hN' : ∀ i, i < cs + (cl + 1) → (0 ≤ G' (D + 4) i ∧ G' (D + 4) i ≤ 1000) ∧ (0 ≤ G' (D + 5) i ∧ G' (D + 5) i ≤ 1000) := fun i hi => by
              rw [a7, a8]
              unfold upN
              have t1 := tn.2.1
              have t2 := tn.2.2.1
              by_cases z : i = cs + cl
              · rw [if_pos z, if_pos z]
                omega
              · rw [if_neg z, if_neg z]
                exact hN i (by omega)
            have st : ∀ Q, RK MX5_readText 41 [.ref D, nv, .int (zi (line : Int))] [] (0, 0) (E, zg G, zk L, r) Q = RK MX5_readText 41 [.ref D, nv, .int (zi ((line + 1 : Nat) : Int))] [] (0, 0) (E, zg G', zk L, r) Q := fun Q => by
              rw [fX5_readText_41]
              simp (disch := first | assumption | exact c2_int _ | exact c2_ref _ | exact c2_jk | exact c2_null | omega | (apply rN1; assumption) | (apply rN2; assumption) | (apply rN3; assumption) | (apply rN4; assumption) | exact bI_r _ | exact bI_01 _) only [↓fX5_readText_0, ↓fX5_readText_1, ↓fX5_readText_2, ↓fX5_readText_5, ↓fX5_readText_6, ↓fX5_readText_7, ↓fX5_readText_10, ↓fX5_readText_11, ↓fX5_readText_12, ↓fX5_readText_15, ↓fX5_readText_16, ↓fX5_readText_17, ↓fX5_readText_20, ↓fX5_readText_21, ↓fX5_readText_22, ↓fX5_readText_25, ↓fX5_readText_26, ↓fX5_readText_27, ↓fX5_readText_30, ↓fX5_readText_31, ↓fX5_readText_32, ↓fX5_readText_35, ↓fX5_readText_36, ↓fX5_readText_39, ↓fX5_readText_40, ↓fX5_readText_42, ↓fX5_readText_43, ↓fX5_readText_46, ↓fX5_readText_49, ↓fX5_readText_50, ↓fX5_readText_53, ↓fX5_readText_54, ↓fX5_readText_57, ↓fX5_readText_58, ↓fX5_readText_60, ↓fX5_readText_63, ↓fX5_readText_66, ↓fX5_readText_67, ↓fX5_readText_70, ↓fX5_readText_73, ↓fX5_readText_74, ↓fX5_readText_75, ↓fX5_readText_76, ↓fX5_readText_78, ↓fX5_readText_81, ↓fX5_readText_84, ↓fX5_readText_85, ↓fX5_readText_88, ↓fX5_readText_91, ↓fX5_readText_92, ↓fX5_readText_93, ↓fX5_readText_94, ↓fX5_readText_97, ↓fX5_readText_98, ↓fX5_readText_101, ↓fX5_readText_104, ↓fX5_readText_105, ↓i1, ↓i2, ↓a12, bI_0, hl1, c1', c2, c3, and_self, true_and, and_true, false_and, and_false, not_true_eq_false, not_false_eq_true, or_self, true_or, or_true, false_or, or_false, ite_not, Decidable.not_not, decide_eq_true_eq, Bool.not_true, Bool.not_false, Bool.false_eq_true, Bool.not_eq_true, n10, n20, n21, n30, n31, n32, n40, n41, n42, n43, ↓reduceIte]
              rfl
            rw [← a7, ← a8]
            rcases ih (line + 1) cs (cl + 1) σ (fun t => if t = cl then i else ln t) (fun t => if t = cl then g' else lv t) T' G' a2 a3.2.2.2.2 hh' hN' go.2 (by omega) (by omega) with ⟨cs', cl', σ', ln', lv', G'', b1, b2, b3, b4, b5⟩ | ⟨kf, T'', H, b1, b2, b3⟩
            · exact Or.inl ⟨cs', cl', σ', ln', lv', G'', b1, a3.trans b2, b3, ⟨b4.1.trans a6.1, b4.2.trans a6.2⟩, fun Q => (st Q).trans (b5 Q)⟩
            · exact Or.inr ⟨kf, T'', H, b1, a3.trans b2, fun Q => (st Q).trans (b3 Q)⟩
          · simp only [a1]
            refine Or.inr ⟨kf, T', H, rfl, a2, fun Q => ?_⟩
            simp (disch := first | assumption | exact c2_int _ | exact c2_ref _ | exact c2_jk | exact c2_null | omega | (apply rN1; assumption) | (apply rN2; assumption) | (apply rN3; assumption) | (apply rN4; assumption) | exact bI_r _ | exact bI_01 _) only [↓fX5_readText_0, ↓fX5_readText_1, ↓fX5_readText_2, ↓fX5_readText_5, ↓fX5_readText_6, ↓fX5_readText_7, ↓fX5_readText_10, ↓fX5_readText_11, ↓fX5_readText_12, ↓fX5_readText_15, ↓fX5_readText_16, ↓fX5_readText_17, ↓fX5_readText_20, ↓fX5_readText_21, ↓fX5_readText_22, ↓fX5_readText_25, ↓fX5_readText_26, ↓fX5_readText_27, ↓fX5_readText_30, ↓fX5_readText_31, ↓fX5_readText_32, ↓fX5_readText_35, ↓fX5_readText_36, ↓fX5_readText_39, ↓fX5_readText_40, ↓fX5_readText_41, ↓fX5_readText_42, ↓fX5_readText_43, ↓fX5_readText_46, ↓fX5_readText_49, ↓fX5_readText_50, ↓fX5_readText_53, ↓fX5_readText_54, ↓fX5_readText_57, ↓fX5_readText_58, ↓fX5_readText_60, ↓fX5_readText_63, ↓fX5_readText_66, ↓fX5_readText_67, ↓fX5_readText_70, ↓fX5_readText_73, ↓fX5_readText_74, ↓fX5_readText_75, ↓fX5_readText_76, ↓fX5_readText_78, ↓fX5_readText_81, ↓fX5_readText_84, ↓fX5_readText_85, ↓fX5_readText_88, ↓fX5_readText_91, ↓fX5_readText_92, ↓fX5_readText_93, ↓fX5_readText_94, ↓fX5_readText_97, ↓fX5_readText_98, ↓fX5_readText_101, ↓fX5_readText_104, ↓fX5_readText_105, ↓i1, ↓i2, ↓a3, bI_0, hl1, c1', c2, c3, and_self, true_and, and_true, false_and, and_false, not_true_eq_false, not_false_eq_true, or_self, true_or, or_true, false_or, or_false, ite_not, Decidable.not_not, decide_eq_true_eq, Bool.not_true, Bool.not_false, Bool.false_eq_true, Bool.not_eq_true, n10, n20, n21, n30, n31, n32, n40, n41, n42, n43, ↓reduceIte]
        · rw [if_neg c3]
          refine Or.inr ⟨unK T, T, G, rfl, ⟨fun _ _ => rfl, rfl, rfl, rfl, hw⟩, fun Q => ?_⟩
          simp (disch := first | assumption | exact c2_int _ | exact c2_ref _ | exact c2_jk | exact c2_null | omega | (apply rN1; assumption) | (apply rN2; assumption) | (apply rN3; assumption) | (apply rN4; assumption) | exact bI_r _ | exact bI_01 _) only [↓fX5_readText_0, ↓fX5_readText_1, ↓fX5_readText_2, ↓fX5_readText_5, ↓fX5_readText_6, ↓fX5_readText_7, ↓fX5_readText_10, ↓fX5_readText_11, ↓fX5_readText_12, ↓fX5_readText_15, ↓fX5_readText_16, ↓fX5_readText_17, ↓fX5_readText_20, ↓fX5_readText_21, ↓fX5_readText_22, ↓fX5_readText_25, ↓fX5_readText_26, ↓fX5_readText_27, ↓fX5_readText_30, ↓fX5_readText_31, ↓fX5_readText_32, ↓fX5_readText_35, ↓fX5_readText_36, ↓fX5_readText_39, ↓fX5_readText_40, ↓fX5_readText_41, ↓fX5_readText_42, ↓fX5_readText_43, ↓fX5_readText_46, ↓fX5_readText_49, ↓fX5_readText_50, ↓fX5_readText_53, ↓fX5_readText_54, ↓fX5_readText_57, ↓fX5_readText_58, ↓fX5_readText_60, ↓fX5_readText_63, ↓fX5_readText_66, ↓fX5_readText_67, ↓fX5_readText_70, ↓fX5_readText_73, ↓fX5_readText_74, ↓fX5_readText_75, ↓fX5_readText_76, ↓fX5_readText_78, ↓fX5_readText_81, ↓fX5_readText_84, ↓fX5_readText_85, ↓fX5_readText_88, ↓fX5_readText_91, ↓fX5_readText_92, ↓fX5_readText_93, ↓fX5_readText_94, ↓fX5_readText_97, ↓fX5_readText_98, ↓fX5_readText_101, ↓fX5_readText_104, ↓fX5_readText_105, ↓i1, ↓i2, ↓PS_unexpected h, bI_0, hl1, c1', c2, c3, and_self, true_and, and_true, false_and, and_false, not_true_eq_false, not_false_eq_true, or_self, true_or, or_true, false_or, or_false, ite_not, Decidable.not_not, decide_eq_true_eq, Bool.not_true, Bool.not_false, Bool.false_eq_true, Bool.not_eq_true, n10, n20, n21, n30, n31, n32, n40, n41, n42, n43, ↓reduceIte]
theorem PS_mk (hD : shD E r D) (hg : rgB G D) (hk : kStr E G D) (h2 : G D 2 = n) (ht : TR n T) : PS E r (seT G D T) D (bD G D) n T := by
  refine ⟨hD, rgB_f hg, kStr_c hk fun x hx _ => by rw [seT, fD_q (by omega)], fD_b, (fD_j (by omega)).trans h2, ⟨fD_5, fD_6, fD_7, fD_8⟩, ht⟩
/-- the reader made ready for a text of n bytes -/
def rtG (G : Nat → Nat → Int) (D : Nat) (n : Int) : Nat → Nat → Int := u2 (u2 (u2 (u2 (u2 (u2 (u2 G D 2 n) D 1 0) D 3 0) D 4 (-1)) D 10 0) D 12 0) D 7 0
def tpB (G : Nat → Nat → Int) (D : Nat) (n : Int) (i : Int) : Int := if 0 ≤ i ∧ i < n ∧ i < 600 then G (D + 1) i.toNat else -1
theorem rtG_j (j : Nat) : rtG G D n D j = if j = 7 then 0 else if j = 12 then 0 else if j = 10 then 0 else if j = 4 then -1 else if j = 3 then 0 else if j = 1 then 0 else if j = 2 then n else G D j := by
  unfold rtG u2
  simp only [true_and]
theorem rtG_q {q : Nat} (h : q ≠ D) : rtG G D n q = G q := by
  unfold rtG
  rw [u2_a _ _ _ _ h, u2_a _ _ _ _ h, u2_a _ _ _ _ h, u2_a _ _ _ _ h, u2_a _ _ _ _ h, u2_a _ _ _ _ h, u2_a _ _ _ _ h]
def rdAll (B : Int → Int) (n : Int) (f g : Nat → Int) : Except ER (Nat × Nat × (Nat → Nat → Int) × (Nat → Nat) × (Nat → Nat → Int)) := rdText B n 602 f g 0 0 (fun _ _ => 0) (fun _ => 0) (fun _ _ => 0) (nxT B n 0)
theorem c5_readText (hD : shD E r D) (hk : kStr E G D) (htp : ∀ i, 0 ≤ G (D + 1) i ∧ G (D + 1) i ≤ 255) (hn : 0 ≤ n ∧ n ≤ 600) (hw : RW G D) :
    (∃ cs cl σ ln lv G', rdAll (tpB G D n) n (G (D + 4)) (G (D + 5)) = .ok (cs, cl, σ, ln, lv) ∧ (∀ x, x < D ∨ D + 35 < x → G' x = G x) ∧ G' (D + 1) = G (D + 1) ∧ G' D 1 = 0 ∧ G' D 3 = 0 ∧ G' D 4 = -1 ∧ RW G' D ∧ RH G' D cs cl σ ln lv ∧ ∀ Q, RK MX5_readText 0 [.ref D, .int (zi n), jk] [] (0, 0) (E, zg G, zk L, r) Q = Q (E, zg G', zk L, r) (.int (zi 1))) ∨
    (∃ (kf : Int) (T' : Int × Int × Int × Int) (G' : Nat → Nat → Int), rdAll (tpB G D n) n (G (D + 4)) (G (D + 5)) = .error (kf, T') ∧ (∀ x, x < D ∨ D + 35 < x → G' x = G x) ∧ G' (D + 1) = G (D + 1) ∧ G' D 1 = 0 ∧ G' D 3 = kf ∧ G' D 4 = T'.2.1 ∧ RW G' D ∧ ∀ Q, RK MX5_readText 0 [.ref D, .int (zi n), jk] [] (0, 0) (E, zg G, zk L, r) Q = Q (E, zg G', zk L, r) (.int (zi 0))) := by
  have h0 := hD.1
  have j2 : rtG G D n D 2 = n := by rw [rtG_j]; rfl
  have j7 : rtG G D n D 7 = 0 := by rw [rtG_j]; rfl
  have hg : rgB (rtG G D n) D := by
    unfold rgB
    rw [j2, rtG_q (by omega)]
    exact ⟨hn, htp⟩
  have hb : bD (rtG G D n) D = tpB G D n := by
    funext i
    unfold bD tpB
    rw [j2, rtG_q (by omega)]
  have hk' : kStr E (rtG G D n) D := kStr_c hk fun x hx _ => rtG_q (by omega)
  have t1 := nxT_TR (e := 0) hg (by rw [j2]; omega)
  rw [hb, j2] at t1
  have ps := PS_mk hD hg hk' j2 t1
  rw [hb] at ps
  have lk : ∀ Q, RK MX5_look 0 [.ref D, jk] [] (0, 0) (E, zg (rtG G D n), zk L, r) Q = Q (E, zg (seT (rtG G D n) D (nxT (tpB G D n) n 0)), zk L, r) .null := fun Q => by
    rw [c5_look hD hg (by rw [j7]; omega), ← hb]
    show Q (E, zg (lkG (rtG G D n) D), zk L, r) .null = _
    unfold lkG
    rw [j2, j7]
    rfl
  have w0 : RW (rtG G D n) D := RW_c hw fun x hx => rtG_q (by omega)
  have w1 : RF (rtG G D n) (seT (rtG G D n) D (nxT (tpB G D n) n 0)) D := RF_se w0
  have jj : ∀ j, j < 5 ∨ 8 < j → seT (rtG G D n) D (nxT (tpB G D n) n 0) D j = rtG G D n D j := fun j hj => seT_j hj
  have hh : RH (seT (rtG G D n) D (nxT (tpB G D n) n 0)) D 0 0 (fun _ _ => 0) (fun _ => 0) (fun _ _ => 0) := by
    refine ⟨⟨?_, by omega⟩, ⟨?_, by omega⟩, fun t ht => absurd ht (by omega), fun t ht => absurd ht (by omega)⟩
    · rw [jj 10 (by omega), rtG_j]
      rfl
    · rw [jj 12 (by omega), rtG_j]
      rfl
  have go := nxT_go (tpB G D n) n 0
  have q4 : seT (rtG G D n) D (nxT (tpB G D n) n 0) (D + 4) = G (D + 4) := (seT_q (by omega)).trans (rtG_q (by omega))
  have q5 : seT (rtG G D n) D (nxT (tpB G D n) n 0) (D + 5) = G (D + 5) := (seT_q (by omega)).trans (rtG_q (by omega))
  have st : ∀ Q, RK MX5_readText 0 [.ref D, .int (zi n), jk] [] (0, 0) (E, zg G, zk L, r) Q = RK MX5_readText 41 [.ref D, .int (zi n), .int (zi ((0 : Nat) : Int))] [] (0, 0) (E, zg (seT (rtG G D n) D (nxT (tpB G D n) n 0)), zk L, r) Q := fun Q => by
    have lk' : ∀ Q, RK MX5_look 0 [.ref D, jk] [] (0, 0) (E, zg (u2 (u2 (u2 (u2 (u2 (u2 (u2 G D 2 n) D 1 0) D 3 0) D 4 (-1)) D 10 0) D 12 0) D 7 0), zk L, r) Q = Q (E, zg (seT (rtG G D n) D (nxT (tpB G D n) n 0)), zk L, r) .null := lk
    simp (disch := first | assumption | exact c2_int _ | exact c2_ref _ | exact c2_jk | exact c2_null | omega | (apply rN1; assumption) | (apply rN2; assumption) | (apply rN3; assumption) | (apply rN4; assumption) | exact bI_r _ | exact bI_01 _) only [↓fX5_readText_0, ↓fX5_readText_1, ↓fX5_readText_2, ↓fX5_readText_5, ↓fX5_readText_6, ↓fX5_readText_7, ↓fX5_readText_10, ↓fX5_readText_11, ↓fX5_readText_12, ↓fX5_readText_15, ↓fX5_readText_16, ↓fX5_readText_17, ↓fX5_readText_20, ↓fX5_readText_21, ↓fX5_readText_22, ↓fX5_readText_25, ↓fX5_readText_26, ↓fX5_readText_27, ↓fX5_readText_30, ↓fX5_readText_31, ↓fX5_readText_32, ↓fX5_readText_35, ↓fX5_readText_36, ↓fX5_readText_39, ↓fX5_readText_40, ↓fX5_readText_42, ↓fX5_readText_43, ↓fX5_readText_46, ↓fX5_readText_49, ↓fX5_readText_50, ↓fX5_readText_53, ↓fX5_readText_54, ↓fX5_readText_57, ↓fX5_readText_58, ↓fX5_readText_60, ↓fX5_readText_63, ↓fX5_readText_66, ↓fX5_readText_67, ↓fX5_readText_70, ↓fX5_readText_73, ↓fX5_readText_74, ↓fX5_readText_75, ↓fX5_readText_76, ↓fX5_readText_78, ↓fX5_readText_81, ↓fX5_readText_84, ↓fX5_readText_85, ↓fX5_readText_88, ↓fX5_readText_91, ↓fX5_readText_92, ↓fX5_readText_93, ↓fX5_readText_94, ↓fX5_readText_97, ↓fX5_readText_98, ↓fX5_readText_101, ↓fX5_readText_104, ↓fX5_readText_105, ↓lk', and_self, true_and, and_true, false_and, and_false, not_true_eq_false, not_false_eq_true, or_self, true_or, or_true, false_or, or_false, ite_not, Decidable.not_not, decide_eq_true_eq, Bool.not_true, Bool.not_false, Bool.false_eq_true, Bool.not_eq_true, n10, n20, n21, n30, n31, n32, n40, n41, n42, n43, ↓reduceIte]
    rfl
  unfold rdAll
  have lp := text_loop (L := L) (c2_int (zi n)) 602 0 0 0 (fun _ _ => 0) (fun _ => 0) (fun _ _ => 0) (nxT (tpB G D n) n 0) _ ps w1.2.2.2.2 hh (fun i hi => absurd hi (by omega)) go.2 (by have := go.1; omega) (by have := go.1; omega)
  rw [q4, q5] at lp
  have fr : ∀ x, x < D ∨ D + 35 < x → seT (rtG G D n) D (nxT (tpB G D n) n 0) x = G x := fun x hx => (seT_q (by omega)).trans (rtG_q (by omega))
  have f1 : seT (rtG G D n) D (nxT (tpB G D n) n 0) (D + 1) = G (D + 1) := (seT_q (by omega)).trans (rtG_q (by omega))
  have g1 : seT (rtG G D n) D (nxT (tpB G D n) n 0) D 1 = 0 := by rw [jj 1 (by omega), rtG_j]; rfl
  have g3 : seT (rtG G D n) D (nxT (tpB G D n) n 0) D 3 = 0 := by rw [jj 3 (by omega), rtG_j]; rfl
  have g4 : seT (rtG G D n) D (nxT (tpB G D n) n 0) D 4 = -1 := by rw [jj 4 (by omega), rtG_j]; rfl
  rcases lp with ⟨cs, cl, σ, ln, lv, G', b1, b2, b3, b4, b5⟩ | ⟨kf, T', H, b1, b2, b3⟩
  · exact Or.inl ⟨cs, cl, σ, ln, lv, G', b1, fun x hx => (b2.1 x hx).trans (fr x hx), b2.2.1.trans f1, b2.2.2.1.trans g1, b4.1.trans g3, b4.2.trans g4, b2.2.2.2.2, b3, fun Q => (st Q).trans (b5 Q)⟩
  · refine Or.inr ⟨kf, T', faG H D kf T'.2.1, b1, fun x hx => ?_, ?_, ?_, ?_, ?_, ?_, fun Q => (st Q).trans (b3 Q)⟩
    · unfold faG
      rw [u2_a _ _ _ _ (by omega), u2_a _ _ _ _ (by omega), b2.1 x hx, fr x hx]
    · unfold faG
      rw [u2_a _ _ _ _ (by omega), u2_a _ _ _ _ (by omega), b2.2.1, f1]
    · unfold faG
      rw [u2_i _ _ _ _ (by decide), u2_i _ _ _ _ (by decide), b2.2.2.1, g1]
    · unfold faG
      rw [u2_i _ _ _ _ (by decide), u2_s]
    · exact u2_s _ _ _ _
    · exact RW_c b2.2.2.2.2 fun x hx => by
        unfold faG
        rw [u2_a _ _ _ _ (by omega), u2_a _ _ _ _ (by omega)]
end BS
