/-! readTold. -/
def upN (g : Nat → Int) (i : Nat) (v : Int) : Nat → Int := fun j => if j = i then v else g j
def rdTL (B : Int → Int) (n : Int) : Nat → Nat → (Nat → Int) → Int × Int × Int × Int → Except ER (Nat × (Nat → Int) × Int × Int × Int × Int)
  | 0, i, g, T => .ok (i, g, T)
  | k + 1, i, g, T => if 0 < i ∧ ¬ T.1 = 3 then .ok (i, g, T) else if i = 12 then .error (if 2 ≤ T.2.2.2 ∧ T.2.2.2 ≤ 999 then 5 else 3, T) else
    match rdNum B n 2 999 T with
    | .error e => .error e
    | .ok (v, T1) => rdTL B n k (i + 1) (upN g i v) T1
def tlG (G : Nat → Nat → Int) (S i : Nat) (g : Nat → Int) : Nat → Nat → Int := fun a j => if a = S + 1 ∧ j < i then g j else if a = S ∧ j = 4 ∧ 0 < i then i else G a j
section BS
variable {E : AE} {G G' L : Nat → Nat → Int} {r : Nat → Nat → Option Nat} {h : AH} {Q : AH → Value → Prop} {D S a c : Nat} {w : List Int} {i v x b u s e t n lo hi : Int} {B : Int → Int} {T T' : Int × Int × Int × Int}
theorem tlG_0 {g : Nat → Int} : tlG G S 0 g = G := by
  funext a j
  unfold tlG
  rw [if_neg (by omega), if_neg (by omega)]
theorem tlG_q {q i : Nat} {g : Nat → Int} (h : q ≠ S) (h2 : q ≠ S + 1) : tlG G S i g q = G q := by
  funext j
  unfold tlG
  rw [if_neg (by omega), if_neg (by omega)]
theorem tlG_up {i : Nat} {g : Nat → Int} {v : Int} : u2 (u2 (tlG G S i g) (S + 1) i v) S 4 ((i : Int) + 1) = tlG G S (i + 1) (upN g i v) := by
  funext a j
  simp only [u2, tlG, upN]
  by_cases h1 : a = S
  · subst h1
    by_cases h4 : j = 4
    · rw [if_pos ⟨rfl, h4⟩, if_neg (by omega), if_pos ⟨rfl, h4, by omega⟩]
      rfl
    · rw [if_neg (by omega), if_neg (by omega), if_neg (by omega), if_neg (by omega), if_neg (by omega), if_neg (by omega)]
  · by_cases h2 : a = S + 1
    · subst h2
      rw [if_neg (by omega)]
      by_cases h3 : j = i
      · rw [if_pos ⟨rfl, h3⟩, if_pos ⟨rfl, by omega⟩, if_pos h3]
      · rw [if_neg (by omega), if_neg h3]
        by_cases h5 : j < i
        · rw [if_pos ⟨rfl, h5⟩, if_pos ⟨rfl, by omega⟩]
        · rw [if_neg (by omega), if_neg (by omega), if_neg (by omega), if_neg (by omega)]
    · rw [if_neg (by omega), if_neg (by omega), if_neg (by omega), if_neg (by omega), if_neg (by omega), if_neg (by omega)]
theorem seT_tlG {i : Nat} {g : Nat → Int} (hS : D + 1 < S) : seT (tlG G S i g) D T = tlG (seT G D T) S i g := by
  funext a j
  by_cases h1 : a = D
  · subst h1
    rw [tlG_q (by omega) (by omega)]
    simp only [seT, fD, if_true]
    rw [tlG_q (by omega) (by omega)]
  · rw [seT_q h1]
    simp only [tlG, seT_q h1]
theorem PS_tl {i : Nat} {g : Nat → Int} (hS : D + 5 < S) (h : PS E r G D B n T) : PS E r (tlG G S i g) D B n T := PS_c h (fun x x1 x2 => tlG_q (by omega) (by omega)) (by rw [tlG_q (by omega) (by omega)]; exact ⟨rfl, rfl, rfl, rfl, rfl⟩)
theorem PS_told_loop (hs : shS E r S) (hS : D + 5 < S) : ∀ (k i : Nat) (g : Nat → Int) (T : Int × Int × Int × Int) (lv : Value), c2 lv = false → PS E r (seT G D T) D B n T → i + k = 13 → i ≤ 12 → (∀ j, j < i → 2 ≤ g j ∧ g j ≤ 999) →
    (∃ c g' T1, rdTL B n k i g T = .ok (c, g', T1) ∧ (1 ≤ c ∧ c ≤ 12) ∧ (∀ j, j < c → 2 ≤ g' j ∧ g' j ≤ 999) ∧ PS E r (seT G D T1) D B n T1 ∧ ∀ Q, RK MX5_readTold 2 [.ref D, .ref S, .int (zi (i : Int)), lv] [] (0, 0) (E, zg (tlG (seT G D T) S i g), zk L, r) Q = Q (E, zg (tlG (seT G D T1) S c g'), zk L, r) (.int (zi 1))) ∨
    (∃ kf T' c g', rdTL B n k i g T = .error (kf, T') ∧ c ≤ 12 ∧ (∀ j, j < c → 2 ≤ g' j ∧ g' j ≤ 999) ∧ ∀ Q, RK MX5_readTold 2 [.ref D, .ref S, .int (zi (i : Int)), lv] [] (0, 0) (E, zg (tlG (seT G D T) S i g), zk L, r) Q = Q (E, zg (faG (tlG (seT G D T') S c g') D kf T'.2.1), zk L, r) (.int (zi 0))) := by
  intro k
  induction k with
  | zero => intro i g T lv _ _ h1 h2; omega
  | succ k ih =>
    intro i g T lv hlv h h1 h2 hg
    have h0 := h.1.1
    have hD0 : ∀ j, tlG (seT G D T) S i g D j = seT G D T D j := fun j => by rw [tlG_q (by omega) (by omega)]
    have e5 : tlG (seT G D T) S i g D 5 = T.1 := (hD0 5).trans fD_5
    have hr := h.2.2.2.2.2.2.1
    have ps := PS_tl (i := i) (g := g) hS h
    unfold rdTL
    by_cases c1 : 0 < i ∧ ¬ T.1 = 3
    · rw [if_pos c1]
      refine Or.inl ⟨i, g, T, rfl, by omega, hg, h, fun Q => ?_⟩
      have k1 : (i : Int) ≤ 12 := by omega
      have k2 : ¬ (i : Int) ≤ 0 := by omega
      have k3 : (T.1 = 3) = False := eq_false c1.2
      simp (disch := first | assumption | exact c2_int _ | exact c2_ref _ | exact c2_jk | exact c2_null | omega | (apply rN1; assumption) | (apply rN2; assumption) | (apply rN3; assumption) | (apply rN4; assumption) | exact bI_r _ | exact bI_01 _) only [↓fX5_readTold_0, ↓fX5_readTold_1, ↓fX5_readTold_2, ↓fX5_readTold_3, ↓fX5_readTold_5, ↓fX5_readTold_8, ↓fX5_readTold_9, ↓fX5_readTold_12, ↓fX5_readTold_13, ↓fX5_readTold_16, ↓fX5_readTold_17, ↓fX5_readTold_20, ↓fX5_readTold_21, ↓fX5_readTold_22, ↓fX5_readTold_23, ↓fX5_readTold_25, ↓fX5_readTold_28, ↓fX5_readTold_29, ↓fX5_readTold_30, ↓fX5_readTold_33, ↓fX5_readTold_36, ↓fX5_readTold_37, ↓fX5_readTold_38, ↓fX5_readTold_39, ↓fX5_readTold_42, ↓fX5_readTold_45, ↓fX5_readTold_46, ↓fX5_readTold_47, ↓fX5_readTold_48, ↓fX5_readTold_51, ↓fX5_readTold_52, ↓fX5_readTold_53, ↓fX5_readTold_53n, ↓fX5_readTold_54, ↓fX5_readTold_57, ↓fX5_readTold_58, ↓fX5_readTold_59, ↓fX5_readTold_62, ↓fX5_readTold_62n, ↓fX5_readTold_63, ↓fX5_readTold_64, ↓fX5_readTold_65, ↓fX5_readTold_66, ↓fX5_readTold_69, ↓fX5_readTold_72, ↓fX5_readTold_75, ↓fX5_readTold_76, k1, k2, e5, k3, and_self, true_and, and_true, false_and, and_false, not_true_eq_false, not_false_eq_true, or_self, true_or, or_true, false_or, or_false, ite_not, Decidable.not_not, decide_eq_true_eq, Bool.not_true, Bool.not_false, Bool.false_eq_true, Bool.not_eq_true, n10, n20, n21, n30, n31, n32, n40, n41, n42, n43, ↓reduceIte]
    · rw [if_neg c1]
      have k1 : (i : Int) ≤ 12 := by omega
      have hh : ∀ Q, RK MX5_readTold 2 [.ref D, .ref S, .int (zi (i : Int)), lv] [] (0, 0) (E, zg (tlG (seT G D T) S i g), zk L, r) Q = RK MX5_readTold 22 [.ref D, .ref S, .int (zi (i : Int)), lv] [] (0, 0) (E, zg (tlG (seT G D T) S i g), zk L, r) Q := fun Q => by
        by_cases c3 : (i : Int) ≤ 0
        · simp (disch := first | assumption | exact c2_int _ | exact c2_ref _ | exact c2_jk | exact c2_null | omega | (apply rN1; assumption) | (apply rN2; assumption) | (apply rN3; assumption) | (apply rN4; assumption) | exact bI_r _ | exact bI_01 _) only [↓fX5_readTold_0, ↓fX5_readTold_1, ↓fX5_readTold_2, ↓fX5_readTold_3, ↓fX5_readTold_5, ↓fX5_readTold_8, ↓fX5_readTold_9, ↓fX5_readTold_12, ↓fX5_readTold_13, ↓fX5_readTold_16, ↓fX5_readTold_17, ↓fX5_readTold_20, ↓fX5_readTold_21, ↓fX5_readTold_23, ↓fX5_readTold_25, ↓fX5_readTold_28, ↓fX5_readTold_29, ↓fX5_readTold_30, ↓fX5_readTold_33, ↓fX5_readTold_36, ↓fX5_readTold_37, ↓fX5_readTold_38, ↓fX5_readTold_39, ↓fX5_readTold_42, ↓fX5_readTold_45, ↓fX5_readTold_46, ↓fX5_readTold_47, ↓fX5_readTold_48, ↓fX5_readTold_51, ↓fX5_readTold_52, ↓fX5_readTold_53, ↓fX5_readTold_53n, ↓fX5_readTold_54, ↓fX5_readTold_57, ↓fX5_readTold_58, ↓fX5_readTold_59, ↓fX5_readTold_62, ↓fX5_readTold_62n, ↓fX5_readTold_63, ↓fX5_readTold_64, ↓fX5_readTold_65, ↓fX5_readTold_66, ↓fX5_readTold_69, ↓fX5_readTold_72, ↓fX5_readTold_75, ↓fX5_readTold_76, k1, c3, and_self, true_and, and_true, false_and, and_false, not_true_eq_false, not_false_eq_true, or_self, true_or, or_true, false_or, or_false, ite_not, Decidable.not_not, decide_eq_true_eq, Bool.not_true, Bool.not_false, Bool.false_eq_true, Bool.not_eq_true, n10, n20, n21, n30, n31, n32, n40, n41, n42, n43, ↓reduceIte]
        · have k3 : T.1 = 3 := by omega
          simp (disch := first | assumption | exact c2_int _ | exact c2_ref _ | exact c2_jk | exact c2_null | omega | (apply rN1; assumption) | (apply rN2; assumption) | (apply rN3; assumption) | (apply rN4; assumption) | exact bI_r _ | exact bI_01 _) only [↓fX5_readTold_0, ↓fX5_readTold_1, ↓fX5_readTold_2, ↓fX5_readTold_3, ↓fX5_readTold_5, ↓fX5_readTold_8, ↓fX5_readTold_9, ↓fX5_readTold_12, ↓fX5_readTold_13, ↓fX5_readTold_16, ↓fX5_readTold_17, ↓fX5_readTold_20, ↓fX5_readTold_21, ↓fX5_readTold_23, ↓fX5_readTold_25, ↓fX5_readTold_28, ↓fX5_readTold_29, ↓fX5_readTold_30, ↓fX5_readTold_33, ↓fX5_readTold_36, ↓fX5_readTold_37, ↓fX5_readTold_38, ↓fX5_readTold_39, ↓fX5_readTold_42, ↓fX5_readTold_45, ↓fX5_readTold_46, ↓fX5_readTold_47, ↓fX5_readTold_48, ↓fX5_readTold_51, ↓fX5_readTold_52, ↓fX5_readTold_53, ↓fX5_readTold_53n, ↓fX5_readTold_54, ↓fX5_readTold_57, ↓fX5_readTold_58, ↓fX5_readTold_59, ↓fX5_readTold_62, ↓fX5_readTold_62n, ↓fX5_readTold_63, ↓fX5_readTold_64, ↓fX5_readTold_65, ↓fX5_readTold_66, ↓fX5_readTold_69, ↓fX5_readTold_72, ↓fX5_readTold_75, ↓fX5_readTold_76, k1, c3, e5, k3, and_self, true_and, and_true, false_and, and_false, not_true_eq_false, not_false_eq_true, or_self, true_or, or_true, false_or, or_false, ite_not, Decidable.not_not, decide_eq_true_eq, Bool.not_true, Bool.not_false, Bool.false_eq_true, Bool.not_eq_true, n10, n20, n21, n30, n31, n32, n40, n41, n42, n43, ↓reduceIte]
      by_cases c2' : i = 12
      · rw [if_pos c2']
        refine Or.inr ⟨_, T, i, g, rfl, by omega, hg, fun Q => ?_⟩
        have k4 : (i : Int) = 12 := by omega
        have rs := fun Q => PS_refuseSurplus (L := L) (Q := Q) (lo := 2) (hi := 999) ps (by omega) (by omega)
        rw [hh]
        simp (disch := first | assumption | exact c2_int _ | exact c2_ref _ | exact c2_jk | exact c2_null | omega | (apply rN1; assumption) | (apply rN2; assumption) | (apply rN3; assumption) | (apply rN4; assumption) | exact bI_r _ | exact bI_01 _) only [↓fX5_readTold_0, ↓fX5_readTold_1, ↓fX5_readTold_2, ↓fX5_readTold_3, ↓fX5_readTold_5, ↓fX5_readTold_8, ↓fX5_readTold_9, ↓fX5_readTold_12, ↓fX5_readTold_13, ↓fX5_readTold_16, ↓fX5_readTold_17, ↓fX5_readTold_20, ↓fX5_readTold_21, ↓fX5_readTold_22, ↓fX5_readTold_23, ↓fX5_readTold_25, ↓fX5_readTold_28, ↓fX5_readTold_29, ↓fX5_readTold_30, ↓fX5_readTold_33, ↓fX5_readTold_36, ↓fX5_readTold_37, ↓fX5_readTold_38, ↓fX5_readTold_39, ↓fX5_readTold_42, ↓fX5_readTold_45, ↓fX5_readTold_46, ↓fX5_readTold_47, ↓fX5_readTold_48, ↓fX5_readTold_51, ↓fX5_readTold_52, ↓fX5_readTold_53, ↓fX5_readTold_53n, ↓fX5_readTold_54, ↓fX5_readTold_57, ↓fX5_readTold_58, ↓fX5_readTold_59, ↓fX5_readTold_62, ↓fX5_readTold_62n, ↓fX5_readTold_63, ↓fX5_readTold_64, ↓fX5_readTold_65, ↓fX5_readTold_66, ↓fX5_readTold_69, ↓fX5_readTold_72, ↓fX5_readTold_75, ↓fX5_readTold_76, k4, ↓rs, and_self, true_and, and_true, false_and, and_false, not_true_eq_false, not_false_eq_true, or_self, true_or, or_true, false_or, or_false, ite_not, Decidable.not_not, decide_eq_true_eq, Bool.not_true, Bool.not_false, Bool.false_eq_true, Bool.not_eq_true, n10, n20, n21, n30, n31, n32, n40, n41, n42, n43, ↓reduceIte]
      · rw [if_neg c2']
        have k4 : ¬ (i : Int) = 12 := by omega
        rcases PS_num (L := L) (lo := 2) (hi := 999) ps (by omega) (by omega) with ⟨v, T1, a1, a2, a3, a4⟩ | ⟨kf, T', a1, a2⟩
        · simp only [a1]
          rw [seT_tlG (by omega), seT_seT] at a3 a4
          have v9 : I32 v := by omega
          have vm : ¬ v = -1 := by omega
          have a5 : PS E r (seT G D T1) D B n T1 := PS_c a3 (fun x x1 x2 => by rw [tlG_q (by omega) (by omega)]) (by rw [tlG_q (by omega) (by omega)]; exact ⟨rfl, rfl, rfl, rfl, rfl⟩)
          obtain ⟨s0, ⟨s1, s2, s3, s4, s5⟩, ⟨l1, l2, l3, l4, l5⟩, r1, r2, r3, r4, r5⟩ := id hs
          have pp : ∀ Q, RK MX9_put 0 [.ref (S + 1), .int (zi (i : Int)), .int (zi v)] [] (0, 0) (E, zg (tlG (seT G D T1) S i g), zk L, r) Q = Q (E, zg (u2 (tlG (seT G D T1) S i g) (S + 1) i v), zk L, r) .null := fun Q => by
            rw [c9_put s1 (by omega) (by omega), if_pos (by omega), Int.toNat_natCast]
          have hstep : ∀ Q, RK MX5_readTold 2 [.ref D, .ref S, .int (zi (i : Int)), lv] [] (0, 0) (E, zg (tlG (seT G D T) S i g), zk L, r) Q = RK MX5_readTold 2 [.ref D, .ref S, .int (zi ((i + 1 : Nat) : Int)), .int (zi v)] [] (0, 0) (E, zg (tlG (seT G D T1) S (i + 1) (upN g i v)), zk L, r) Q := fun Q => by
            rw [hh, ← tlG_up]
            simp (disch := first | assumption | exact c2_int _ | exact c2_ref _ | exact c2_jk | exact c2_null | omega | (apply rN1; assumption) | (apply rN2; assumption) | (apply rN3; assumption) | (apply rN4; assumption) | exact bI_r _ | exact bI_01 _) only [↓fX5_readTold_0, ↓fX5_readTold_1, ↓fX5_readTold_3, ↓fX5_readTold_5, ↓fX5_readTold_8, ↓fX5_readTold_9, ↓fX5_readTold_12, ↓fX5_readTold_13, ↓fX5_readTold_16, ↓fX5_readTold_17, ↓fX5_readTold_20, ↓fX5_readTold_21, ↓fX5_readTold_22, ↓fX5_readTold_23, ↓fX5_readTold_25, ↓fX5_readTold_28, ↓fX5_readTold_29, ↓fX5_readTold_30, ↓fX5_readTold_33, ↓fX5_readTold_36, ↓fX5_readTold_37, ↓fX5_readTold_38, ↓fX5_readTold_39, ↓fX5_readTold_42, ↓fX5_readTold_45, ↓fX5_readTold_46, ↓fX5_readTold_47, ↓fX5_readTold_48, ↓fX5_readTold_51, ↓fX5_readTold_52, ↓fX5_readTold_53, ↓fX5_readTold_53n, ↓fX5_readTold_54, ↓fX5_readTold_57, ↓fX5_readTold_58, ↓fX5_readTold_59, ↓fX5_readTold_62, ↓fX5_readTold_62n, ↓fX5_readTold_63, ↓fX5_readTold_64, ↓fX5_readTold_65, ↓fX5_readTold_66, ↓fX5_readTold_69, ↓fX5_readTold_72, ↓fX5_readTold_75, ↓fX5_readTold_76, k4, ↓a4, ↓pp, vm, and_self, true_and, and_true, false_and, and_false, not_true_eq_false, not_false_eq_true, or_self, true_or, or_true, false_or, or_false, ite_not, Decidable.not_not, decide_eq_true_eq, Bool.not_true, Bool.not_false, Bool.false_eq_true, Bool.not_eq_true, n10, n20, n21, n30, n31, n32, n40, n41, n42, n43, ↓reduceIte]
            rfl
          rcases ih (i + 1) (upN g i v) T1 (.int (zi v)) (c2_int _) a5 (by omega) (by omega) (fun j hj => by
            unfold upN
            split
            · exact a2
            · exact hg j (by omega)) with ⟨c, g', T2, b1, b2, b3, b4, b5⟩ | ⟨kf, T', c, g', b1, b2, b3, b4⟩
          · exact Or.inl ⟨c, g', T2, b1, b2, b3, b4, fun Q => (hstep Q).trans (b5 Q)⟩
          · exact Or.inr ⟨kf, T', c, g', b1, b2, b3, fun Q => (hstep Q).trans (b4 Q)⟩
        · simp only [a1]
          rw [seT_tlG (by omega), seT_seT] at a2
          refine Or.inr ⟨kf, T', i, g, rfl, h2, hg, fun Q => ?_⟩
          rw [hh]
          simp (disch := first | assumption | exact c2_int _ | exact c2_ref _ | exact c2_jk | exact c2_null | omega | (apply rN1; assumption) | (apply rN2; assumption) | (apply rN3; assumption) | (apply rN4; assumption) | exact bI_r _ | exact bI_01 _) only [↓fX5_readTold_0, ↓fX5_readTold_1, ↓fX5_readTold_3, ↓fX5_readTold_5, ↓fX5_readTold_8, ↓fX5_readTold_9, ↓fX5_readTold_12, ↓fX5_readTold_13, ↓fX5_readTold_16, ↓fX5_readTold_17, ↓fX5_readTold_20, ↓fX5_readTold_21, ↓fX5_readTold_22, ↓fX5_readTold_23, ↓fX5_readTold_25, ↓fX5_readTold_28, ↓fX5_readTold_29, ↓fX5_readTold_30, ↓fX5_readTold_33, ↓fX5_readTold_36, ↓fX5_readTold_37, ↓fX5_readTold_38, ↓fX5_readTold_39, ↓fX5_readTold_42, ↓fX5_readTold_45, ↓fX5_readTold_46, ↓fX5_readTold_47, ↓fX5_readTold_48, ↓fX5_readTold_51, ↓fX5_readTold_52, ↓fX5_readTold_53, ↓fX5_readTold_53n, ↓fX5_readTold_54, ↓fX5_readTold_57, ↓fX5_readTold_58, ↓fX5_readTold_59, ↓fX5_readTold_62, ↓fX5_readTold_62n, ↓fX5_readTold_63, ↓fX5_readTold_64, ↓fX5_readTold_65, ↓fX5_readTold_66, ↓fX5_readTold_69, ↓fX5_readTold_72, ↓fX5_readTold_75, ↓fX5_readTold_76, k4, ↓a2, and_self, true_and, and_true, false_and, and_false, not_true_eq_false, not_false_eq_true, or_self, true_or, or_true, false_or, or_false, ite_not, Decidable.not_not, decide_eq_true_eq, Bool.not_true, Bool.not_false, Bool.false_eq_true, Bool.not_eq_true, n10, n20, n21, n30, n31, n32, n40, n41, n42, n43, ↓reduceIte]
theorem PS_told (h : PS E r G D B n T) (hs : shS E r S) (hS : D + 5 < S) :
    (∃ c g' T1, rdTL B n 13 0 (fun _ => 0) T = .ok (c, g', T1) ∧ (1 ≤ c ∧ c ≤ 12) ∧ (∀ j, j < c → 2 ≤ g' j ∧ g' j ≤ 999) ∧ PS E r (seT G D T1) D B n T1 ∧ ∀ Q, RK MX5_readTold 0 [.ref D, .ref S, jk, jk] [] (0, 0) (E, zg G, zk L, r) Q = Q (E, zg (tlG (seT G D T1) S c g'), zk L, r) (.int (zi 1))) ∨
    (∃ kf T' c g', rdTL B n 13 0 (fun _ => 0) T = .error (kf, T') ∧ c ≤ 12 ∧ (∀ j, j < c → 2 ≤ g' j ∧ g' j ≤ 999) ∧ ∀ Q, RK MX5_readTold 0 [.ref D, .ref S, jk, jk] [] (0, 0) (E, zg G, zk L, r) Q = Q (E, zg (faG (tlG (seT G D T') S c g') D kf T'.2.1), zk L, r) (.int (zi 0))) := by
  have e0 : ∀ Q, RK MX5_readTold 0 [.ref D, .ref S, jk, jk] [] (0, 0) (E, zg G, zk L, r) Q = RK MX5_readTold 2 [.ref D, .ref S, .int (zi ((0 : Nat) : Int)), jk] [] (0, 0) (E, zg (tlG (seT G D T) S 0 (fun _ => 0)), zk L, r) Q := fun Q => by
    rw [tlG_0, seT_id h]
    simp (disch := first | assumption | exact c2_int _ | exact c2_ref _ | exact c2_jk | exact c2_null | omega | (apply rN1; assumption) | (apply rN2; assumption) | (apply rN3; assumption) | (apply rN4; assumption) | exact bI_r _ | exact bI_01 _) only [↓fX5_readTold_0, ↓fX5_readTold_1, ↓fX5_readTold_3, ↓fX5_readTold_5, ↓fX5_readTold_8, ↓fX5_readTold_9, ↓fX5_readTold_12, ↓fX5_readTold_13, ↓fX5_readTold_16, ↓fX5_readTold_17, ↓fX5_readTold_20, ↓fX5_readTold_21, ↓fX5_readTold_22, ↓fX5_readTold_23, ↓fX5_readTold_25, ↓fX5_readTold_28, ↓fX5_readTold_29, ↓fX5_readTold_30, ↓fX5_readTold_33, ↓fX5_readTold_36, ↓fX5_readTold_37, ↓fX5_readTold_38, ↓fX5_readTold_39, ↓fX5_readTold_42, ↓fX5_readTold_45, ↓fX5_readTold_46, ↓fX5_readTold_47, ↓fX5_readTold_48, ↓fX5_readTold_51, ↓fX5_readTold_52, ↓fX5_readTold_53, ↓fX5_readTold_53n, ↓fX5_readTold_54, ↓fX5_readTold_57, ↓fX5_readTold_58, ↓fX5_readTold_59, ↓fX5_readTold_62, ↓fX5_readTold_62n, ↓fX5_readTold_63, ↓fX5_readTold_64, ↓fX5_readTold_65, ↓fX5_readTold_66, ↓fX5_readTold_69, ↓fX5_readTold_72, ↓fX5_readTold_75, ↓fX5_readTold_76, and_self, true_and, and_true, false_and, and_false, not_true_eq_false, not_false_eq_true, or_self, true_or, or_true, false_or, or_false, ite_not, Decidable.not_not, decide_eq_true_eq, Bool.not_true, Bool.not_false, Bool.false_eq_true, Bool.not_eq_true, n10, n20, n21, n30, n31, n32, n40, n41, n42, n43, ↓reduceIte]
    rfl
  rcases PS_told_loop (L := L) (G := G) hs hS 13 0 (fun _ => 0) T jk c2_jk (by rw [seT_id h]; exact h) (by omega) (by omega) (fun j hj => absurd hj (by omega)) with ⟨c, g', T1, b1, b2, b3, b4, b5⟩ | ⟨kf, T', c, g', b1, b2, b3, b4⟩
  · exact Or.inl ⟨c, g', T1, b1, b2, b3, b4, fun Q => (e0 Q).trans (b5 Q)⟩
  · exact Or.inr ⟨kf, T', c, g', b1, b2, b3, fun Q => (e0 Q).trans (b4 Q)⟩
end BS
