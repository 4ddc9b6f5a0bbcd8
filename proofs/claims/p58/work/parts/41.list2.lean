/-! readList. -/
def rdList (B : Int → Int) (n : Int) (f g : Nat → Int) (cn cl : Nat) (T : Int × Int × Int × Int) : Except ER (Nat × (Nat → Int) × Int × Int × Int × Int) :=
  if 3 ≤ cl then .error (5, T) else
  match rdName B n f g cn (nxT B n T.2.2.1) with
  | .error e => .error e
  | .ok T2 => match rdLL B n 11 0 (fun _ => 0) 0 T2 with
    | .error e => .error e
    | .ok (i, g', T3) => match rdSign B n T3 with
      | .error e => .error e
      | .ok T4 => .ok (i, g', T4)
section BS
variable {E : AE} {G G' L : Nat → Nat → Int} {r : Nat → Nat → Option Nat} {h : AH} {Q : AH → Value → Prop} {D S a c l cl : Nat} {w : List Int} {i v x b u s e t n lo hi : Int} {B : Int → Int} {T T' : Int × Int × Int × Int}
theorem list_loop (hl : shL E r l) (hS : D + 5 < l) : ∀ (k i : Nat) (g : Nat → Int) (le_ : Int) (T : Int × Int × Int × Int) (lv : Value), c2 lv = false → PS E r (seT G D T) D B n T → i + k = 11 → i ≤ 10 → (0 ≤ le_ ∧ le_ ≤ 10000) → (∀ j, j < i → 0 ≤ g j ∧ g j ≤ 9999) →
    (∃ c g' T1 le' lv', rdLL B n k i g le_ T = .ok (c, g', T1) ∧ (1 ≤ c ∧ c ≤ 10) ∧ (∀ j, j < c → 0 ≤ g' j ∧ g' j ≤ 9999) ∧ PS E r (seT G D T1) D B n T1 ∧ ∀ Q, RK MX5_readList 41 [.ref D, .ref l, .int (zi le_), .int (zi (i : Int)), lv] [] (0, 0) (E, zg (lsG (seT G D T) l i g), zk L, r) Q = RK MX5_readList 112 [.ref D, .ref l, le', .int (zi (c : Int)), lv'] [] (0, 0) (E, zg (lsG (seT G D T1) l c g'), zk L, r) Q) ∨
    (∃ kf T' c g', rdLL B n k i g le_ T = .error (kf, T') ∧ c ≤ 10 ∧ (∀ j, j < c → 0 ≤ g' j ∧ g' j ≤ 9999) ∧ ∀ Q, RK MX5_readList 41 [.ref D, .ref l, .int (zi le_), .int (zi (i : Int)), lv] [] (0, 0) (E, zg (lsG (seT G D T) l i g), zk L, r) Q = Q (E, zg (faG (lsG (seT G D T') l c g') D kf T'.2.1), zk L, r) (.int (zi 0))) := by
  intro k
  induction k with
  | zero => intro i g le_ T lv _ _ h1 h2; omega
  | succ k ih =>
    intro i g le_ T lv hlv h h1 h2 hle hg
    have h0 := h.1.1
    have e5 : lsG (seT G D T) l i g D 5 = T.1 := by
      rw [lsG_q (by omega) (by omega)]
      exact fD_5
    have hr := h.2.2.2.2.2.2.1
    have ps := PS_ls (i := i) (g := g) hS h
    have k1 : (i : Int) ≤ 10 := by omega
    unfold rdLL
    by_cases c1 : 0 < i ∧ ¬ T.1 = 3
    · rw [if_pos c1]
      refine Or.inl ⟨i, g, T, .int (zi le_), lv, rfl, by omega, hg, h, fun Q => ?_⟩
      have k2 : ¬ (i : Int) ≤ 0 := by omega
      have k3 : (T.1 = 3) = False := eq_false c1.2
      simp (disch := first | assumption | exact c2_int _ | exact c2_ref _ | exact c2_jk | exact c2_null | omega | (apply rN1; assumption) | (apply rN2; assumption) | (apply rN3; assumption) | (apply rN4; assumption) | exact bI_r _ | exact bI_01 _) only [↓fX5_readList_0, ↓fX5_readList_1, ↓fX5_readList_2, ↓fX5_readList_5, ↓fX5_readList_8, ↓fX5_readList_8n, ↓fX5_readList_9, ↓fX5_readList_9n, ↓fX5_readList_10, ↓fX5_readList_10r, ↓fX5_readList_13, ↓fX5_readList_14, ↓fX5_readList_15, ↓fX5_readList_18, ↓fX5_readList_19, ↓fX5_readList_20, ↓fX5_readList_23, ↓fX5_readList_24, ↓fX5_readList_27, ↓fX5_readList_30, ↓fX5_readList_31, ↓fX5_readList_32, ↓fX5_readList_32n, ↓fX5_readList_33, ↓fX5_readList_34, ↓fX5_readList_37, ↓fX5_readList_38, ↓fX5_readList_39, ↓fX5_readList_40, ↓fX5_readList_41, ↓fX5_readList_42, ↓fX5_readList_44, ↓fX5_readList_47, ↓fX5_readList_48, ↓fX5_readList_51, ↓fX5_readList_52, ↓fX5_readList_55, ↓fX5_readList_56, ↓fX5_readList_59, ↓fX5_readList_62, ↓fX5_readList_63, ↓fX5_readList_65, ↓fX5_readList_68, ↓fX5_readList_69, ↓fX5_readList_70, ↓fX5_readList_73, ↓fX5_readList_76, ↓fX5_readList_77, ↓fX5_readList_78, ↓fX5_readList_79, ↓fX5_readList_82, ↓fX5_readList_85, ↓fX5_readList_87, ↓fX5_readList_89, ↓fX5_readList_90, ↓fX5_readList_93, ↓fX5_readList_94, ↓fX5_readList_95, ↓fX5_readList_95n, ↓fX5_readList_96, ↓fX5_readList_98, ↓fX5_readList_101, ↓fX5_readList_103, ↓fX5_readList_104, ↓fX5_readList_105, ↓fX5_readList_106, ↓fX5_readList_109, ↓fX5_readList_113, ↓fX5_readList_116, ↓fX5_readList_119, ↓fX5_readList_120, ↓fX5_readList_121, ↓fX5_readList_122, ↓fX5_readList_123, ↓fX5_readList_126, ↓fX5_readList_127, ↓fX5_readList_128, ↓fX5_readList_131, ↓fX5_readList_132, k1, k2, e5, k3, and_self, true_and, and_true, false_and, and_false, not_true_eq_false, not_false_eq_true, or_self, true_or, or_true, false_or, or_false, ite_not, Decidable.not_not, decide_eq_true_eq, Bool.not_true, Bool.not_false, Bool.false_eq_true, Bool.not_eq_true, n10, n20, n21, n30, n31, n32, n40, n41, n42, n43, ↓reduceIte]
    · rw [if_neg c1]
      have hh : ∀ Q, RK MX5_readList 41 [.ref D, .ref l, .int (zi le_), .int (zi (i : Int)), lv] [] (0, 0) (E, zg (lsG (seT G D T) l i g), zk L, r) Q = RK MX5_readList 62 [.ref D, .ref l, .int (zi le_), .int (zi (i : Int)), lv] [] (0, 0) (E, zg (lsG (seT G D T) l i g), zk L, r) Q := fun Q => by
        by_cases c3 : (i : Int) ≤ 0
        · simp (disch := first | assumption | exact c2_int _ | exact c2_ref _ | exact c2_jk | exact c2_null | omega | (apply rN1; assumption) | (apply rN2; assumption) | (apply rN3; assumption) | (apply rN4; assumption) | exact bI_r _ | exact bI_01 _) only [↓fX5_readList_0, ↓fX5_readList_1, ↓fX5_readList_2, ↓fX5_readList_5, ↓fX5_readList_8, ↓fX5_readList_8n, ↓fX5_readList_9, ↓fX5_readList_9n, ↓fX5_readList_10, ↓fX5_readList_10r, ↓fX5_readList_13, ↓fX5_readList_14, ↓fX5_readList_15, ↓fX5_readList_18, ↓fX5_readList_19, ↓fX5_readList_20, ↓fX5_readList_23, ↓fX5_readList_24, ↓fX5_readList_27, ↓fX5_readList_30, ↓fX5_readList_31, ↓fX5_readList_32, ↓fX5_readList_32n, ↓fX5_readList_33, ↓fX5_readList_34, ↓fX5_readList_37, ↓fX5_readList_38, ↓fX5_readList_39, ↓fX5_readList_40, ↓fX5_readList_41, ↓fX5_readList_42, ↓fX5_readList_44, ↓fX5_readList_47, ↓fX5_readList_48, ↓fX5_readList_51, ↓fX5_readList_52, ↓fX5_readList_55, ↓fX5_readList_56, ↓fX5_readList_59, ↓fX5_readList_63, ↓fX5_readList_65, ↓fX5_readList_68, ↓fX5_readList_69, ↓fX5_readList_70, ↓fX5_readList_73, ↓fX5_readList_76, ↓fX5_readList_77, ↓fX5_readList_78, ↓fX5_readList_79, ↓fX5_readList_82, ↓fX5_readList_85, ↓fX5_readList_87, ↓fX5_readList_89, ↓fX5_readList_90, ↓fX5_readList_93, ↓fX5_readList_94, ↓fX5_readList_95, ↓fX5_readList_95n, ↓fX5_readList_96, ↓fX5_readList_98, ↓fX5_readList_101, ↓fX5_readList_103, ↓fX5_readList_104, ↓fX5_readList_105, ↓fX5_readList_106, ↓fX5_readList_109, ↓fX5_readList_112, ↓fX5_readList_113, ↓fX5_readList_116, ↓fX5_readList_119, ↓fX5_readList_120, ↓fX5_readList_121, ↓fX5_readList_122, ↓fX5_readList_123, ↓fX5_readList_126, ↓fX5_readList_127, ↓fX5_readList_128, ↓fX5_readList_131, ↓fX5_readList_132, k1, c3, and_self, true_and, and_true, false_and, and_false, not_true_eq_false, not_false_eq_true, or_self, true_or, or_true, false_or, or_false, ite_not, Decidable.not_not, decide_eq_true_eq, Bool.not_true, Bool.not_false, Bool.false_eq_true, Bool.not_eq_true, n10, n20, n21, n30, n31, n32, n40, n41, n42, n43, ↓reduceIte]
        · have k3 : T.1 = 3 := by omega
          simp (disch := first | assumption | exact c2_int _ | exact c2_ref _ | exact c2_jk | exact c2_null | omega | (apply rN1; assumption) | (apply rN2; assumption) | (apply rN3; assumption) | (apply rN4; assumption) | exact bI_r _ | exact bI_01 _) only [↓fX5_readList_0, ↓fX5_readList_1, ↓fX5_readList_2, ↓fX5_readList_5, ↓fX5_readList_8, ↓fX5_readList_8n, ↓fX5_readList_9, ↓fX5_readList_9n, ↓fX5_readList_10, ↓fX5_readList_10r, ↓fX5_readList_13, ↓fX5_readList_14, ↓fX5_readList_15, ↓fX5_readList_18, ↓fX5_readList_19, ↓fX5_readList_20, ↓fX5_readList_23, ↓fX5_readList_24, ↓fX5_readList_27, ↓fX5_readList_30, ↓fX5_readList_31, ↓fX5_readList_32, ↓fX5_readList_32n, ↓fX5_readList_33, ↓fX5_readList_34, ↓fX5_readList_37, ↓fX5_readList_38, ↓fX5_readList_39, ↓fX5_readList_40, ↓fX5_readList_41, ↓fX5_readList_42, ↓fX5_readList_44, ↓fX5_readList_47, ↓fX5_readList_48, ↓fX5_readList_51, ↓fX5_readList_52, ↓fX5_readList_55, ↓fX5_readList_56, ↓fX5_readList_59, ↓fX5_readList_63, ↓fX5_readList_65, ↓fX5_readList_68, ↓fX5_readList_69, ↓fX5_readList_70, ↓fX5_readList_73, ↓fX5_readList_76, ↓fX5_readList_77, ↓fX5_readList_78, ↓fX5_readList_79, ↓fX5_readList_82, ↓fX5_readList_85, ↓fX5_readList_87, ↓fX5_readList_89, ↓fX5_readList_90, ↓fX5_readList_93, ↓fX5_readList_94, ↓fX5_readList_95, ↓fX5_readList_95n, ↓fX5_readList_96, ↓fX5_readList_98, ↓fX5_readList_101, ↓fX5_readList_103, ↓fX5_readList_104, ↓fX5_readList_105, ↓fX5_readList_106, ↓fX5_readList_109, ↓fX5_readList_112, ↓fX5_readList_113, ↓fX5_readList_116, ↓fX5_readList_119, ↓fX5_readList_120, ↓fX5_readList_121, ↓fX5_readList_122, ↓fX5_readList_123, ↓fX5_readList_126, ↓fX5_readList_127, ↓fX5_readList_128, ↓fX5_readList_131, ↓fX5_readList_132, k1, c3, e5, k3, and_self, true_and, and_true, false_and, and_false, not_true_eq_false, not_false_eq_true, or_self, true_or, or_true, false_or, or_false, ite_not, Decidable.not_not, decide_eq_true_eq, Bool.not_true, Bool.not_false, Bool.false_eq_true, Bool.not_eq_true, n10, n20, n21, n30, n31, n32, n40, n41, n42, n43, ↓reduceIte]
      by_cases c2' : i = 10
      · rw [if_pos c2']
        refine Or.inr ⟨_, T, i, g, rfl, by omega, hg, fun Q => ?_⟩
        have k4 : (i : Int) = 10 := by omega
        have rs := fun Q => PS_refuseSurplus (L := L) (Q := Q) (lo := le_) (hi := 9999) ps (by omega) (by omega)
        rw [hh]
        simp (disch := first | assumption | exact c2_int _ | exact c2_ref _ | exact c2_jk | exact c2_null | omega | (apply rN1; assumption) | (apply rN2; assumption) | (apply rN3; assumption) | (apply rN4; assumption) | exact bI_r _ | exact bI_01 _) only [↓fX5_readList_0, ↓fX5_readList_1, ↓fX5_readList_2, ↓fX5_readList_5, ↓fX5_readList_8, ↓fX5_readList_8n, ↓fX5_readList_9, ↓fX5_readList_9n, ↓fX5_readList_10, ↓fX5_readList_10r, ↓fX5_readList_13, ↓fX5_readList_14, ↓fX5_readList_15, ↓fX5_readList_18, ↓fX5_readList_19, ↓fX5_readList_20, ↓fX5_readList_23, ↓fX5_readList_24, ↓fX5_readList_27, ↓fX5_readList_30, ↓fX5_readList_31, ↓fX5_readList_32, ↓fX5_readList_32n, ↓fX5_readList_33, ↓fX5_readList_34, ↓fX5_readList_37, ↓fX5_readList_38, ↓fX5_readList_39, ↓fX5_readList_40, ↓fX5_readList_41, ↓fX5_readList_42, ↓fX5_readList_44, ↓fX5_readList_47, ↓fX5_readList_48, ↓fX5_readList_51, ↓fX5_readList_52, ↓fX5_readList_55, ↓fX5_readList_56, ↓fX5_readList_59, ↓fX5_readList_62, ↓fX5_readList_63, ↓fX5_readList_65, ↓fX5_readList_68, ↓fX5_readList_69, ↓fX5_readList_70, ↓fX5_readList_73, ↓fX5_readList_76, ↓fX5_readList_77, ↓fX5_readList_78, ↓fX5_readList_79, ↓fX5_readList_82, ↓fX5_readList_85, ↓fX5_readList_87, ↓fX5_readList_89, ↓fX5_readList_90, ↓fX5_readList_93, ↓fX5_readList_94, ↓fX5_readList_95, ↓fX5_readList_95n, ↓fX5_readList_96, ↓fX5_readList_98, ↓fX5_readList_101, ↓fX5_readList_103, ↓fX5_readList_104, ↓fX5_readList_105, ↓fX5_readList_106, ↓fX5_readList_109, ↓fX5_readList_112, ↓fX5_readList_113, ↓fX5_readList_116, ↓fX5_readList_119, ↓fX5_readList_120, ↓fX5_readList_121, ↓fX5_readList_122, ↓fX5_readList_123, ↓fX5_readList_126, ↓fX5_readList_127, ↓fX5_readList_128, ↓fX5_readList_131, ↓fX5_readList_132, k4, ↓rs, and_self, true_and, and_true, false_and, and_false, not_true_eq_false, not_false_eq_true, or_self, true_or, or_true, false_or, or_false, ite_not, Decidable.not_not, decide_eq_true_eq, Bool.not_true, Bool.not_false, Bool.false_eq_true, Bool.not_eq_true, n10, n20, n21, n30, n31, n32, n40, n41, n42, n43, ↓reduceIte]
      · rw [if_neg c2']
        have k4 : ¬ (i : Int) = 10 := by omega
        rcases PS_num (L := L) (lo := le_) (hi := 9999) ps (by omega) (by omega) with ⟨v, T1, a1, a2, a3, a4⟩ | ⟨kf, T', a1, a2⟩
        · simp only [a1]
          rw [seT_lsG (by omega), seT_seT] at a3 a4
          have v9 : I32 v := by omega
          have vm : ¬ v = -1 := by omega
          have a5 : PS E r (seT G D T1) D B n T1 := PS_c a3 (fun x x1 x2 => by rw [lsG_q (by omega) (by omega)]) (by rw [lsG_q (by omega) (by omega)]; exact ⟨rfl, rfl, rfl, rfl, rfl⟩)
          have l0 := hl.1
          have pp := fun Q => c2_append (G := seT G D T1) (L := L) (Q := Q) (g := g) (v := v) hl (i := i) (by omega)
          have hstep : ∀ Q, RK MX5_readList 41 [.ref D, .ref l, .int (zi le_), .int (zi (i : Int)), lv] [] (0, 0) (E, zg (lsG (seT G D T) l i g), zk L, r) Q = RK MX5_readList 41 [.ref D, .ref l, .int (zi (v + 1)), .int (zi ((i + 1 : Nat) : Int)), .int (zi v)] [] (0, 0) (E, zg (lsG (seT G D T1) l (i + 1) (upN g i v)), zk L, r) Q := fun Q => by
            rw [hh]
            simp (disch := first | assumption | exact c2_int _ | exact c2_ref _ | exact c2_jk | exact c2_null | omega | (apply rN1; assumption) | (apply rN2; assumption) | (apply rN3; assumption) | (apply rN4; assumption) | exact bI_r _ | exact bI_01 _) only [↓fX5_readList_0, ↓fX5_readList_1, ↓fX5_readList_2, ↓fX5_readList_5, ↓fX5_readList_8, ↓fX5_readList_8n, ↓fX5_readList_9, ↓fX5_readList_9n, ↓fX5_readList_10, ↓fX5_readList_10r, ↓fX5_readList_13, ↓fX5_readList_14, ↓fX5_readList_15, ↓fX5_readList_18, ↓fX5_readList_19, ↓fX5_readList_20, ↓fX5_readList_23, ↓fX5_readList_24, ↓fX5_readList_27, ↓fX5_readList_30, ↓fX5_readList_31, ↓fX5_readList_32, ↓fX5_readList_32n, ↓fX5_readList_33, ↓fX5_readList_34, ↓fX5_readList_37, ↓fX5_readList_38, ↓fX5_readList_39, ↓fX5_readList_40, ↓fX5_readList_42, ↓fX5_readList_44, ↓fX5_readList_47, ↓fX5_readList_48, ↓fX5_readList_51, ↓fX5_readList_52, ↓fX5_readList_55, ↓fX5_readList_56, ↓fX5_readList_59, ↓fX5_readList_62, ↓fX5_readList_63, ↓fX5_readList_65, ↓fX5_readList_68, ↓fX5_readList_69, ↓fX5_readList_70, ↓fX5_readList_73, ↓fX5_readList_76, ↓fX5_readList_77, ↓fX5_readList_78, ↓fX5_readList_79, ↓fX5_readList_82, ↓fX5_readList_85, ↓fX5_readList_87, ↓fX5_readList_89, ↓fX5_readList_90, ↓fX5_readList_93, ↓fX5_readList_94, ↓fX5_readList_95, ↓fX5_readList_95n, ↓fX5_readList_96, ↓fX5_readList_98, ↓fX5_readList_101, ↓fX5_readList_103, ↓fX5_readList_104, ↓fX5_readList_105, ↓fX5_readList_106, ↓fX5_readList_109, ↓fX5_readList_112, ↓fX5_readList_113, ↓fX5_readList_116, ↓fX5_readList_119, ↓fX5_readList_120, ↓fX5_readList_121, ↓fX5_readList_122, ↓fX5_readList_123, ↓fX5_readList_126, ↓fX5_readList_127, ↓fX5_readList_128, ↓fX5_readList_131, ↓fX5_readList_132, k4, ↓a4, ↓pp, vm, and_self, true_and, and_true, false_and, and_false, not_true_eq_false, not_false_eq_true, or_self, true_or, or_true, false_or, or_false, ite_not, Decidable.not_not, decide_eq_true_eq, Bool.not_true, Bool.not_false, Bool.false_eq_true, Bool.not_eq_true, n10, n20, n21, n30, n31, n32, n40, n41, n42, n43, ↓reduceIte]
            rfl
          rcases ih (i + 1) (upN g i v) (v + 1) T1 (.int (zi v)) (c2_int _) a5 (by omega) (by omega) (by omega) (fun j hj => by
            unfold upN
            split
            · omega
            · exact hg j (by omega)) with ⟨c, g', T2, le', lv', b1, b2, b3, b4, b5⟩ | ⟨kf, T', c, g', b1, b2, b3, b4⟩
          · exact Or.inl ⟨c, g', T2, le', lv', b1, b2, b3, b4, fun Q => (hstep Q).trans (b5 Q)⟩
          · exact Or.inr ⟨kf, T', c, g', b1, b2, b3, fun Q => (hstep Q).trans (b4 Q)⟩
        · simp only [a1]
          rw [seT_lsG (by omega), seT_seT] at a2
          refine Or.inr ⟨kf, T', i, g, rfl, h2, hg, fun Q => ?_⟩
          rw [hh]
          simp (disch := first | assumption | exact c2_int _ | exact c2_ref _ | exact c2_jk | exact c2_null | omega | (apply rN1; assumption) | (apply rN2; assumption) | (apply rN3; assumption) | (apply rN4; assumption) | exact bI_r _ | exact bI_01 _) only [↓fX5_readList_0, ↓fX5_readList_1, ↓fX5_readList_2, ↓fX5_readList_5, ↓fX5_readList_8, ↓fX5_readList_8n, ↓fX5_readList_9, ↓fX5_readList_9n, ↓fX5_readList_10, ↓fX5_readList_10r, ↓fX5_readList_13, ↓fX5_readList_14, ↓fX5_readList_15, ↓fX5_readList_18, ↓fX5_readList_19, ↓fX5_readList_20, ↓fX5_readList_23, ↓fX5_readList_24, ↓fX5_readList_27, ↓fX5_readList_30, ↓fX5_readList_31, ↓fX5_readList_32, ↓fX5_readList_32n, ↓fX5_readList_33, ↓fX5_readList_34, ↓fX5_readList_37, ↓fX5_readList_38, ↓fX5_readList_39, ↓fX5_readList_40, ↓fX5_readList_42, ↓fX5_readList_44, ↓fX5_readList_47, ↓fX5_readList_48, ↓fX5_readList_51, ↓fX5_readList_52, ↓fX5_readList_55, ↓fX5_readList_56, ↓fX5_readList_59, ↓fX5_readList_62, ↓fX5_readList_63, ↓fX5_readList_65, ↓fX5_readList_68, ↓fX5_readList_69, ↓fX5_readList_70, ↓fX5_readList_73, ↓fX5_readList_76, ↓fX5_readList_77, ↓fX5_readList_78, ↓fX5_readList_79, ↓fX5_readList_82, ↓fX5_readList_85, ↓fX5_readList_87, ↓fX5_readList_89, ↓fX5_readList_90, ↓fX5_readList_93, ↓fX5_readList_94, ↓fX5_readList_95, ↓fX5_readList_95n, ↓fX5_readList_96, ↓fX5_readList_98, ↓fX5_readList_101, ↓fX5_readList_103, ↓fX5_readList_104, ↓fX5_readList_105, ↓fX5_readList_106, ↓fX5_readList_109, ↓fX5_readList_112, ↓fX5_readList_113, ↓fX5_readList_116, ↓fX5_readList_119, ↓fX5_readList_120, ↓fX5_readList_121, ↓fX5_readList_122, ↓fX5_readList_123, ↓fX5_readList_126, ↓fX5_readList_127, ↓fX5_readList_128, ↓fX5_readList_131, ↓fX5_readList_132, k4, ↓a2, and_self, true_and, and_true, false_and, and_false, not_true_eq_false, not_false_eq_true, or_self, true_or, or_true, false_or, or_false, ite_not, Decidable.not_not, decide_eq_true_eq, Bool.not_true, Bool.not_false, Bool.false_eq_true, Bool.not_eq_true, n10, n20, n21, n30, n31, n32, n40, n41, n42, n43, ↓reduceIte]
theorem rgL_ls {H : Nat → Nat → Int} {i : Nat} {g : Nat → Int} (hr : rgL H l) (hi : i ≤ 10) (hg : ∀ j, j < i → 0 ≤ g j ∧ g j ≤ 9999) : rgL (lsG H l i g) l := by
  refine ⟨by rw [lsG_s]; omega, fun j => ?_⟩
  have := hr.2 j
  show 0 ≤ (if l + 1 = l + 1 ∧ j < i then g j else if l + 1 = l ∧ j = 1 then (i : Int) else H (l + 1) j) ∧ (if l + 1 = l + 1 ∧ j < i then g j else if l + 1 = l ∧ j = 1 then (i : Int) else H (l + 1) j) ≤ 9999
  by_cases c : j < i
  · rw [if_pos ⟨rfl, c⟩]
    exact hg j c
  · rw [if_neg (by omega), if_neg (by omega)]
    exact this
theorem RF_ls {i : Nat} {g : Nat → Int} (hw : RW G D) (hcl : cl < 3) (hi : i ≤ 10) (hg : ∀ j, j < i → 0 ≤ g j ∧ g j ≤ 9999) : RF G (lsG G (D + 30 + 2 * cl) i g) D := by
  refine ⟨fun x hx => lsG_q (by omega) (by omega), lsG_q (by omega) (by omega), by rw [lsG_q (by omega) (by omega)], by rw [lsG_q (by omega) (by omega)], fun t ht => rgS_c (fun x x1 x2 => lsG_q (by omega) (by omega)) (hw.1 t ht), fun t ht => ?_⟩
  by_cases z : t = cl
  · rw [z]
    exact rgL_ls (hw.2 cl hcl) hi hg
  · exact rgL_c (lsG_q (by omega) (by omega)) (lsG_q (by omega) (by omega)) (hw.2 t ht)
theorem PS_list (h : PS E r G D B n T) (hw : RW G D) (hcl : G D 12 = cl) (hc : G D 10 + G D 12 = c) (hc7 : cl < 3 → c ≤ 6) (hcl3 : cl ≤ 3) (hN : ∀ i, i < c → (0 ≤ G (D + 4) i ∧ G (D + 4) i ≤ 1000) ∧ (0 ≤ G (D + 5) i ∧ G (D + 5) i ≤ 1000)) :
    (∃ (i : Nat) (g' : Nat → Int) (T4 : Int × Int × Int × Int) (G' : Nat → Nat → Int), rdList B n (G (D + 4)) (G (D + 5)) c cl T = .ok (i, g', T4) ∧ cl < 3 ∧ (1 ≤ i ∧ i ≤ 10) ∧ (∀ j, j < i → 0 ≤ g' j ∧ g' j ≤ 9999) ∧ PS E r G' D B n T4 ∧ RF G G' D ∧ G' D 12 = (cl : Int) + 1 ∧ G' D 10 = G D 10 ∧ (G' D 3 = G D 3 ∧ G' D 4 = G D 4) ∧ G' (D + 4) = upN (G (D + 4)) c (nxT B n T.2.2.1).2.1 ∧ G' (D + 5) = upN (G (D + 5)) c (nxT B n T.2.2.1).2.2.1 ∧ (∀ x, D + 5 < x → x ≠ D + 30 + 2 * cl → x ≠ D + 30 + 2 * cl + 1 → G' x = G x) ∧ G' (D + 30 + 2 * cl) 1 = i ∧ (∀ j, j < i → G' (D + 30 + 2 * cl + 1) j = g' j) ∧ ∀ Q, RK MX5_readList 0 [.ref D, jk, jk, jk, jk] [] (0, 0) (E, zg G, zk L, r) Q = Q (E, zg G', zk L, r) (.int (zi 1))) ∨
    (∃ (k : Int) (T' : Int × Int × Int × Int) (H : Nat → Nat → Int), rdList B n (G (D + 4)) (G (D + 5)) c cl T = .error (k, T') ∧ RF G H D ∧ ∀ Q, RK MX5_readList 0 [.ref D, jk, jk, jk, jk] [] (0, 0) (E, zg G, zk L, r) Q = Q (E, zg (faG H D k T'.2.1), zk L, r) (.int (zi 0))) := by
  have h0 := h.1.1
  unfold rdList
  have la := fun Q => c5_listAt (G := G) (L := L) (Q := Q) (s := cl) h.1 (by omega)
  have la' : ∀ Q, RK MX5_listAt 0 [.ref D, .int (zi (G D 12))] [] (0, 0) (E, zg G, zk L, r) Q = Q (E, zg G, zk L, r) (if cl < 3 then .ref (D + 30 + 2 * cl) else .null) := fun Q => by
    rw [hcl]
    exact la Q
  by_cases c3 : 3 ≤ cl
  · rw [if_pos c3]
    have c3' : ¬ cl < 3 := by omega
    refine Or.inr ⟨5, T, G, rfl, ⟨fun _ _ => rfl, rfl, rfl, rfl, hw⟩, fun Q => ?_⟩
    simp (disch := first | assumption | exact c2_int _ | exact c2_ref _ | exact c2_jk | exact c2_null | omega | (apply rN1; assumption) | (apply rN2; assumption) | (apply rN3; assumption) | (apply rN4; assumption) | exact bI_r _ | exact bI_01 _) only [↓fX5_readList_0, ↓fX5_readList_1, ↓fX5_readList_2, ↓fX5_readList_5, ↓fX5_readList_8, ↓fX5_readList_8n, ↓fX5_readList_9, ↓fX5_readList_9n, ↓fX5_readList_10, ↓fX5_readList_10r, ↓fX5_readList_13, ↓fX5_readList_14, ↓fX5_readList_15, ↓fX5_readList_18, ↓fX5_readList_19, ↓fX5_readList_20, ↓fX5_readList_23, ↓fX5_readList_24, ↓fX5_readList_27, ↓fX5_readList_30, ↓fX5_readList_31, ↓fX5_readList_32, ↓fX5_readList_32n, ↓fX5_readList_33, ↓fX5_readList_34, ↓fX5_readList_37, ↓fX5_readList_38, ↓fX5_readList_39, ↓fX5_readList_40, ↓fX5_readList_41, ↓fX5_readList_42, ↓fX5_readList_44, ↓fX5_readList_47, ↓fX5_readList_48, ↓fX5_readList_51, ↓fX5_readList_52, ↓fX5_readList_55, ↓fX5_readList_56, ↓fX5_readList_59, ↓fX5_readList_62, ↓fX5_readList_63, ↓fX5_readList_65, ↓fX5_readList_68, ↓fX5_readList_69, ↓fX5_readList_70, ↓fX5_readList_73, ↓fX5_readList_76, ↓fX5_readList_77, ↓fX5_readList_78, ↓fX5_readList_79, ↓fX5_readList_82, ↓fX5_readList_85, ↓fX5_readList_87, ↓fX5_readList_89, ↓fX5_readList_90, ↓fX5_readList_93, ↓fX5_readList_94, ↓fX5_readList_95, ↓fX5_readList_95n, ↓fX5_readList_96, ↓fX5_readList_98, ↓fX5_readList_101, ↓fX5_readList_103, ↓fX5_readList_104, ↓fX5_readList_105, ↓fX5_readList_106, ↓fX5_readList_109, ↓fX5_readList_112, ↓fX5_readList_113, ↓fX5_readList_116, ↓fX5_readList_119, ↓fX5_readList_120, ↓fX5_readList_121, ↓fX5_readList_122, ↓fX5_readList_123, ↓fX5_readList_126, ↓fX5_readList_127, ↓fX5_readList_128, ↓fX5_readList_131, ↓fX5_readList_132, ↓la', ↓PS_refuse h, c3', and_self, true_and, and_true, false_and, and_false, not_true_eq_false, not_false_eq_true, or_self, true_or, or_true, false_or, or_false, ite_not, Decidable.not_not, decide_eq_true_eq, Bool.not_true, Bool.not_false, Bool.false_eq_true, Bool.not_eq_true, n10, n20, n21, n30, n31, n32, n40, n41, n42, n43, ↓reduceIte]
  · rw [if_neg c3]
    have c3' : cl < 3 := by omega
    have hl := (h.1.2.2.2.2.2.1 cl c3').1
    have lk := fun Q => PS_look (L := L) (Q := Q) h
    have p1 := PS_se h (PS_nx h)
    generalize nxT B n T.2.2.1 = T1 at lk p1 ⊢
    have f1 : RF G (seT G D T1) D := RF_se hw
    have q4 : seT G D T1 (D + 4) = G (D + 4) := seT_q (by omega)
    have q5 : seT G D T1 (D + 5) = G (D + 5) := seT_q (by omega)
    have nm := PS_name (L := L) (c := c) p1 (by rw [seT_j (by omega), seT_j (by omega)]; exact hc) (by omega) (by rw [q4, q5]; exact hN)
    rw [q4, q5] at nm
    rcases nm with ⟨T2, a1, a2, a3⟩ | ⟨k, T', a1, a2⟩
    · simp only [a1]
      have f2 : RF G (nmG (seT G D T1) D c T1.2.1 T1.2.2.1) D := f1.trans (RF_nm f1.2.2.2.2)
      have n4 : nmG (seT G D T1) D c T1.2.1 T1.2.2.1 (D + 4) = upN (G (D + 4)) c T1.2.1 := by
        unfold nmG
        rw [u2_a _ _ _ _ (by omega)]
        funext j
        show (if D + 4 = D + 4 ∧ j = c then _ else _) = (if j = c then _ else _)
        rw [q4]
        simp only [true_and]
      have n5 : nmG (seT G D T1) D c T1.2.1 T1.2.2.1 (D + 5) = upN (G (D + 5)) c T1.2.2.1 := by
        unfold nmG
        funext j
        show (if D + 5 = D + 5 ∧ j = c then _ else u2 _ _ _ _ _ _) = (if j = c then _ else _)
        rw [u2_a _ _ _ _ (by omega), q5]
        simp only [true_and]
      have n0 : ∀ x, x ≠ D → x ≠ D + 4 → x ≠ D + 5 → nmG (seT G D T1) D c T1.2.1 T1.2.2.1 x = G x := fun x x1 x2 x3 => (nmG_q x2 x3).trans (seT_q x1)
      have nD : ∀ j, j < 5 ∨ 8 < j → nmG (seT G D T1) D c T1.2.1 T1.2.2.1 D j = G D j := fun j hj => by
        rw [nmG_q (by omega) (by omega), seT_j hj]
      generalize nmG (seT G D T1) D c T1.2.1 T1.2.2.1 = G2 at a2 a3 f2 n4 n5 n0 nD
      have l0 := hl.1
      have hz : u2 (seT G2 D T2) (D + 30 + 2 * cl) 1 0 = lsG (seT G2 D T2) (D + 30 + 2 * cl) 0 (fun _ => 0) := lsG_0
      have hd : ∀ Q, RK MX5_readList 0 [.ref D, jk, jk, jk, jk] [] (0, 0) (E, zg G, zk L, r) Q = RK MX5_readList 41 [.ref D, .ref (D + 30 + 2 * cl), .int (zi 0), .int (zi ((0 : Nat) : Int)), jk] [] (0, 0) (E, zg (lsG (seT G2 D T2) (D + 30 + 2 * cl) 0 (fun _ => 0)), zk L, r) Q := fun Q => by
        rw [← hz]
        simp (disch := first | assumption | exact c2_int _ | exact c2_ref _ | exact c2_jk | exact c2_null | omega | (apply rN1; assumption) | (apply rN2; assumption) | (apply rN3; assumption) | (apply rN4; assumption) | exact bI_r _ | exact bI_01 _) only [↓fX5_readList_0, ↓fX5_readList_1, ↓fX5_readList_2, ↓fX5_readList_5, ↓fX5_readList_8, ↓fX5_readList_8n, ↓fX5_readList_9, ↓fX5_readList_9n, ↓fX5_readList_10, ↓fX5_readList_10r, ↓fX5_readList_13, ↓fX5_readList_14, ↓fX5_readList_15, ↓fX5_readList_18, ↓fX5_readList_19, ↓fX5_readList_20, ↓fX5_readList_23, ↓fX5_readList_24, ↓fX5_readList_27, ↓fX5_readList_30, ↓fX5_readList_31, ↓fX5_readList_32, ↓fX5_readList_32n, ↓fX5_readList_33, ↓fX5_readList_34, ↓fX5_readList_37, ↓fX5_readList_38, ↓fX5_readList_39, ↓fX5_readList_40, ↓fX5_readList_42, ↓fX5_readList_44, ↓fX5_readList_47, ↓fX5_readList_48, ↓fX5_readList_51, ↓fX5_readList_52, ↓fX5_readList_55, ↓fX5_readList_56, ↓fX5_readList_59, ↓fX5_readList_62, ↓fX5_readList_63, ↓fX5_readList_65, ↓fX5_readList_68, ↓fX5_readList_69, ↓fX5_readList_70, ↓fX5_readList_73, ↓fX5_readList_76, ↓fX5_readList_77, ↓fX5_readList_78, ↓fX5_readList_79, ↓fX5_readList_82, ↓fX5_readList_85, ↓fX5_readList_87, ↓fX5_readList_89, ↓fX5_readList_90, ↓fX5_readList_93, ↓fX5_readList_94, ↓fX5_readList_95, ↓fX5_readList_95n, ↓fX5_readList_96, ↓fX5_readList_98, ↓fX5_readList_101, ↓fX5_readList_103, ↓fX5_readList_104, ↓fX5_readList_105, ↓fX5_readList_106, ↓fX5_readList_109, ↓fX5_readList_112, ↓fX5_readList_113, ↓fX5_readList_116, ↓fX5_readList_119, ↓fX5_readList_120, ↓fX5_readList_121, ↓fX5_readList_122, ↓fX5_readList_123, ↓fX5_readList_126, ↓fX5_readList_127, ↓fX5_readList_128, ↓fX5_readList_131, ↓fX5_readList_132, ↓la', ↓lk, ↓a3, c3', and_self, true_and, and_true, false_and, and_false, not_true_eq_false, not_false_eq_true, or_self, true_or, or_true, false_or, or_false, ite_not, Decidable.not_not, decide_eq_true_eq, Bool.not_true, Bool.not_false, Bool.false_eq_true, Bool.not_eq_true, n10, n20, n21, n30, n31, n32, n40, n41, n42, n43, ↓reduceIte]
        rfl
      rcases list_loop (L := L) (G := G2) hl (by omega) 11 0 (fun _ => 0) 0 T2 jk c2_jk a2 (by omega) (by omega) (by omega) (fun j hj => absurd hj (by omega)) with ⟨i, g', T3, le', lv', b1, b2, b3, b4, b5⟩ | ⟨kf, T', i, g', b1, b2, b3, b4⟩
      · simp only [b1]
        have ps3 := PS_ls (l := D + 30 + 2 * cl) (i := i) (g := g') (by omega) b4
        rcases PS_sign (L := L) ps3 with ⟨T4, s1, s2, s3⟩ | ⟨k, T', s1, s2⟩
        · simp only [s1]
          rw [seT_lsG (by omega), seT_seT] at s2 s3
          have w2 : RW (seT G2 D T4) D := (RF_se f2.2.2.2.2).2.2.2.2
          have f5 : RF G (lsG (seT G2 D T4) (D + 30 + 2 * cl) i g') D := (f2.trans (RF_se f2.2.2.2.2)).trans (RF_ls w2 c3' b2.2 b3)
          have eD : ∀ j, j < 5 ∨ 8 < j → lsG (seT G2 D T4) (D + 30 + 2 * cl) i g' D j = G D j := fun j hj => by
            rw [lsG_q (by omega) (by omega), seT_j hj, nD j hj]
          refine Or.inl ⟨i, g', T4, u2 (lsG (seT G2 D T4) (D + 30 + 2 * cl) i g') D 12 ((cl : Int) + 1), rfl, c3', b2, b3, PS_c s2 (fun x x1 x2 => u2_a _ _ _ _ x2) ⟨u2_i _ _ _ _ (by decide), u2_i _ _ _ _ (by decide), u2_i _ _ _ _ (by decide), u2_i _ _ _ _ (by decide), u2_i _ _ _ _ (by decide)⟩, ?_, u2_s _ _ _ _, ?_, ⟨?_, ?_⟩, ?_, ?_, fun x x1 x2 x3 => ?_, ?_, fun j hj => ?_, fun Q => ?_⟩
          · exact f5.trans ⟨fun x hx => u2_a _ _ _ _ (by omega), u2_a _ _ _ _ (by omega), u2_i _ _ _ _ (by decide), u2_i _ _ _ _ (by decide), RW_c f5.2.2.2.2 fun x hx => u2_a _ _ _ _ (by omega)⟩
          · rw [u2_i _ _ _ _ (by decide), eD 10 (by omega)]
          · rw [u2_i _ _ _ _ (by decide), eD 3 (by omega)]
          · rw [u2_i _ _ _ _ (by decide), eD 4 (by omega)]
          · rw [u2_a _ _ _ _ (by omega), lsG_q (by omega) (by omega), seT_q (by omega), n4]
          · rw [u2_a _ _ _ _ (by omega), lsG_q (by omega) (by omega), seT_q (by omega), n5]
          · rw [u2_a _ _ _ _ (by omega), lsG_q x2 x3, seT_q (by omega), n0 x (by omega) (by omega) (by omega)]
          · rw [u2_a _ _ _ _ (by omega), lsG_s]
          · rw [u2_a _ _ _ _ (by omega)]
            exact if_pos ⟨rfl, hj⟩
          · have e12 : lsG (seT G2 D T4) (D + 30 + 2 * cl) i g' D 12 = cl := (eD 12 (by omega)).trans hcl
            rw [hd, b5]
            simp (disch := first | assumption | exact c2_int _ | exact c2_ref _ | exact c2_jk | exact c2_null | omega | (apply rN1; assumption) | (apply rN2; assumption) | (apply rN3; assumption) | (apply rN4; assumption) | exact bI_r _ | exact bI_01 _) only [↓fX5_readList_0, ↓fX5_readList_1, ↓fX5_readList_2, ↓fX5_readList_5, ↓fX5_readList_8, ↓fX5_readList_8n, ↓fX5_readList_9, ↓fX5_readList_9n, ↓fX5_readList_10, ↓fX5_readList_10r, ↓fX5_readList_13, ↓fX5_readList_14, ↓fX5_readList_15, ↓fX5_readList_18, ↓fX5_readList_19, ↓fX5_readList_20, ↓fX5_readList_23, ↓fX5_readList_24, ↓fX5_readList_27, ↓fX5_readList_30, ↓fX5_readList_31, ↓fX5_readList_32, ↓fX5_readList_32n, ↓fX5_readList_33, ↓fX5_readList_34, ↓fX5_readList_37, ↓fX5_readList_38, ↓fX5_readList_39, ↓fX5_readList_40, ↓fX5_readList_42, ↓fX5_readList_44, ↓fX5_readList_47, ↓fX5_readList_48, ↓fX5_readList_51, ↓fX5_readList_52, ↓fX5_readList_55, ↓fX5_readList_56, ↓fX5_readList_59, ↓fX5_readList_62, ↓fX5_readList_63, ↓fX5_readList_65, ↓fX5_readList_68, ↓fX5_readList_69, ↓fX5_readList_70, ↓fX5_readList_73, ↓fX5_readList_76, ↓fX5_readList_77, ↓fX5_readList_78, ↓fX5_readList_79, ↓fX5_readList_82, ↓fX5_readList_85, ↓fX5_readList_87, ↓fX5_readList_89, ↓fX5_readList_90, ↓fX5_readList_93, ↓fX5_readList_94, ↓fX5_readList_95, ↓fX5_readList_95n, ↓fX5_readList_96, ↓fX5_readList_98, ↓fX5_readList_101, ↓fX5_readList_103, ↓fX5_readList_104, ↓fX5_readList_105, ↓fX5_readList_106, ↓fX5_readList_109, ↓fX5_readList_112, ↓fX5_readList_113, ↓fX5_readList_116, ↓fX5_readList_119, ↓fX5_readList_120, ↓fX5_readList_121, ↓fX5_readList_122, ↓fX5_readList_123, ↓fX5_readList_126, ↓fX5_readList_127, ↓fX5_readList_128, ↓fX5_readList_131, ↓fX5_readList_132, ↓s3, e12, and_self, true_and, and_true, false_and, and_false, not_true_eq_false, not_false_eq_true, or_self, true_or, or_true, false_or, or_false, ite_not, Decidable.not_not, decide_eq_true_eq, Bool.not_true, Bool.not_false, Bool.false_eq_true, Bool.not_eq_true, n10, n20, n21, n30, n31, n32, n40, n41, n42, n43, ↓reduceIte]
        · simp only [s1]
          rw [seT_lsG (by omega), seT_seT] at s2
          have w2 : RW (seT G2 D T') D := (RF_se f2.2.2.2.2).2.2.2.2
          refine Or.inr ⟨k, T', _, rfl, (f2.trans (RF_se f2.2.2.2.2)).trans (RF_ls w2 c3' b2.2 b3), fun Q => ?_⟩
          rw [hd, b5]
          simp (disch := first | assumption | exact c2_int _ | exact c2_ref _ | exact c2_jk | exact c2_null | omega | (apply rN1; assumption) | (apply rN2; assumption) | (apply rN3; assumption) | (apply rN4; assumption) | exact bI_r _ | exact bI_01 _) only [↓fX5_readList_0, ↓fX5_readList_1, ↓fX5_readList_2, ↓fX5_readList_5, ↓fX5_readList_8, ↓fX5_readList_8n, ↓fX5_readList_9, ↓fX5_readList_9n, ↓fX5_readList_10, ↓fX5_readList_10r, ↓fX5_readList_13, ↓fX5_readList_14, ↓fX5_readList_15, ↓fX5_readList_18, ↓fX5_readList_19, ↓fX5_readList_20, ↓fX5_readList_23, ↓fX5_readList_24, ↓fX5_readList_27, ↓fX5_readList_30, ↓fX5_readList_31, ↓fX5_readList_32, ↓fX5_readList_32n, ↓fX5_readList_33, ↓fX5_readList_34, ↓fX5_readList_37, ↓fX5_readList_38, ↓fX5_readList_39, ↓fX5_readList_40, ↓fX5_readList_42, ↓fX5_readList_44, ↓fX5_readList_47, ↓fX5_readList_48, ↓fX5_readList_51, ↓fX5_readList_52, ↓fX5_readList_55, ↓fX5_readList_56, ↓fX5_readList_59, ↓fX5_readList_62, ↓fX5_readList_63, ↓fX5_readList_65, ↓fX5_readList_68, ↓fX5_readList_69, ↓fX5_readList_70, ↓fX5_readList_73, ↓fX5_readList_76, ↓fX5_readList_77, ↓fX5_readList_78, ↓fX5_readList_79, ↓fX5_readList_82, ↓fX5_readList_85, ↓fX5_readList_87, ↓fX5_readList_89, ↓fX5_readList_90, ↓fX5_readList_93, ↓fX5_readList_94, ↓fX5_readList_95, ↓fX5_readList_95n, ↓fX5_readList_96, ↓fX5_readList_98, ↓fX5_readList_101, ↓fX5_readList_103, ↓fX5_readList_104, ↓fX5_readList_105, ↓fX5_readList_106, ↓fX5_readList_109, ↓fX5_readList_112, ↓fX5_readList_113, ↓fX5_readList_116, ↓fX5_readList_119, ↓fX5_readList_120, ↓fX5_readList_121, ↓fX5_readList_122, ↓fX5_readList_123, ↓fX5_readList_126, ↓fX5_readList_127, ↓fX5_readList_128, ↓fX5_readList_131, ↓fX5_readList_132, ↓s2, and_self, true_and, and_true, false_and, and_false, not_true_eq_false, not_false_eq_true, or_self, true_or, or_true, false_or, or_false, ite_not, Decidable.not_not, decide_eq_true_eq, Bool.not_true, Bool.not_false, Bool.false_eq_true, Bool.not_eq_true, n10, n20, n21, n30, n31, n32, n40, n41, n42, n43, ↓reduceIte]
      · simp only [b1]
        have w2 : RW (seT G2 D T') D := (RF_se f2.2.2.2.2).2.2.2.2
        exact Or.inr ⟨kf, T', _, rfl, (f2.trans (RF_se f2.2.2.2.2)).trans (RF_ls w2 c3' b2 b3), fun Q => (hd Q).trans (b4 Q)⟩
    · simp only [a1]
      rw [seT_seT] at a2
      refine Or.inr ⟨k, T', seT G D T', rfl, RF_se hw, fun Q => ?_⟩
      simp (disch := first | assumption | exact c2_int _ | exact c2_ref _ | exact c2_jk | exact c2_null | omega | (apply rN1; assumption) | (apply rN2; assumption) | (apply rN3; assumption) | (apply rN4; assumption) | exact bI_r _ | exact bI_01 _) only [↓fX5_readList_0, ↓fX5_readList_1, ↓fX5_readList_2, ↓fX5_readList_5, ↓fX5_readList_8, ↓fX5_readList_8n, ↓fX5_readList_9, ↓fX5_readList_9n, ↓fX5_readList_10, ↓fX5_readList_10r, ↓fX5_readList_13, ↓fX5_readList_14, ↓fX5_readList_15, ↓fX5_readList_18, ↓fX5_readList_19, ↓fX5_readList_20, ↓fX5_readList_23, ↓fX5_readList_24, ↓fX5_readList_27, ↓fX5_readList_30, ↓fX5_readList_31, ↓fX5_readList_32, ↓fX5_readList_32n, ↓fX5_readList_33, ↓fX5_readList_34, ↓fX5_readList_37, ↓fX5_readList_38, ↓fX5_readList_39, ↓fX5_readList_40, ↓fX5_readList_42, ↓fX5_readList_44, ↓fX5_readList_47, ↓fX5_readList_48, ↓fX5_readList_51, ↓fX5_readList_52, ↓fX5_readList_55, ↓fX5_readList_56, ↓fX5_readList_59, ↓fX5_readList_62, ↓fX5_readList_63, ↓fX5_readList_65, ↓fX5_readList_68, ↓fX5_readList_69, ↓fX5_readList_70, ↓fX5_readList_73, ↓fX5_readList_76, ↓fX5_readList_77, ↓fX5_readList_78, ↓fX5_readList_79, ↓fX5_readList_82, ↓fX5_readList_85, ↓fX5_readList_87, ↓fX5_readList_89, ↓fX5_readList_90, ↓fX5_readList_93, ↓fX5_readList_94, ↓fX5_readList_95, ↓fX5_readList_95n, ↓fX5_readList_96, ↓fX5_readList_98, ↓fX5_readList_101, ↓fX5_readList_103, ↓fX5_readList_104, ↓fX5_readList_105, ↓fX5_readList_106, ↓fX5_readList_109, ↓fX5_readList_112, ↓fX5_readList_113, ↓fX5_readList_116, ↓fX5_readList_119, ↓fX5_readList_120, ↓fX5_readList_121, ↓fX5_readList_122, ↓fX5_readList_123, ↓fX5_readList_126, ↓fX5_readList_127, ↓fX5_readList_128, ↓fX5_readList_131, ↓fX5_readList_132, ↓la', ↓lk, ↓a2, c3', and_self, true_and, and_true, false_and, and_false, not_true_eq_false, not_false_eq_true, or_self, true_or, or_true, false_or, or_false, ite_not, Decidable.not_not, decide_eq_true_eq, Bool.not_true, Bool.not_false, Bool.false_eq_true, Bool.not_eq_true, n10, n20, n21, n30, n31, n32, n40, n41, n42, n43, ↓reduceIte]
end BS
