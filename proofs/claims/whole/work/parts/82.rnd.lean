/-! The reference's rounds. -/
def upF (ρ : Nat → Int) (k : Nat) (v : Int) : Nat → Int := fun j => if j = k then v else ρ j
/-- a slot that holds ρ -/
def wsG (G : Nat → Nat → Int) (m : Nat) (s : Int) (ρ : Nat → Int) : Nat → Nat → Int := fun x j => if x = m + 1 ∧ (1824 * s).toNat ≤ j ∧ j < (1824 * s).toNat + 1824 then ρ (j - (1824 * s).toNat) else G x j
/-- only a slot and what is at hand are written -/
def KW (G G' : Nat → Nat → Int) (m : Nat) (s : Int) : Prop := (∀ x, x ≠ m → x ≠ m + 1 → x ≠ m + 7 → G' x = G x) ∧ (∀ j, j ≠ 12 → G' m j = G m j) ∧ ∀ k : Nat, (k < (1824 * s).toNat ∨ (1824 * s).toNat + 1824 ≤ k) → G' (m + 1) k = G (m + 1) k
def gmS (σ : Nat → Int) : Int := if glS σ < 0 then 0 else glS σ
def nmS (σ : Nat → Int) : Int := if ngS σ = -1 then 0 else ngS σ
section BM
variable {E : AE} {G G1 G2 G' L : Nat → Nat → Int} {r : Nat → Nat → Option Nat} {h : AH} {Q : AH → Value → Prop} {m M n : Nat} {σ τ : Nat → Int} {P : Int → Bool} {s o y x w i p v lo hi t b d e c f g k : Int}
theorem KW.rf (G : Nat → Nat → Int) (m : Nat) (s : Int) : KW G G m s := ⟨fun _ _ _ _ => rfl, fun _ _ => rfl, fun _ _ => rfl⟩
theorem KW.trans (h1 : KW G G1 m s) (h2 : KW G1 G2 m s) : KW G G2 m s := ⟨fun x a b c => (h2.1 x a b c).trans (h1.1 x a b c), fun j a => (h2.2.1 j a).trans (h1.2.1 j a), fun k hk => (h2.2.2 k hk).trans (h1.2.2 k hk)⟩
theorem KW_ly : KW G (lyG G m P M) m s := ⟨fun x a b c => lyG_q a c, fun j a => lyG_j a, fun k _ => by rw [lyG_q (by omega) (by omega)]⟩
theorem KW_ws {ρ : Nat → Int} : KW G (wsG G m s ρ) m s := ⟨fun x a b c => by
  funext j
  exact if_neg fun z => b z.1, fun j a => if_neg fun z => by omega, fun k hk => if_neg fun z => by omega⟩
theorem KW_SL (h : KW G G1 m s) (hs : 0 ≤ s ∧ s ≤ 4) (ho : 0 ≤ o ∧ o ≤ 4) (hne : o ≠ s) (hl : SL G m o τ) : SL G1 m o τ := fun k hk => by
  rw [h.2.2 _ (by omega)]
  exact hl k hk
theorem ws_SL {ρ : Nat → Int} (hs : 0 ≤ s) : SL (wsG G m s ρ) m s ρ := fun k hk => by
  unfold wsG
  rw [if_pos ⟨rfl, by omega, by omega⟩]
  congr 1
  omega
theorem ws_id (hs : 0 ≤ s) (hl : SL G m s σ) : wsG G m s σ = G := by
  funext x j
  unfold wsG
  by_cases c : x = m + 1 ∧ (1824 * s).toNat ≤ j ∧ j < (1824 * s).toNat + 1824
  · rw [if_pos c, c.1, ← hl (j - (1824 * s).toNat) (by omega)]
    congr 1
    omega
  · rw [if_neg c]
theorem ws_up {ρ : Nat → Int} (hs : 0 ≤ s) {k : Nat} (hk : k < 1824) {q : Nat} (hq : (q : Int) = 1824 * s + k) : u2 (wsG G m s ρ) (m + 1) q v = wsG G m s (upF ρ k v) := by
  funext x j
  show (if x = m + 1 ∧ j = q then v else if x = m + 1 ∧ (1824 * s).toNat ≤ j ∧ j < (1824 * s).toNat + 1824 then ρ (j - (1824 * s).toNat) else G x j) = if x = m + 1 ∧ (1824 * s).toNat ≤ j ∧ j < (1824 * s).toNat + 1824 then (if j - (1824 * s).toNat = k then v else ρ (j - (1824 * s).toNat)) else G x j
  by_cases c : x = m + 1 ∧ (1824 * s).toNat ≤ j ∧ j < (1824 * s).toNat + 1824
  · rw [if_pos c, if_pos c]
    by_cases c2 : j = q
    · rw [if_pos ⟨c.1, c2⟩, if_pos (by omega)]
    · rw [if_neg (fun z => c2 z.2), if_neg (by omega)]
  · rw [if_neg c, if_neg c, if_neg (fun z => c ⟨z.1, by omega, by omega⟩)]
theorem ws_q {ρ : Nat → Int} {x : Nat} (h : x ≠ m + 1) : wsG G m s ρ x = G x := by
  funext j
  exact if_neg fun z => h z.1
theorem m_at2 (hm : shM E r m) (hs : 0 ≤ s ∧ s ≤ 4) (hl : SL G m s τ) (e1 : τ 1 = σ 1) (e2 : τ 2 = σ 2) (hW : WF σ) (hl2 : LAS G m σ) (hp : 1 ≤ p ∧ p ≤ szS σ) : RK MX10_at 0 [.ref m, .int (zi s), .int (zi p)] [] (0, 0) (E, zg G, zk L, r) Q = Q (E, zg G, zk L, r) (.int (zi (nAS σ p))) := by
  have m0 := hm.1
  obtain ⟨k7, l7, r7⟩ := hm.2.2.2.2.2.2.2.1
  have w3 := hW.2.2.2.1
  have e := hl2.2 p hp.1 hp.2
  have b := ixN_ok (hbS σ) (σ 3).toNat p hp.1 hp.2
  have hz := szS_b hW
  have en : nAS σ p = σ 1 + σ 2 * (ixN (hbS σ) (σ 3).toNat p : Int) := if_pos hp
  rw [en, ← e1, ← e2]
  simp (disch := first | assumption | exact c2_int _ | exact c2_ref _ | exact c2_jk | exact c2_null | omega | exact bI_r _ | exact bI_01 _) only [↓fX10_at_0, ↓fX10_at_1, ↓fX10_at_2, ↓fX10_at_3, ↓fX10_at_6, ↓fX10_at_7, ↓fX10_at_8, ↓fX10_at_9, ↓fX10_at_10, ↓fX10_at_13, ↓m_numberAt, e]
theorem m_strikes (hm : shM E r m) (hs : 0 ≤ s ∧ s ≤ 4) (hl : SL G m s τ) (e0 : τ 0 = σ 0) (e1 : τ 1 = σ 1) (e2 : τ 2 = σ 2) (hW : WF σ) (hl2 : LAS G m σ) (hp : 1 ≤ p ∧ p ≤ szS σ) (hg : 2 ≤ g ∧ g ≤ 100000) : RK MX10_strikes 0 [.ref m, .int (zi s), .int (zi (σ 4 + 1)), .int (zi g), .int (zi p)] [] (0, 0) (E, zg G, zk L, r) Q = Q (E, zg G, zk L, r) (.int (zi (bI (spC (σ 0) (σ 4) p (nAS σ p) g = true)))) := by
  have m0 := hm.1
  have hz := szS_b hW
  have w0 := hW.1
  have w4 := hW.2.2.2.2.1
  have w5 := WF_5 hW
  have hn := nAS_0 hW hp
  have hg0 : 0 < g := by omega
  have r1 : ∀ z : Int, I32 (z % g) := fun z => by
    have h1 := Int.emod_nonneg z (show g ≠ 0 by omega)
    have h2 := Int.emod_lt_of_pos z hg0
    exact ⟨by omega, by omega⟩
  have ek : ∀ Q, RK MX10_of 0 [.ref m, .int (zi s), .int (zi 0)] [] (0, 0) (E, zg G, zk L, r) Q = Q (E, zg G, zk L, r) (.int (zi (σ 0))) := fun Q => by
    rw [m_of hm hs (by decide) hl]
    rw [show (0 : Int).toNat = 0 from rfl, e0]
  have ea := fun Q => m_at2 (L := L) (Q := Q) hm hs hl e1 e2 hW hl2 hp
  unfold spC
  by_cases k2 : σ 0 = 2
  · rw [if_pos k2]
    by_cases h1 : p ≤ σ 4 + 1 + 1
    · have h2 : ¬ (σ 4 + 2 < p ∧ (p - (σ 4 + 2)) % g = 0) := by omega
      rw [decide_eq_false h2, bI_n (by decide)]
      simp (disch := first | assumption | exact c2_int _ | exact c2_ref _ | exact c2_jk | exact c2_null | omega | exact bI_r _ | exact bI_01 _ | exact r1 _) only [↓fX10_strikes_0, ↓fX10_strikes_1, ↓fX10_strikes_2, ↓fX10_strikes_3, ↓fX10_strikes_6_2, ↓fX10_strikes_6_3, ↓fX10_strikes_6_d, ↓fX10_strikes_32, ↓fX10_strikes_34, ↓fX10_strikes_35, ↓fX10_strikes_36, ↓fX10_strikes_37, ↓fX10_strikes_40, ↓fX10_strikes_42, ↓fX10_strikes_43, ↓fX10_strikes_44, ↓fX10_strikes_45, ↓fX10_strikes_46, ↓fX10_strikes_47, ↓fX10_strikes_48, ↓fX10_strikes_51, ↓fX10_strikes_52, ↓fX10_strikes_55, ↓fX10_strikes_56, ↓fX10_strikes_57, ↓fX10_strikes_59, ↓fX10_strikes_60, ↓fX10_strikes_61, ↓fX10_strikes_62, ↓fX10_strikes_65, ↓fX10_strikes_66, ↓fX10_strikes_67, ↓fX10_strikes_69, ↓fX10_strikes_72, ↓fX10_strikes_73, ↓fX10_strikes_74, ↓fX10_strikes_77, ↓fX10_strikes_78, ↓fX10_strikes_81, ↓fX10_strikes_82, ↓fX10_strikes_83, ↓fX10_strikes_85, ↓fX10_strikes_86, ↓fX10_strikes_87, ↓fX10_strikes_90, ↓fX10_strikes_91, ↓fX10_strikes_94, ↓fX10_strikes_95, ↓ek, k2, h1, and_self, true_and, and_true, false_and, and_false, not_true_eq_false, not_false_eq_true, or_self, true_or, or_true, false_or, or_false, ite_not, Decidable.not_not, decide_eq_true_eq, Bool.not_true, Bool.not_false, Bool.false_eq_true, Bool.not_eq_true, n10, n20, n21, n30, n31, n32, n40, n41, n42, n43, ↓reduceIte]
    · have es : p - (σ 4 + 1) - 1 = p - (σ 4 + 2) := by omega
      by_cases h3 : (p - (σ 4 + 2)) % g = 0
      · rw [decide_eq_true ⟨by omega, h3⟩, bI_p rfl]
        simp (disch := first | assumption | exact c2_int _ | exact c2_ref _ | exact c2_jk | exact c2_null | omega | exact bI_r _ | exact bI_01 _ | exact r1 _) only [↓fX10_strikes_0, ↓fX10_strikes_1, ↓fX10_strikes_2, ↓fX10_strikes_3, ↓fX10_strikes_6_2, ↓fX10_strikes_6_3, ↓fX10_strikes_6_d, ↓fX10_strikes_32, ↓fX10_strikes_34, ↓fX10_strikes_35, ↓fX10_strikes_36, ↓fX10_strikes_37, ↓fX10_strikes_40, ↓fX10_strikes_42, ↓fX10_strikes_43, ↓fX10_strikes_44, ↓fX10_strikes_45, ↓fX10_strikes_46, ↓fX10_strikes_47, ↓fX10_strikes_48, ↓fX10_strikes_51, ↓fX10_strikes_52, ↓fX10_strikes_55, ↓fX10_strikes_56, ↓fX10_strikes_57, ↓fX10_strikes_59, ↓fX10_strikes_60, ↓fX10_strikes_61, ↓fX10_strikes_62, ↓fX10_strikes_65, ↓fX10_strikes_66, ↓fX10_strikes_67, ↓fX10_strikes_69, ↓fX10_strikes_72, ↓fX10_strikes_73, ↓fX10_strikes_74, ↓fX10_strikes_77, ↓fX10_strikes_78, ↓fX10_strikes_81, ↓fX10_strikes_82, ↓fX10_strikes_83, ↓fX10_strikes_85, ↓fX10_strikes_86, ↓fX10_strikes_87, ↓fX10_strikes_90, ↓fX10_strikes_91, ↓fX10_strikes_94, ↓fX10_strikes_95, ↓ek, k2, h1, es, h3, and_self, true_and, and_true, false_and, and_false, not_true_eq_false, not_false_eq_true, or_self, true_or, or_true, false_or, or_false, ite_not, Decidable.not_not, decide_eq_true_eq, Bool.not_true, Bool.not_false, Bool.false_eq_true, Bool.not_eq_true, n10, n20, n21, n30, n31, n32, n40, n41, n42, n43, ↓reduceIte]
      · rw [decide_eq_false (fun z => h3 z.2), bI_n (by decide)]
        simp (disch := first | assumption | exact c2_int _ | exact c2_ref _ | exact c2_jk | exact c2_null | omega | exact bI_r _ | exact bI_01 _ | exact r1 _) only [↓fX10_strikes_0, ↓fX10_strikes_1, ↓fX10_strikes_2, ↓fX10_strikes_3, ↓fX10_strikes_6_2, ↓fX10_strikes_6_3, ↓fX10_strikes_6_d, ↓fX10_strikes_32, ↓fX10_strikes_34, ↓fX10_strikes_35, ↓fX10_strikes_36, ↓fX10_strikes_37, ↓fX10_strikes_40, ↓fX10_strikes_42, ↓fX10_strikes_43, ↓fX10_strikes_44, ↓fX10_strikes_45, ↓fX10_strikes_46, ↓fX10_strikes_47, ↓fX10_strikes_48, ↓fX10_strikes_51, ↓fX10_strikes_52, ↓fX10_strikes_55, ↓fX10_strikes_56, ↓fX10_strikes_57, ↓fX10_strikes_59, ↓fX10_strikes_60, ↓fX10_strikes_61, ↓fX10_strikes_62, ↓fX10_strikes_65, ↓fX10_strikes_66, ↓fX10_strikes_67, ↓fX10_strikes_69, ↓fX10_strikes_72, ↓fX10_strikes_73, ↓fX10_strikes_74, ↓fX10_strikes_77, ↓fX10_strikes_78, ↓fX10_strikes_81, ↓fX10_strikes_82, ↓fX10_strikes_83, ↓fX10_strikes_85, ↓fX10_strikes_86, ↓fX10_strikes_87, ↓fX10_strikes_90, ↓fX10_strikes_91, ↓fX10_strikes_94, ↓fX10_strikes_95, ↓ek, k2, h1, es, h3, and_self, true_and, and_true, false_and, and_false, not_true_eq_false, not_false_eq_true, or_self, true_or, or_true, false_or, or_false, ite_not, Decidable.not_not, decide_eq_true_eq, Bool.not_true, Bool.not_false, Bool.false_eq_true, Bool.not_eq_true, n10, n20, n21, n30, n31, n32, n40, n41, n42, n43, ↓reduceIte]
  · rw [if_neg k2]
    by_cases k3 : σ 0 = 3
    · rw [if_pos k3]
      by_cases h1 : p ≤ σ 4 + 1 + 1
      · have h2 : ¬ (σ 4 + 2 < p ∧ nAS σ p % g = 0) := by omega
        rw [decide_eq_false h2, bI_n (by decide)]
        simp (disch := first | assumption | exact c2_int _ | exact c2_ref _ | exact c2_jk | exact c2_null | omega | exact bI_r _ | exact bI_01 _ | exact r1 _) only [↓fX10_strikes_0, ↓fX10_strikes_1, ↓fX10_strikes_2, ↓fX10_strikes_3, ↓fX10_strikes_6_2, ↓fX10_strikes_6_3, ↓fX10_strikes_6_d, ↓fX10_strikes_32, ↓fX10_strikes_34, ↓fX10_strikes_35, ↓fX10_strikes_36, ↓fX10_strikes_37, ↓fX10_strikes_40, ↓fX10_strikes_42, ↓fX10_strikes_43, ↓fX10_strikes_44, ↓fX10_strikes_45, ↓fX10_strikes_46, ↓fX10_strikes_47, ↓fX10_strikes_48, ↓fX10_strikes_51, ↓fX10_strikes_52, ↓fX10_strikes_55, ↓fX10_strikes_56, ↓fX10_strikes_57, ↓fX10_strikes_59, ↓fX10_strikes_60, ↓fX10_strikes_61, ↓fX10_strikes_62, ↓fX10_strikes_65, ↓fX10_strikes_66, ↓fX10_strikes_67, ↓fX10_strikes_69, ↓fX10_strikes_72, ↓fX10_strikes_73, ↓fX10_strikes_74, ↓fX10_strikes_77, ↓fX10_strikes_78, ↓fX10_strikes_81, ↓fX10_strikes_82, ↓fX10_strikes_83, ↓fX10_strikes_85, ↓fX10_strikes_86, ↓fX10_strikes_87, ↓fX10_strikes_90, ↓fX10_strikes_91, ↓fX10_strikes_94, ↓fX10_strikes_95, ↓ek, k3, h1, and_self, true_and, and_true, false_and, and_false, not_true_eq_false, not_false_eq_true, or_self, true_or, or_true, false_or, or_false, ite_not, Decidable.not_not, decide_eq_true_eq, Bool.not_true, Bool.not_false, Bool.false_eq_true, Bool.not_eq_true, n10, n20, n21, n30, n31, n32, n40, n41, n42, n43, ↓reduceIte]
      · by_cases h3 : nAS σ p % g = 0
        · rw [decide_eq_true ⟨by omega, h3⟩, bI_p rfl]
          simp (disch := first | assumption | exact c2_int _ | exact c2_ref _ | exact c2_jk | exact c2_null | omega | exact bI_r _ | exact bI_01 _ | exact r1 _) only [↓fX10_strikes_0, ↓fX10_strikes_1, ↓fX10_strikes_2, ↓fX10_strikes_3, ↓fX10_strikes_6_2, ↓fX10_strikes_6_3, ↓fX10_strikes_6_d, ↓fX10_strikes_32, ↓fX10_strikes_34, ↓fX10_strikes_35, ↓fX10_strikes_36, ↓fX10_strikes_37, ↓fX10_strikes_40, ↓fX10_strikes_42, ↓fX10_strikes_43, ↓fX10_strikes_44, ↓fX10_strikes_45, ↓fX10_strikes_46, ↓fX10_strikes_47, ↓fX10_strikes_48, ↓fX10_strikes_51, ↓fX10_strikes_52, ↓fX10_strikes_55, ↓fX10_strikes_56, ↓fX10_strikes_57, ↓fX10_strikes_59, ↓fX10_strikes_60, ↓fX10_strikes_61, ↓fX10_strikes_62, ↓fX10_strikes_65, ↓fX10_strikes_66, ↓fX10_strikes_67, ↓fX10_strikes_69, ↓fX10_strikes_72, ↓fX10_strikes_73, ↓fX10_strikes_74, ↓fX10_strikes_77, ↓fX10_strikes_78, ↓fX10_strikes_81, ↓fX10_strikes_82, ↓fX10_strikes_83, ↓fX10_strikes_85, ↓fX10_strikes_86, ↓fX10_strikes_87, ↓fX10_strikes_90, ↓fX10_strikes_91, ↓fX10_strikes_94, ↓fX10_strikes_95, ↓ek, ↓ea, k3, h1, h3, and_self, true_and, and_true, false_and, and_false, not_true_eq_false, not_false_eq_true, or_self, true_or, or_true, false_or, or_false, ite_not, Decidable.not_not, decide_eq_true_eq, Bool.not_true, Bool.not_false, Bool.false_eq_true, Bool.not_eq_true, n10, n20, n21, n30, n31, n32, n40, n41, n42, n43, ↓reduceIte]
        · rw [decide_eq_false (fun z => h3 z.2), bI_n (by decide)]
          simp (disch := first | assumption | exact c2_int _ | exact c2_ref _ | exact c2_jk | exact c2_null | omega | exact bI_r _ | exact bI_01 _ | exact r1 _) only [↓fX10_strikes_0, ↓fX10_strikes_1, ↓fX10_strikes_2, ↓fX10_strikes_3, ↓fX10_strikes_6_2, ↓fX10_strikes_6_3, ↓fX10_strikes_6_d, ↓fX10_strikes_32, ↓fX10_strikes_34, ↓fX10_strikes_35, ↓fX10_strikes_36, ↓fX10_strikes_37, ↓fX10_strikes_40, ↓fX10_strikes_42, ↓fX10_strikes_43, ↓fX10_strikes_44, ↓fX10_strikes_45, ↓fX10_strikes_46, ↓fX10_strikes_47, ↓fX10_strikes_48, ↓fX10_strikes_51, ↓fX10_strikes_52, ↓fX10_strikes_55, ↓fX10_strikes_56, ↓fX10_strikes_57, ↓fX10_strikes_59, ↓fX10_strikes_60, ↓fX10_strikes_61, ↓fX10_strikes_62, ↓fX10_strikes_65, ↓fX10_strikes_66, ↓fX10_strikes_67, ↓fX10_strikes_69, ↓fX10_strikes_72, ↓fX10_strikes_73, ↓fX10_strikes_74, ↓fX10_strikes_77, ↓fX10_strikes_78, ↓fX10_strikes_81, ↓fX10_strikes_82, ↓fX10_strikes_83, ↓fX10_strikes_85, ↓fX10_strikes_86, ↓fX10_strikes_87, ↓fX10_strikes_90, ↓fX10_strikes_91, ↓fX10_strikes_94, ↓fX10_strikes_95, ↓ek, ↓ea, k3, h1, h3, and_self, true_and, and_true, false_and, and_false, not_true_eq_false, not_false_eq_true, or_self, true_or, or_true, false_or, or_false, ite_not, Decidable.not_not, decide_eq_true_eq, Bool.not_true, Bool.not_false, Bool.false_eq_true, Bool.not_eq_true, n10, n20, n21, n30, n31, n32, n40, n41, n42, n43, ↓reduceIte]
    · rw [if_neg k3]
      by_cases h3 : p % g = 0
      · rw [decide_eq_true h3, bI_p rfl]
        simp (disch := first | assumption | exact c2_int _ | exact c2_ref _ | exact c2_jk | exact c2_null | omega | exact bI_r _ | exact bI_01 _ | exact r1 _) only [↓fX10_strikes_0, ↓fX10_strikes_1, ↓fX10_strikes_2, ↓fX10_strikes_3, ↓fX10_strikes_6_2, ↓fX10_strikes_6_3, ↓fX10_strikes_6_d, ↓fX10_strikes_32, ↓fX10_strikes_34, ↓fX10_strikes_35, ↓fX10_strikes_36, ↓fX10_strikes_37, ↓fX10_strikes_40, ↓fX10_strikes_42, ↓fX10_strikes_43, ↓fX10_strikes_44, ↓fX10_strikes_45, ↓fX10_strikes_46, ↓fX10_strikes_47, ↓fX10_strikes_48, ↓fX10_strikes_51, ↓fX10_strikes_52, ↓fX10_strikes_55, ↓fX10_strikes_56, ↓fX10_strikes_57, ↓fX10_strikes_59, ↓fX10_strikes_60, ↓fX10_strikes_61, ↓fX10_strikes_62, ↓fX10_strikes_65, ↓fX10_strikes_66, ↓fX10_strikes_67, ↓fX10_strikes_69, ↓fX10_strikes_72, ↓fX10_strikes_73, ↓fX10_strikes_74, ↓fX10_strikes_77, ↓fX10_strikes_78, ↓fX10_strikes_81, ↓fX10_strikes_82, ↓fX10_strikes_83, ↓fX10_strikes_85, ↓fX10_strikes_86, ↓fX10_strikes_87, ↓fX10_strikes_90, ↓fX10_strikes_91, ↓fX10_strikes_94, ↓fX10_strikes_95, ↓ek, k2, k3, h3, and_self, true_and, and_true, false_and, and_false, not_true_eq_false, not_false_eq_true, or_self, true_or, or_true, false_or, or_false, ite_not, Decidable.not_not, decide_eq_true_eq, Bool.not_true, Bool.not_false, Bool.false_eq_true, Bool.not_eq_true, n10, n20, n21, n30, n31, n32, n40, n41, n42, n43, ↓reduceIte]
      · rw [decide_eq_false h3, bI_n (by decide)]
        simp (disch := first | assumption | exact c2_int _ | exact c2_ref _ | exact c2_jk | exact c2_null | omega | exact bI_r _ | exact bI_01 _ | exact r1 _) only [↓fX10_strikes_0, ↓fX10_strikes_1, ↓fX10_strikes_2, ↓fX10_strikes_3, ↓fX10_strikes_6_2, ↓fX10_strikes_6_3, ↓fX10_strikes_6_d, ↓fX10_strikes_32, ↓fX10_strikes_34, ↓fX10_strikes_35, ↓fX10_strikes_36, ↓fX10_strikes_37, ↓fX10_strikes_40, ↓fX10_strikes_42, ↓fX10_strikes_43, ↓fX10_strikes_44, ↓fX10_strikes_45, ↓fX10_strikes_46, ↓fX10_strikes_47, ↓fX10_strikes_48, ↓fX10_strikes_51, ↓fX10_strikes_52, ↓fX10_strikes_55, ↓fX10_strikes_56, ↓fX10_strikes_57, ↓fX10_strikes_59, ↓fX10_strikes_60, ↓fX10_strikes_61, ↓fX10_strikes_62, ↓fX10_strikes_65, ↓fX10_strikes_66, ↓fX10_strikes_67, ↓fX10_strikes_69, ↓fX10_strikes_72, ↓fX10_strikes_73, ↓fX10_strikes_74, ↓fX10_strikes_77, ↓fX10_strikes_78, ↓fX10_strikes_81, ↓fX10_strikes_82, ↓fX10_strikes_83, ↓fX10_strikes_85, ↓fX10_strikes_86, ↓fX10_strikes_87, ↓fX10_strikes_90, ↓fX10_strikes_91, ↓fX10_strikes_94, ↓fX10_strikes_95, ↓ek, k2, k3, h3, and_self, true_and, and_true, false_and, and_false, not_true_eq_false, not_false_eq_true, or_self, true_or, or_true, false_or, or_false, ite_not, Decidable.not_not, decide_eq_true_eq, Bool.not_true, Bool.not_false, Bool.false_eq_true, Bool.not_eq_true, n10, n20, n21, n30, n31, n32, n40, n41, n42, n43, ↓reduceIte]
theorem m_gapOf (hm : shM E r m) (hs : 0 ≤ s ∧ s ≤ 4) (hl : SL G m s σ) (hW : WF σ) (ha : LAS G m σ) : RK MX10_gapOf 0 [.ref m, .int (zi s), .int (zi (σ 4 + 1))] [] (0, 0) (E, zg G, zk L, r) Q = Q (E, zg G, zk L, r) (.int (zi (gmS σ))) := by
  have m0 := hm.1
  have hz := szS_b hW
  have w0 := hW.1
  have w4 := hW.2.2.2.2.1
  have w5 := WF_5 hW
  have h12 : G m 12 = szS σ := ha.1
  unfold gmS glS
  by_cases k1 : σ 0 = 1
  · rw [if_pos k1, if_neg (by omega), show σ 4 + 2 = σ 4 + 1 + 1 by omega]
    simp (disch := first | assumption | exact c2_int _ | exact c2_ref _ | exact c2_jk | exact c2_null | omega | exact bI_r _ | exact bI_01 _) only [↓fX10_gapOf_0, ↓fX10_gapOf_1, ↓fX10_gapOf_2, ↓fX10_gapOf_3, ↓fX10_gapOf_6_1, ↓fX10_gapOf_6_2, ↓fX10_gapOf_6_3, ↓fX10_gapOf_6_4, ↓fX10_gapOf_6_5, ↓fX10_gapOf_6_d, ↓fX10_gapOf_40, ↓fX10_gapOf_41, ↓fX10_gapOf_42, ↓fX10_gapOf_43, ↓fX10_gapOf_44, ↓fX10_gapOf_45, ↓fX10_gapOf_46, ↓fX10_gapOf_47, ↓fX10_gapOf_49, ↓fX10_gapOf_52, ↓fX10_gapOf_55, ↓fX10_gapOf_56, ↓fX10_gapOf_57, ↓fX10_gapOf_59, ↓fX10_gapOf_62, ↓fX10_gapOf_65, ↓fX10_gapOf_66, ↓fX10_gapOf_67, ↓fX10_gapOf_68, ↓fX10_gapOf_69, ↓fX10_gapOf_70, ↓fX10_gapOf_72, ↓fX10_gapOf_75, ↓fX10_gapOf_78, ↓fX10_gapOf_79, ↓fX10_gapOf_80, ↓fX10_gapOf_82, ↓fX10_gapOf_83, ↓fX10_gapOf_84, ↓fX10_gapOf_85, ↓fX10_gapOf_86, ↓fX10_gapOf_89, ↓fX10_gapOf_92, ↓fX10_gapOf_93, ↓fX10_gapOf_94, ↓fX10_gapOf_95, ↓fX10_gapOf_96, ↓fX10_gapOf_99, ↓fX10_gapOf_102, ↓fX10_gapOf_103, ↓fX10_gapOf_104, ↓fX10_gapOf_105, ↓fX10_gapOf_106, ↓fX10_gapOf_107, ↓fX10_gapOf_110, ↓fX10_gapOf_113, ↓fX10_gapOf_114, ↓m_of, Int.reduceToNat, k1, and_self, true_and, and_true, false_and, and_false, not_true_eq_false, not_false_eq_true, or_self, true_or, or_true, false_or, or_false, ite_not, Decidable.not_not, decide_eq_true_eq, Bool.not_true, Bool.not_false, Bool.false_eq_true, Bool.not_eq_true, n10, n20, n21, n30, n31, n32, n40, n41, n42, n43, ↓reduceIte]
  · rw [if_neg k1]
    by_cases k4 : σ 0 = 4
    · obtain ⟨v1, v2, v3, v4, v5⟩ := hW.2.2.2.2.2.2.2.1 k4
      rw [if_pos k4]
      by_cases h1 : σ 4 < σ 9
      · have h2 : σ 4 + 1 ≤ σ 9 := by omega
        rw [if_pos h1, if_neg (by omega)]
        simp (disch := first | assumption | exact c2_int _ | exact c2_ref _ | exact c2_jk | exact c2_null | omega | exact bI_r _ | exact bI_01 _) only [↓fX10_gapOf_0, ↓fX10_gapOf_1, ↓fX10_gapOf_2, ↓fX10_gapOf_3, ↓fX10_gapOf_6_1, ↓fX10_gapOf_6_2, ↓fX10_gapOf_6_3, ↓fX10_gapOf_6_4, ↓fX10_gapOf_6_5, ↓fX10_gapOf_6_d, ↓fX10_gapOf_40, ↓fX10_gapOf_41, ↓fX10_gapOf_42, ↓fX10_gapOf_43, ↓fX10_gapOf_44, ↓fX10_gapOf_45, ↓fX10_gapOf_46, ↓fX10_gapOf_47, ↓fX10_gapOf_49, ↓fX10_gapOf_52, ↓fX10_gapOf_55, ↓fX10_gapOf_56, ↓fX10_gapOf_57, ↓fX10_gapOf_59, ↓fX10_gapOf_62, ↓fX10_gapOf_65, ↓fX10_gapOf_66, ↓fX10_gapOf_67, ↓fX10_gapOf_68, ↓fX10_gapOf_69, ↓fX10_gapOf_70, ↓fX10_gapOf_72, ↓fX10_gapOf_75, ↓fX10_gapOf_78, ↓fX10_gapOf_79, ↓fX10_gapOf_80, ↓fX10_gapOf_82, ↓fX10_gapOf_83, ↓fX10_gapOf_84, ↓fX10_gapOf_85, ↓fX10_gapOf_86, ↓fX10_gapOf_89, ↓fX10_gapOf_92, ↓fX10_gapOf_93, ↓fX10_gapOf_94, ↓fX10_gapOf_95, ↓fX10_gapOf_96, ↓fX10_gapOf_99, ↓fX10_gapOf_102, ↓fX10_gapOf_103, ↓fX10_gapOf_104, ↓fX10_gapOf_105, ↓fX10_gapOf_106, ↓fX10_gapOf_107, ↓fX10_gapOf_110, ↓fX10_gapOf_113, ↓fX10_gapOf_114, ↓m_of, Int.reduceToNat, k4, h2, and_self, true_and, and_true, false_and, and_false, not_true_eq_false, not_false_eq_true, or_self, true_or, or_true, false_or, or_false, ite_not, Decidable.not_not, decide_eq_true_eq, Bool.not_true, Bool.not_false, Bool.false_eq_true, Bool.not_eq_true, n10, n20, n21, n30, n31, n32, n40, n41, n42, n43, ↓reduceIte]
      · have h2 : ¬ σ 4 + 1 ≤ σ 9 := by omega
        rw [if_neg h1, if_pos (by decide)]
        simp (disch := first | assumption | exact c2_int _ | exact c2_ref _ | exact c2_jk | exact c2_null | omega | exact bI_r _ | exact bI_01 _) only [↓fX10_gapOf_0, ↓fX10_gapOf_1, ↓fX10_gapOf_2, ↓fX10_gapOf_3, ↓fX10_gapOf_6_1, ↓fX10_gapOf_6_2, ↓fX10_gapOf_6_3, ↓fX10_gapOf_6_4, ↓fX10_gapOf_6_5, ↓fX10_gapOf_6_d, ↓fX10_gapOf_40, ↓fX10_gapOf_41, ↓fX10_gapOf_42, ↓fX10_gapOf_43, ↓fX10_gapOf_44, ↓fX10_gapOf_45, ↓fX10_gapOf_46, ↓fX10_gapOf_47, ↓fX10_gapOf_49, ↓fX10_gapOf_52, ↓fX10_gapOf_55, ↓fX10_gapOf_56, ↓fX10_gapOf_57, ↓fX10_gapOf_59, ↓fX10_gapOf_62, ↓fX10_gapOf_65, ↓fX10_gapOf_66, ↓fX10_gapOf_67, ↓fX10_gapOf_68, ↓fX10_gapOf_69, ↓fX10_gapOf_70, ↓fX10_gapOf_72, ↓fX10_gapOf_75, ↓fX10_gapOf_78, ↓fX10_gapOf_79, ↓fX10_gapOf_80, ↓fX10_gapOf_82, ↓fX10_gapOf_83, ↓fX10_gapOf_84, ↓fX10_gapOf_85, ↓fX10_gapOf_86, ↓fX10_gapOf_89, ↓fX10_gapOf_92, ↓fX10_gapOf_93, ↓fX10_gapOf_94, ↓fX10_gapOf_95, ↓fX10_gapOf_96, ↓fX10_gapOf_99, ↓fX10_gapOf_102, ↓fX10_gapOf_103, ↓fX10_gapOf_104, ↓fX10_gapOf_105, ↓fX10_gapOf_106, ↓fX10_gapOf_107, ↓fX10_gapOf_110, ↓fX10_gapOf_113, ↓fX10_gapOf_114, ↓m_of, Int.reduceToNat, k4, h2, and_self, true_and, and_true, false_and, and_false, not_true_eq_false, not_false_eq_true, or_self, true_or, or_true, false_or, or_false, ite_not, Decidable.not_not, decide_eq_true_eq, Bool.not_true, Bool.not_false, Bool.false_eq_true, Bool.not_eq_true, n10, n20, n21, n30, n31, n32, n40, n41, n42, n43, ↓reduceIte]
    · rw [if_neg k4]
      by_cases k5 : σ 0 = 5
      · obtain ⟨v1, v2, v3, v4⟩ := hW.2.2.2.2.2.2.2.2.1 k5
        rw [if_pos k5]
        by_cases h1 : σ 4 < σ 7
        · have h2 : σ 4 + 1 ≤ σ 7 := by omega
          have v5 := v4 (σ 4).toNat (by omega)
          have et : (8 + (σ 4 + 1) - 1).toNat = 8 + (σ 4).toNat := by omega
          rw [if_pos h1, if_neg (by omega)]
          simp (disch := first | assumption | exact c2_int _ | exact c2_ref _ | exact c2_jk | exact c2_null | omega | exact bI_r _ | exact bI_01 _) only [↓fX10_gapOf_0, ↓fX10_gapOf_1, ↓fX10_gapOf_2, ↓fX10_gapOf_3, ↓fX10_gapOf_6_1, ↓fX10_gapOf_6_2, ↓fX10_gapOf_6_3, ↓fX10_gapOf_6_4, ↓fX10_gapOf_6_5, ↓fX10_gapOf_6_d, ↓fX10_gapOf_40, ↓fX10_gapOf_41, ↓fX10_gapOf_42, ↓fX10_gapOf_43, ↓fX10_gapOf_44, ↓fX10_gapOf_45, ↓fX10_gapOf_46, ↓fX10_gapOf_47, ↓fX10_gapOf_49, ↓fX10_gapOf_52, ↓fX10_gapOf_55, ↓fX10_gapOf_56, ↓fX10_gapOf_57, ↓fX10_gapOf_59, ↓fX10_gapOf_62, ↓fX10_gapOf_65, ↓fX10_gapOf_66, ↓fX10_gapOf_67, ↓fX10_gapOf_68, ↓fX10_gapOf_69, ↓fX10_gapOf_70, ↓fX10_gapOf_72, ↓fX10_gapOf_75, ↓fX10_gapOf_78, ↓fX10_gapOf_79, ↓fX10_gapOf_80, ↓fX10_gapOf_82, ↓fX10_gapOf_83, ↓fX10_gapOf_84, ↓fX10_gapOf_85, ↓fX10_gapOf_86, ↓fX10_gapOf_89, ↓fX10_gapOf_92, ↓fX10_gapOf_93, ↓fX10_gapOf_94, ↓fX10_gapOf_95, ↓fX10_gapOf_96, ↓fX10_gapOf_99, ↓fX10_gapOf_102, ↓fX10_gapOf_103, ↓fX10_gapOf_104, ↓fX10_gapOf_105, ↓fX10_gapOf_106, ↓fX10_gapOf_107, ↓fX10_gapOf_110, ↓fX10_gapOf_113, ↓fX10_gapOf_114, ↓m_of, Int.reduceToNat, k5, h2, et, and_self, true_and, and_true, false_and, and_false, not_true_eq_false, not_false_eq_true, or_self, true_or, or_true, false_or, or_false, ite_not, Decidable.not_not, decide_eq_true_eq, Bool.not_true, Bool.not_false, Bool.false_eq_true, Bool.not_eq_true, n10, n20, n21, n30, n31, n32, n40, n41, n42, n43, ↓reduceIte]
        · have h2 : ¬ σ 4 + 1 ≤ σ 7 := by omega
          rw [if_neg h1, if_pos (by decide)]
          simp (disch := first | assumption | exact c2_int _ | exact c2_ref _ | exact c2_jk | exact c2_null | omega | exact bI_r _ | exact bI_01 _) only [↓fX10_gapOf_0, ↓fX10_gapOf_1, ↓fX10_gapOf_2, ↓fX10_gapOf_3, ↓fX10_gapOf_6_1, ↓fX10_gapOf_6_2, ↓fX10_gapOf_6_3, ↓fX10_gapOf_6_4, ↓fX10_gapOf_6_5, ↓fX10_gapOf_6_d, ↓fX10_gapOf_40, ↓fX10_gapOf_41, ↓fX10_gapOf_42, ↓fX10_gapOf_43, ↓fX10_gapOf_44, ↓fX10_gapOf_45, ↓fX10_gapOf_46, ↓fX10_gapOf_47, ↓fX10_gapOf_49, ↓fX10_gapOf_52, ↓fX10_gapOf_55, ↓fX10_gapOf_56, ↓fX10_gapOf_57, ↓fX10_gapOf_59, ↓fX10_gapOf_62, ↓fX10_gapOf_65, ↓fX10_gapOf_66, ↓fX10_gapOf_67, ↓fX10_gapOf_68, ↓fX10_gapOf_69, ↓fX10_gapOf_70, ↓fX10_gapOf_72, ↓fX10_gapOf_75, ↓fX10_gapOf_78, ↓fX10_gapOf_79, ↓fX10_gapOf_80, ↓fX10_gapOf_82, ↓fX10_gapOf_83, ↓fX10_gapOf_84, ↓fX10_gapOf_85, ↓fX10_gapOf_86, ↓fX10_gapOf_89, ↓fX10_gapOf_92, ↓fX10_gapOf_93, ↓fX10_gapOf_94, ↓fX10_gapOf_95, ↓fX10_gapOf_96, ↓fX10_gapOf_99, ↓fX10_gapOf_102, ↓fX10_gapOf_103, ↓fX10_gapOf_104, ↓fX10_gapOf_105, ↓fX10_gapOf_106, ↓fX10_gapOf_107, ↓fX10_gapOf_110, ↓fX10_gapOf_113, ↓fX10_gapOf_114, ↓m_of, Int.reduceToNat, k5, h2, and_self, true_and, and_true, false_and, and_false, not_true_eq_false, not_false_eq_true, or_self, true_or, or_true, false_or, or_false, ite_not, Decidable.not_not, decide_eq_true_eq, Bool.not_true, Bool.not_false, Bool.false_eq_true, Bool.not_eq_true, n10, n20, n21, n30, n31, n32, n40, n41, n42, n43, ↓reduceIte]
      · rw [if_neg k5]
        have hx : σ 0 = 0 ∨ σ 0 = 2 ∨ σ 0 = 3 := by omega
        have ee : σ 4 + 1 + 1 = σ 4 + 2 := by omega
        by_cases h1 : σ 4 + 1 < szS σ
        · have hn := nAS_0 hW (p := σ 4 + 2) (by omega)
          rw [if_neg (by omega)]
          have ea := fun Q => m_at (L := L) (Q := Q) (p := σ 4 + 2) hm hs hl hW ha (by omega)
          rcases hx with hx | hx | hx
          · simp (disch := first | assumption | exact c2_int _ | exact c2_ref _ | exact c2_jk | exact c2_null | omega | exact bI_r _ | exact bI_01 _) only [↓fX10_gapOf_0, ↓fX10_gapOf_1, ↓fX10_gapOf_2, ↓fX10_gapOf_3, ↓fX10_gapOf_6_1, ↓fX10_gapOf_6_2, ↓fX10_gapOf_6_3, ↓fX10_gapOf_6_4, ↓fX10_gapOf_6_5, ↓fX10_gapOf_6_d, ↓fX10_gapOf_40, ↓fX10_gapOf_41, ↓fX10_gapOf_42, ↓fX10_gapOf_43, ↓fX10_gapOf_44, ↓fX10_gapOf_45, ↓fX10_gapOf_46, ↓fX10_gapOf_47, ↓fX10_gapOf_49, ↓fX10_gapOf_52, ↓fX10_gapOf_55, ↓fX10_gapOf_56, ↓fX10_gapOf_57, ↓fX10_gapOf_59, ↓fX10_gapOf_62, ↓fX10_gapOf_65, ↓fX10_gapOf_66, ↓fX10_gapOf_67, ↓fX10_gapOf_68, ↓fX10_gapOf_69, ↓fX10_gapOf_70, ↓fX10_gapOf_72, ↓fX10_gapOf_75, ↓fX10_gapOf_78, ↓fX10_gapOf_79, ↓fX10_gapOf_80, ↓fX10_gapOf_82, ↓fX10_gapOf_83, ↓fX10_gapOf_84, ↓fX10_gapOf_85, ↓fX10_gapOf_86, ↓fX10_gapOf_89, ↓fX10_gapOf_92, ↓fX10_gapOf_93, ↓fX10_gapOf_94, ↓fX10_gapOf_95, ↓fX10_gapOf_96, ↓fX10_gapOf_99, ↓fX10_gapOf_102, ↓fX10_gapOf_103, ↓fX10_gapOf_104, ↓fX10_gapOf_105, ↓fX10_gapOf_106, ↓fX10_gapOf_107, ↓fX10_gapOf_110, ↓fX10_gapOf_113, ↓fX10_gapOf_114, ↓m_of, Int.reduceToNat, ee, ↓ea, h12, hx, h1, and_self, true_and, and_true, false_and, and_false, not_true_eq_false, not_false_eq_true, or_self, true_or, or_true, false_or, or_false, ite_not, Decidable.not_not, decide_eq_true_eq, Bool.not_true, Bool.not_false, Bool.false_eq_true, Bool.not_eq_true, n10, n20, n21, n30, n31, n32, n40, n41, n42, n43, ↓reduceIte]
          · simp (disch := first | assumption | exact c2_int _ | exact c2_ref _ | exact c2_jk | exact c2_null | omega | exact bI_r _ | exact bI_01 _) only [↓fX10_gapOf_0, ↓fX10_gapOf_1, ↓fX10_gapOf_2, ↓fX10_gapOf_3, ↓fX10_gapOf_6_1, ↓fX10_gapOf_6_2, ↓fX10_gapOf_6_3, ↓fX10_gapOf_6_4, ↓fX10_gapOf_6_5, ↓fX10_gapOf_6_d, ↓fX10_gapOf_40, ↓fX10_gapOf_41, ↓fX10_gapOf_42, ↓fX10_gapOf_43, ↓fX10_gapOf_44, ↓fX10_gapOf_45, ↓fX10_gapOf_46, ↓fX10_gapOf_47, ↓fX10_gapOf_49, ↓fX10_gapOf_52, ↓fX10_gapOf_55, ↓fX10_gapOf_56, ↓fX10_gapOf_57, ↓fX10_gapOf_59, ↓fX10_gapOf_62, ↓fX10_gapOf_65, ↓fX10_gapOf_66, ↓fX10_gapOf_67, ↓fX10_gapOf_68, ↓fX10_gapOf_69, ↓fX10_gapOf_70, ↓fX10_gapOf_72, ↓fX10_gapOf_75, ↓fX10_gapOf_78, ↓fX10_gapOf_79, ↓fX10_gapOf_80, ↓fX10_gapOf_82, ↓fX10_gapOf_83, ↓fX10_gapOf_84, ↓fX10_gapOf_85, ↓fX10_gapOf_86, ↓fX10_gapOf_89, ↓fX10_gapOf_92, ↓fX10_gapOf_93, ↓fX10_gapOf_94, ↓fX10_gapOf_95, ↓fX10_gapOf_96, ↓fX10_gapOf_99, ↓fX10_gapOf_102, ↓fX10_gapOf_103, ↓fX10_gapOf_104, ↓fX10_gapOf_105, ↓fX10_gapOf_106, ↓fX10_gapOf_107, ↓fX10_gapOf_110, ↓fX10_gapOf_113, ↓fX10_gapOf_114, ↓m_of, Int.reduceToNat, ee, ↓ea, h12, hx, h1, and_self, true_and, and_true, false_and, and_false, not_true_eq_false, not_false_eq_true, or_self, true_or, or_true, false_or, or_false, ite_not, Decidable.not_not, decide_eq_true_eq, Bool.not_true, Bool.not_false, Bool.false_eq_true, Bool.not_eq_true, n10, n20, n21, n30, n31, n32, n40, n41, n42, n43, ↓reduceIte]
          · simp (disch := first | assumption | exact c2_int _ | exact c2_ref _ | exact c2_jk | exact c2_null | omega | exact bI_r _ | exact bI_01 _) only [↓fX10_gapOf_0, ↓fX10_gapOf_1, ↓fX10_gapOf_2, ↓fX10_gapOf_3, ↓fX10_gapOf_6_1, ↓fX10_gapOf_6_2, ↓fX10_gapOf_6_3, ↓fX10_gapOf_6_4, ↓fX10_gapOf_6_5, ↓fX10_gapOf_6_d, ↓fX10_gapOf_40, ↓fX10_gapOf_41, ↓fX10_gapOf_42, ↓fX10_gapOf_43, ↓fX10_gapOf_44, ↓fX10_gapOf_45, ↓fX10_gapOf_46, ↓fX10_gapOf_47, ↓fX10_gapOf_49, ↓fX10_gapOf_52, ↓fX10_gapOf_55, ↓fX10_gapOf_56, ↓fX10_gapOf_57, ↓fX10_gapOf_59, ↓fX10_gapOf_62, ↓fX10_gapOf_65, ↓fX10_gapOf_66, ↓fX10_gapOf_67, ↓fX10_gapOf_68, ↓fX10_gapOf_69, ↓fX10_gapOf_70, ↓fX10_gapOf_72, ↓fX10_gapOf_75, ↓fX10_gapOf_78, ↓fX10_gapOf_79, ↓fX10_gapOf_80, ↓fX10_gapOf_82, ↓fX10_gapOf_83, ↓fX10_gapOf_84, ↓fX10_gapOf_85, ↓fX10_gapOf_86, ↓fX10_gapOf_89, ↓fX10_gapOf_92, ↓fX10_gapOf_93, ↓fX10_gapOf_94, ↓fX10_gapOf_95, ↓fX10_gapOf_96, ↓fX10_gapOf_99, ↓fX10_gapOf_102, ↓fX10_gapOf_103, ↓fX10_gapOf_104, ↓fX10_gapOf_105, ↓fX10_gapOf_106, ↓fX10_gapOf_107, ↓fX10_gapOf_110, ↓fX10_gapOf_113, ↓fX10_gapOf_114, ↓m_of, Int.reduceToNat, ee, ↓ea, h12, hx, h1, and_self, true_and, and_true, false_and, and_false, not_true_eq_false, not_false_eq_true, or_self, true_or, or_true, false_or, or_false, ite_not, Decidable.not_not, decide_eq_true_eq, Bool.not_true, Bool.not_false, Bool.false_eq_true, Bool.not_eq_true, n10, n20, n21, n30, n31, n32, n40, n41, n42, n43, ↓reduceIte]
        · rw [nAS_no (by omega), if_pos (by decide)]
          rcases hx with hx | hx | hx
          · simp (disch := first | assumption | exact c2_int _ | exact c2_ref _ | exact c2_jk | exact c2_null | omega | exact bI_r _ | exact bI_01 _) only [↓fX10_gapOf_0, ↓fX10_gapOf_1, ↓fX10_gapOf_2, ↓fX10_gapOf_3, ↓fX10_gapOf_6_1, ↓fX10_gapOf_6_2, ↓fX10_gapOf_6_3, ↓fX10_gapOf_6_4, ↓fX10_gapOf_6_5, ↓fX10_gapOf_6_d, ↓fX10_gapOf_40, ↓fX10_gapOf_41, ↓fX10_gapOf_42, ↓fX10_gapOf_43, ↓fX10_gapOf_44, ↓fX10_gapOf_45, ↓fX10_gapOf_46, ↓fX10_gapOf_47, ↓fX10_gapOf_49, ↓fX10_gapOf_52, ↓fX10_gapOf_55, ↓fX10_gapOf_56, ↓fX10_gapOf_57, ↓fX10_gapOf_59, ↓fX10_gapOf_62, ↓fX10_gapOf_65, ↓fX10_gapOf_66, ↓fX10_gapOf_67, ↓fX10_gapOf_68, ↓fX10_gapOf_69, ↓fX10_gapOf_70, ↓fX10_gapOf_72, ↓fX10_gapOf_75, ↓fX10_gapOf_78, ↓fX10_gapOf_79, ↓fX10_gapOf_80, ↓fX10_gapOf_82, ↓fX10_gapOf_83, ↓fX10_gapOf_84, ↓fX10_gapOf_85, ↓fX10_gapOf_86, ↓fX10_gapOf_89, ↓fX10_gapOf_92, ↓fX10_gapOf_93, ↓fX10_gapOf_94, ↓fX10_gapOf_95, ↓fX10_gapOf_96, ↓fX10_gapOf_99, ↓fX10_gapOf_102, ↓fX10_gapOf_103, ↓fX10_gapOf_104, ↓fX10_gapOf_105, ↓fX10_gapOf_106, ↓fX10_gapOf_107, ↓fX10_gapOf_110, ↓fX10_gapOf_113, ↓fX10_gapOf_114, ↓m_of, Int.reduceToNat, h12, hx, h1, and_self, true_and, and_true, false_and, and_false, not_true_eq_false, not_false_eq_true, or_self, true_or, or_true, false_or, or_false, ite_not, Decidable.not_not, decide_eq_true_eq, Bool.not_true, Bool.not_false, Bool.false_eq_true, Bool.not_eq_true, n10, n20, n21, n30, n31, n32, n40, n41, n42, n43, ↓reduceIte]
          · simp (disch := first | assumption | exact c2_int _ | exact c2_ref _ | exact c2_jk | exact c2_null | omega | exact bI_r _ | exact bI_01 _) only [↓fX10_gapOf_0, ↓fX10_gapOf_1, ↓fX10_gapOf_2, ↓fX10_gapOf_3, ↓fX10_gapOf_6_1, ↓fX10_gapOf_6_2, ↓fX10_gapOf_6_3, ↓fX10_gapOf_6_4, ↓fX10_gapOf_6_5, ↓fX10_gapOf_6_d, ↓fX10_gapOf_40, ↓fX10_gapOf_41, ↓fX10_gapOf_42, ↓fX10_gapOf_43, ↓fX10_gapOf_44, ↓fX10_gapOf_45, ↓fX10_gapOf_46, ↓fX10_gapOf_47, ↓fX10_gapOf_49, ↓fX10_gapOf_52, ↓fX10_gapOf_55, ↓fX10_gapOf_56, ↓fX10_gapOf_57, ↓fX10_gapOf_59, ↓fX10_gapOf_62, ↓fX10_gapOf_65, ↓fX10_gapOf_66, ↓fX10_gapOf_67, ↓fX10_gapOf_68, ↓fX10_gapOf_69, ↓fX10_gapOf_70, ↓fX10_gapOf_72, ↓fX10_gapOf_75, ↓fX10_gapOf_78, ↓fX10_gapOf_79, ↓fX10_gapOf_80, ↓fX10_gapOf_82, ↓fX10_gapOf_83, ↓fX10_gapOf_84, ↓fX10_gapOf_85, ↓fX10_gapOf_86, ↓fX10_gapOf_89, ↓fX10_gapOf_92, ↓fX10_gapOf_93, ↓fX10_gapOf_94, ↓fX10_gapOf_95, ↓fX10_gapOf_96, ↓fX10_gapOf_99, ↓fX10_gapOf_102, ↓fX10_gapOf_103, ↓fX10_gapOf_104, ↓fX10_gapOf_105, ↓fX10_gapOf_106, ↓fX10_gapOf_107, ↓fX10_gapOf_110, ↓fX10_gapOf_113, ↓fX10_gapOf_114, ↓m_of, Int.reduceToNat, h12, hx, h1, and_self, true_and, and_true, false_and, and_false, not_true_eq_false, not_false_eq_true, or_self, true_or, or_true, false_or, or_false, ite_not, Decidable.not_not, decide_eq_true_eq, Bool.not_true, Bool.not_false, Bool.false_eq_true, Bool.not_eq_true, n10, n20, n21, n30, n31, n32, n40, n41, n42, n43, ↓reduceIte]
          · simp (disch := first | assumption | exact c2_int _ | exact c2_ref _ | exact c2_jk | exact c2_null | omega | exact bI_r _ | exact bI_01 _) only [↓fX10_gapOf_0, ↓fX10_gapOf_1, ↓fX10_gapOf_2, ↓fX10_gapOf_3, ↓fX10_gapOf_6_1, ↓fX10_gapOf_6_2, ↓fX10_gapOf_6_3, ↓fX10_gapOf_6_4, ↓fX10_gapOf_6_5, ↓fX10_gapOf_6_d, ↓fX10_gapOf_40, ↓fX10_gapOf_41, ↓fX10_gapOf_42, ↓fX10_gapOf_43, ↓fX10_gapOf_44, ↓fX10_gapOf_45, ↓fX10_gapOf_46, ↓fX10_gapOf_47, ↓fX10_gapOf_49, ↓fX10_gapOf_52, ↓fX10_gapOf_55, ↓fX10_gapOf_56, ↓fX10_gapOf_57, ↓fX10_gapOf_59, ↓fX10_gapOf_62, ↓fX10_gapOf_65, ↓fX10_gapOf_66, ↓fX10_gapOf_67, ↓fX10_gapOf_68, ↓fX10_gapOf_69, ↓fX10_gapOf_70, ↓fX10_gapOf_72, ↓fX10_gapOf_75, ↓fX10_gapOf_78, ↓fX10_gapOf_79, ↓fX10_gapOf_80, ↓fX10_gapOf_82, ↓fX10_gapOf_83, ↓fX10_gapOf_84, ↓fX10_gapOf_85, ↓fX10_gapOf_86, ↓fX10_gapOf_89, ↓fX10_gapOf_92, ↓fX10_gapOf_93, ↓fX10_gapOf_94, ↓fX10_gapOf_95, ↓fX10_gapOf_96, ↓fX10_gapOf_99, ↓fX10_gapOf_102, ↓fX10_gapOf_103, ↓fX10_gapOf_104, ↓fX10_gapOf_105, ↓fX10_gapOf_106, ↓fX10_gapOf_107, ↓fX10_gapOf_110, ↓fX10_gapOf_113, ↓fX10_gapOf_114, ↓m_of, Int.reduceToNat, h12, hx, h1, and_self, true_and, and_true, false_and, and_false, not_true_eq_false, not_false_eq_true, or_self, true_or, or_true, false_or, or_false, ite_not, Decidable.not_not, decide_eq_true_eq, Bool.not_true, Bool.not_false, Bool.false_eq_true, Bool.not_eq_true, n10, n20, n21, n30, n31, n32, n40, n41, n42, n43, ↓reduceIte]
theorem m_nextGap_loop (hm : shM E r m) (hs : 0 ≤ s ∧ s ≤ 4) (hl : SL G m s σ) (hW : WF σ) (ha : LAS G m σ) (hg : 2 ≤ g ∧ g ≤ 100000) : ∀ (k : Nat) (i : Int), szS σ + 1 - i ≤ k → 1 ≤ i → i + k ≤ 10000 → RK MX10_nextGap 43 [.ref m, .int (zi s), .int (zi (σ 4 + 1)), .int (zi g), .int (zi i)] [] (0, 0) (E, zg G, zk L, r) Q = Q (E, zg G, zk L, r) (.int (zi (if exL (fun p => spC (σ 0) (σ 4) p (nAS σ p) g) (szS σ + 1) k i = true then g else 0))) := by
  have m0 := hm.1
  have hz := szS_b hW
  have h12 : G m 12 = szS σ := ha.1
  intro k
  induction k with
  | zero =>
    intro i h1 h2 h3
    have h6 : ¬ i ≤ szS σ := by omega
    have e : exL (fun p => spC (σ 0) (σ 4) p (nAS σ p) g) (szS σ + 1) 0 i = false := rfl
    rw [e, if_neg (by decide)]
    simp (disch := first | assumption | exact c2_int _ | exact c2_ref _ | exact c2_jk | exact c2_null | omega | exact bI_r _ | exact bI_01 _) only [↓fX10_nextGap_0, ↓fX10_nextGap_1, ↓fX10_nextGap_2, ↓fX10_nextGap_5, ↓fX10_nextGap_6, ↓fX10_nextGap_7, ↓fX10_nextGap_8, ↓fX10_nextGap_11, ↓fX10_nextGap_12, ↓fX10_nextGap_13, ↓fX10_nextGap_14, ↓fX10_nextGap_15, ↓fX10_nextGap_16, ↓fX10_nextGap_17, ↓fX10_nextGap_20, ↓fX10_nextGap_21, ↓fX10_nextGap_22, ↓fX10_nextGap_23, ↓fX10_nextGap_26, ↓fX10_nextGap_27, ↓fX10_nextGap_28, ↓fX10_nextGap_29, ↓fX10_nextGap_30, ↓fX10_nextGap_31, ↓fX10_nextGap_34, ↓fX10_nextGap_35, ↓fX10_nextGap_38, ↓fX10_nextGap_39, ↓fX10_nextGap_40, ↓fX10_nextGap_41, ↓fX10_nextGap_43, ↓fX10_nextGap_45, ↓fX10_nextGap_46, ↓fX10_nextGap_49, ↓fX10_nextGap_52, ↓fX10_nextGap_53, ↓fX10_nextGap_54, ↓fX10_nextGap_55, ↓fX10_nextGap_56, ↓fX10_nextGap_58, ↓fX10_nextGap_61, ↓fX10_nextGap_64, ↓fX10_nextGap_65, ↓fX10_nextGap_66, ↓fX10_nextGap_69, ↓fX10_nextGap_72, ↓fX10_nextGap_73, h12, h6, and_self, true_and, and_true, false_and, and_false, not_true_eq_false, not_false_eq_true, or_self, true_or, or_true, false_or, or_false, ite_not, Decidable.not_not, decide_eq_true_eq, Bool.not_true, Bool.not_false, Bool.false_eq_true, Bool.not_eq_true, n10, n20, n21, n30, n31, n32, n40, n41, n42, n43, ↓reduceIte]
  | succ k ih =>
    intro i h1 h2 h3
    by_cases h6 : i ≤ szS σ
    · have es := fun Q => m_strikes (L := L) (Q := Q) (p := i) (g := g) hm hs hl rfl rfl rfl hW ha ⟨h2, h6⟩ hg
      rw [fX10_nextGap_43]
      by_cases h9 : spC (σ 0) (σ 4) i (nAS σ i) g = true
      · have e : exL (fun p => spC (σ 0) (σ 4) p (nAS σ p) g) (szS σ + 1) (k + 1) i = true := by rw [exL, if_pos (by omega), if_pos h9]
        rw [bI_p h9] at es
        rw [e, if_pos rfl]
        simp (disch := first | assumption | exact c2_int _ | exact c2_ref _ | exact c2_jk | exact c2_null | omega | exact bI_r _ | exact bI_01 _) only [↓fX10_nextGap_0, ↓fX10_nextGap_1, ↓fX10_nextGap_2, ↓fX10_nextGap_5, ↓fX10_nextGap_6, ↓fX10_nextGap_7, ↓fX10_nextGap_8, ↓fX10_nextGap_11, ↓fX10_nextGap_12, ↓fX10_nextGap_13, ↓fX10_nextGap_14, ↓fX10_nextGap_15, ↓fX10_nextGap_16, ↓fX10_nextGap_17, ↓fX10_nextGap_20, ↓fX10_nextGap_21, ↓fX10_nextGap_22, ↓fX10_nextGap_23, ↓fX10_nextGap_26, ↓fX10_nextGap_27, ↓fX10_nextGap_28, ↓fX10_nextGap_29, ↓fX10_nextGap_30, ↓fX10_nextGap_31, ↓fX10_nextGap_34, ↓fX10_nextGap_35, ↓fX10_nextGap_38, ↓fX10_nextGap_39, ↓fX10_nextGap_40, ↓fX10_nextGap_41, ↓fX10_nextGap_45, ↓fX10_nextGap_46, ↓fX10_nextGap_49, ↓fX10_nextGap_52, ↓fX10_nextGap_53, ↓fX10_nextGap_54, ↓fX10_nextGap_55, ↓fX10_nextGap_56, ↓fX10_nextGap_58, ↓fX10_nextGap_61, ↓fX10_nextGap_64, ↓fX10_nextGap_65, ↓fX10_nextGap_66, ↓fX10_nextGap_69, ↓fX10_nextGap_72, ↓fX10_nextGap_73, ↓es, h12, h6, and_self, true_and, and_true, false_and, and_false, not_true_eq_false, not_false_eq_true, or_self, true_or, or_true, false_or, or_false, ite_not, Decidable.not_not, decide_eq_true_eq, Bool.not_true, Bool.not_false, Bool.false_eq_true, Bool.not_eq_true, n10, n20, n21, n30, n31, n32, n40, n41, n42, n43, ↓reduceIte]
      · have e : exL (fun p => spC (σ 0) (σ 4) p (nAS σ p) g) (szS σ + 1) (k + 1) i = exL (fun p => spC (σ 0) (σ 4) p (nAS σ p) g) (szS σ + 1) k (i + 1) := by rw [exL, if_pos (by omega), if_neg h9]
        rw [bI_n h9] at es
        rw [e]
        have ih' := ih (i + 1) (by omega) (by omega) (by omega)
        simp (disch := first | assumption | exact c2_int _ | exact c2_ref _ | exact c2_jk | exact c2_null | omega | exact bI_r _ | exact bI_01 _) only [↓fX10_nextGap_0, ↓fX10_nextGap_1, ↓fX10_nextGap_2, ↓fX10_nextGap_5, ↓fX10_nextGap_6, ↓fX10_nextGap_7, ↓fX10_nextGap_8, ↓fX10_nextGap_11, ↓fX10_nextGap_12, ↓fX10_nextGap_13, ↓fX10_nextGap_14, ↓fX10_nextGap_15, ↓fX10_nextGap_16, ↓fX10_nextGap_17, ↓fX10_nextGap_20, ↓fX10_nextGap_21, ↓fX10_nextGap_22, ↓fX10_nextGap_23, ↓fX10_nextGap_26, ↓fX10_nextGap_27, ↓fX10_nextGap_28, ↓fX10_nextGap_29, ↓fX10_nextGap_30, ↓fX10_nextGap_31, ↓fX10_nextGap_34, ↓fX10_nextGap_35, ↓fX10_nextGap_38, ↓fX10_nextGap_39, ↓fX10_nextGap_40, ↓fX10_nextGap_41, ↓fX10_nextGap_45, ↓fX10_nextGap_46, ↓fX10_nextGap_49, ↓fX10_nextGap_52, ↓fX10_nextGap_53, ↓fX10_nextGap_54, ↓fX10_nextGap_55, ↓fX10_nextGap_56, ↓fX10_nextGap_58, ↓fX10_nextGap_61, ↓fX10_nextGap_64, ↓fX10_nextGap_65, ↓fX10_nextGap_66, ↓fX10_nextGap_69, ↓fX10_nextGap_72, ↓fX10_nextGap_73, ↓es, ↓ih', h12, h6, and_self, true_and, and_true, false_and, and_false, not_true_eq_false, not_false_eq_true, or_self, true_or, or_true, false_or, or_false, ite_not, Decidable.not_not, decide_eq_true_eq, Bool.not_true, Bool.not_false, Bool.false_eq_true, Bool.not_eq_true, n10, n20, n21, n30, n31, n32, n40, n41, n42, n43, ↓reduceIte]
    · have e : exL (fun p => spC (σ 0) (σ 4) p (nAS σ p) g) (szS σ + 1) (k + 1) i = false := by rw [exL, if_neg (by omega)]
      rw [e, if_neg (by decide)]
      simp (disch := first | assumption | exact c2_int _ | exact c2_ref _ | exact c2_jk | exact c2_null | omega | exact bI_r _ | exact bI_01 _) only [↓fX10_nextGap_0, ↓fX10_nextGap_1, ↓fX10_nextGap_2, ↓fX10_nextGap_5, ↓fX10_nextGap_6, ↓fX10_nextGap_7, ↓fX10_nextGap_8, ↓fX10_nextGap_11, ↓fX10_nextGap_12, ↓fX10_nextGap_13, ↓fX10_nextGap_14, ↓fX10_nextGap_15, ↓fX10_nextGap_16, ↓fX10_nextGap_17, ↓fX10_nextGap_20, ↓fX10_nextGap_21, ↓fX10_nextGap_22, ↓fX10_nextGap_23, ↓fX10_nextGap_26, ↓fX10_nextGap_27, ↓fX10_nextGap_28, ↓fX10_nextGap_29, ↓fX10_nextGap_30, ↓fX10_nextGap_31, ↓fX10_nextGap_34, ↓fX10_nextGap_35, ↓fX10_nextGap_38, ↓fX10_nextGap_39, ↓fX10_nextGap_40, ↓fX10_nextGap_41, ↓fX10_nextGap_43, ↓fX10_nextGap_45, ↓fX10_nextGap_46, ↓fX10_nextGap_49, ↓fX10_nextGap_52, ↓fX10_nextGap_53, ↓fX10_nextGap_54, ↓fX10_nextGap_55, ↓fX10_nextGap_56, ↓fX10_nextGap_58, ↓fX10_nextGap_61, ↓fX10_nextGap_64, ↓fX10_nextGap_65, ↓fX10_nextGap_66, ↓fX10_nextGap_69, ↓fX10_nextGap_72, ↓fX10_nextGap_73, h12, h6, and_self, true_and, and_true, false_and, and_false, not_true_eq_false, not_false_eq_true, or_self, true_or, or_true, false_or, or_false, ite_not, Decidable.not_not, decide_eq_true_eq, Bool.not_true, Bool.not_false, Bool.false_eq_true, Bool.not_eq_true, n10, n20, n21, n30, n31, n32, n40, n41, n42, n43, ↓reduceIte]
theorem m_nextGap (hm : shM E r m) (hs : 0 ≤ s ∧ s ≤ 4) (hl : SL G m s σ) (hW : WF σ) : ∃ G2, KW G G2 m s ∧ SL G2 m s σ ∧ LAS G2 m σ ∧ (∀ x, x ≠ m → x ≠ m + 7 → G2 x = G x) ∧ ∀ Q, RK MX10_nextGap 0 [.ref m, .int (zi s), jk, jk, jk] [] (0, 0) (E, zg G, zk L, r) Q = Q (E, zg G2, zk L, r) (.int (zi (nmS σ))) := by
  have m0 := hm.1
  have hz := szS_b hW
  have w0 := hW.1
  have w4 := hW.2.2.2.2.1
  have w5 := WF_5 hW
  have hl2 : SL (lyG G m (hbS σ) (σ 3).toNat) m s σ := SL_ly hl
  have ha : LAS (lyG G m (hbS σ) (σ 3).toNat) m σ := lyG_LAP
  have e1 := fun Q => m_laysNow (L := L) (Q := Q) hm hs hl hW
  have e2 := fun Q => m_gapOf (L := L) (Q := Q) hm hs hl2 hW ha
  have gb := glS_b hW
  refine ⟨lyG G m (hbS σ) (σ 3).toNat, KW_ly, hl2, ha, fun x a b => lyG_q a b, fun Q => ?_⟩
  generalize lyG G m (hbS σ) (σ 3).toNat = G2 at hl2 ha e1 e2
  unfold nmS ngS
  by_cases h1 : glS σ < 2
  · have h2 : gmS σ < 2 := by unfold gmS; split <;> omega
    have h3 : -1 ≤ gmS σ ∧ 0 ≤ gmS σ := by unfold gmS; split <;> omega
    rw [if_pos h1, if_pos rfl]
    simp (disch := first | assumption | exact c2_int _ | exact c2_ref _ | exact c2_jk | exact c2_null | omega | exact bI_r _ | exact bI_01 _) only [↓fX10_nextGap_0, ↓fX10_nextGap_1, ↓fX10_nextGap_2, ↓fX10_nextGap_5, ↓fX10_nextGap_6, ↓fX10_nextGap_7, ↓fX10_nextGap_8, ↓fX10_nextGap_11, ↓fX10_nextGap_12, ↓fX10_nextGap_13, ↓fX10_nextGap_14, ↓fX10_nextGap_15, ↓fX10_nextGap_16, ↓fX10_nextGap_17, ↓fX10_nextGap_20, ↓fX10_nextGap_21, ↓fX10_nextGap_22, ↓fX10_nextGap_23, ↓fX10_nextGap_26, ↓fX10_nextGap_27, ↓fX10_nextGap_28, ↓fX10_nextGap_29, ↓fX10_nextGap_30, ↓fX10_nextGap_31, ↓fX10_nextGap_34, ↓fX10_nextGap_35, ↓fX10_nextGap_38, ↓fX10_nextGap_39, ↓fX10_nextGap_40, ↓fX10_nextGap_41, ↓fX10_nextGap_45, ↓fX10_nextGap_46, ↓fX10_nextGap_49, ↓fX10_nextGap_52, ↓fX10_nextGap_53, ↓fX10_nextGap_54, ↓fX10_nextGap_55, ↓fX10_nextGap_56, ↓fX10_nextGap_58, ↓fX10_nextGap_61, ↓fX10_nextGap_64, ↓fX10_nextGap_65, ↓fX10_nextGap_66, ↓fX10_nextGap_69, ↓fX10_nextGap_72, ↓fX10_nextGap_73, ↓e1, ↓e2, ↓m_of, Int.reduceToNat, h2, and_self, true_and, and_true, false_and, and_false, not_true_eq_false, not_false_eq_true, or_self, true_or, or_true, false_or, or_false, ite_not, Decidable.not_not, decide_eq_true_eq, Bool.not_true, Bool.not_false, Bool.false_eq_true, Bool.not_eq_true, n10, n20, n21, n30, n31, n32, n40, n41, n42, n43, ↓reduceIte]
  · have h2 : gmS σ = glS σ := if_neg (by omega)
    rw [h2] at e2
    rw [if_neg h1]
    by_cases k4 : σ 0 < 4
    · have lp := m_nextGap_loop (L := L) (Q := Q) (g := glS σ) hm hs hl2 hW ha (by omega) 601 1 (by omega) (by omega) (by omega)
      have er : (if (if σ 0 = 4 ∨ σ 0 = 5 ∨ exL (fun p => spC (σ 0) (σ 4) p (nAS σ p) (glS σ)) (szS σ + 1) 601 1 = true then glS σ else -1) = -1 then 0 else (if σ 0 = 4 ∨ σ 0 = 5 ∨ exL (fun p => spC (σ 0) (σ 4) p (nAS σ p) (glS σ)) (szS σ + 1) 601 1 = true then glS σ else -1)) = if exL (fun p => spC (σ 0) (σ 4) p (nAS σ p) (glS σ)) (szS σ + 1) 601 1 = true then glS σ else 0 := by
        by_cases q : exL (fun p => spC (σ 0) (σ 4) p (nAS σ p) (glS σ)) (szS σ + 1) 601 1 = true
        · rw [if_pos (Or.inr (Or.inr q)), if_neg (by omega), if_pos q]
        · have q' : ¬ (σ 0 = 4 ∨ σ 0 = 5 ∨ exL (fun p => spC (σ 0) (σ 4) p (nAS σ p) (glS σ)) (szS σ + 1) 601 1 = true) := fun z => by
            rcases z with z | z | z
            · omega
            · omega
            · exact q z
          rw [if_neg q', if_pos rfl, if_neg q]
      rw [er]
      simp (disch := first | assumption | exact c2_int _ | exact c2_ref _ | exact c2_jk | exact c2_null | omega | exact bI_r _ | exact bI_01 _) only [↓fX10_nextGap_0, ↓fX10_nextGap_1, ↓fX10_nextGap_2, ↓fX10_nextGap_5, ↓fX10_nextGap_6, ↓fX10_nextGap_7, ↓fX10_nextGap_8, ↓fX10_nextGap_11, ↓fX10_nextGap_12, ↓fX10_nextGap_13, ↓fX10_nextGap_14, ↓fX10_nextGap_15, ↓fX10_nextGap_16, ↓fX10_nextGap_17, ↓fX10_nextGap_20, ↓fX10_nextGap_21, ↓fX10_nextGap_22, ↓fX10_nextGap_23, ↓fX10_nextGap_26, ↓fX10_nextGap_27, ↓fX10_nextGap_28, ↓fX10_nextGap_29, ↓fX10_nextGap_30, ↓fX10_nextGap_31, ↓fX10_nextGap_34, ↓fX10_nextGap_35, ↓fX10_nextGap_38, ↓fX10_nextGap_39, ↓fX10_nextGap_40, ↓fX10_nextGap_41, ↓fX10_nextGap_45, ↓fX10_nextGap_46, ↓fX10_nextGap_49, ↓fX10_nextGap_52, ↓fX10_nextGap_53, ↓fX10_nextGap_54, ↓fX10_nextGap_55, ↓fX10_nextGap_56, ↓fX10_nextGap_58, ↓fX10_nextGap_61, ↓fX10_nextGap_64, ↓fX10_nextGap_65, ↓fX10_nextGap_66, ↓fX10_nextGap_69, ↓fX10_nextGap_72, ↓fX10_nextGap_73, ↓e1, ↓e2, ↓m_of, Int.reduceToNat, h1, k4, and_self, true_and, and_true, false_and, and_false, not_true_eq_false, not_false_eq_true, or_self, true_or, or_true, false_or, or_false, ite_not, Decidable.not_not, decide_eq_true_eq, Bool.not_true, Bool.not_false, Bool.false_eq_true, Bool.not_eq_true, n10, n20, n21, n30, n31, n32, n40, n41, n42, n43, ↓reduceIte]
      exact lp
    · have q' : σ 0 = 4 ∨ σ 0 = 5 ∨ exL (fun p => spC (σ 0) (σ 4) p (nAS σ p) (glS σ)) (szS σ + 1) 601 1 = true := by
        rcases (show σ 0 = 4 ∨ σ 0 = 5 by omega) with z | z
        · exact Or.inl z
        · exact Or.inr (Or.inl z)
      rw [if_pos q', if_neg (show ¬ glS σ = -1 by omega)]
      simp (disch := first | assumption | exact c2_int _ | exact c2_ref _ | exact c2_jk | exact c2_null | omega | exact bI_r _ | exact bI_01 _) only [↓fX10_nextGap_0, ↓fX10_nextGap_1, ↓fX10_nextGap_2, ↓fX10_nextGap_5, ↓fX10_nextGap_6, ↓fX10_nextGap_7, ↓fX10_nextGap_8, ↓fX10_nextGap_11, ↓fX10_nextGap_12, ↓fX10_nextGap_13, ↓fX10_nextGap_14, ↓fX10_nextGap_15, ↓fX10_nextGap_16, ↓fX10_nextGap_17, ↓fX10_nextGap_20, ↓fX10_nextGap_21, ↓fX10_nextGap_22, ↓fX10_nextGap_23, ↓fX10_nextGap_26, ↓fX10_nextGap_27, ↓fX10_nextGap_28, ↓fX10_nextGap_29, ↓fX10_nextGap_30, ↓fX10_nextGap_31, ↓fX10_nextGap_34, ↓fX10_nextGap_35, ↓fX10_nextGap_38, ↓fX10_nextGap_39, ↓fX10_nextGap_40, ↓fX10_nextGap_41, ↓fX10_nextGap_45, ↓fX10_nextGap_46, ↓fX10_nextGap_49, ↓fX10_nextGap_52, ↓fX10_nextGap_53, ↓fX10_nextGap_54, ↓fX10_nextGap_55, ↓fX10_nextGap_56, ↓fX10_nextGap_58, ↓fX10_nextGap_61, ↓fX10_nextGap_64, ↓fX10_nextGap_65, ↓fX10_nextGap_66, ↓fX10_nextGap_69, ↓fX10_nextGap_72, ↓fX10_nextGap_73, ↓e1, ↓e2, ↓m_of, Int.reduceToNat, h1, k4, and_self, true_and, and_true, false_and, and_false, not_true_eq_false, not_false_eq_true, or_self, true_or, or_true, false_or, or_false, ite_not, Decidable.not_not, decide_eq_true_eq, Bool.not_true, Bool.not_false, Bool.false_eq_true, Bool.not_eq_true, n10, n20, n21, n30, n31, n32, n40, n41, n42, n43, ↓reduceIte]
/-- a round half done -/
def rpS (σ : Nat → Int) (g p : Int) : Nat → Int := fun k => if k = 5 then σ 5 + 1 else if (20 ≤ k ∧ k < 620) ∧ stk σ g (k - 20) = true ∧ ctN (hbS σ) (k - 20) + 1 < p then σ 5 + 1 else σ k
theorem stk_p (hW : WF σ) {j : Nat} (h : stk σ g j = true) : (j : Int) < σ 3 ∧ hbS σ j = true ∧ ctN (hbS σ) j + 1 ≤ szS σ ∧ nAS σ (ctN (hbS σ) j + 1) = σ 1 + σ 2 * j ∧ spC (σ 0) (σ 4) (ctN (hbS σ) j + 1) (σ 1 + σ 2 * j) g = true := by
  unfold stk at h
  rw [Bool.and_eq_true, Bool.and_eq_true, decide_eq_true_eq] at h
  obtain ⟨a1, a2, a3⟩ := nAS_of hW h.1.1 h.1.2
  exact ⟨h.1.1, h.1.2, a3, a1, h.2⟩
theorem rp_step (hW : WF σ) (hp : 1 ≤ p ∧ p ≤ szS σ) : rpS σ g (p + 1) = if spC (σ 0) (σ 4) p (nAS σ p) g = true then upF (rpS σ g p) (20 + ixN (hbS σ) (σ 3).toNat p) (σ 5 + 1) else rpS σ g p := by
  obtain ⟨b1, b2, b3⟩ := ixN_ok (hbS σ) (σ 3).toNat p hp.1 hp.2
  have w3 := hW.2.2.2.1
  have en : nAS σ p = σ 1 + σ 2 * (ixN (hbS σ) (σ 3).toNat p : Int) := if_pos hp
  have key : ∀ j : Nat, stk σ g j = true → (ctN (hbS σ) j + 1 < p + 1 ↔ ctN (hbS σ) j + 1 < p ∨ j = ixN (hbS σ) (σ 3).toNat p) := by
    intro j hj
    obtain ⟨c1, c2, -⟩ := stk_p hW hj
    constructor
    · intro h
      by_cases z : ctN (hbS σ) j + 1 < p
      · exact Or.inl z
      · exact Or.inr (ctN_inj (hbS σ) c2 b2 (by omega))
    · intro h
      rcases h with h | h
      · omega
      · rw [h, b3]
        omega
  by_cases c : spC (σ 0) (σ 4) p (nAS σ p) g = true
  · rw [if_pos c]
    funext k
    simp only [rpS, upF]
    by_cases k5 : k = 5
    · rw [if_pos k5, if_neg (by omega), if_pos k5]
    · rw [if_neg k5, if_neg k5]
      have hst : stk σ g (ixN (hbS σ) (σ 3).toNat p) = true := by
        unfold stk
        rw [decide_eq_true (by omega), b2, b3, show p - 1 + 1 = p by omega, ← en, c]
        rfl
      by_cases z : k = 20 + ixN (hbS σ) (σ 3).toNat p
      · rw [if_pos z, if_pos]
        rw [z, Nat.add_sub_cancel_left]
        exact ⟨by omega, hst, by omega⟩
      · rw [if_neg z]
        by_cases y : (20 ≤ k ∧ k < 620) ∧ stk σ g (k - 20) = true
        · have := key (k - 20) y.2
          by_cases x : ctN (hbS σ) (k - 20) + 1 < p
          · rw [if_pos ⟨y.1, y.2, by omega⟩, if_pos ⟨y.1, y.2, x⟩]
          · rw [if_neg (fun t => by
              rcases this.mp t.2.2 with u | u
              · exact x u
              · omega), if_neg (fun t => x t.2.2)]
        · rw [if_neg (fun t => y ⟨t.1, t.2.1⟩), if_neg (fun t => y ⟨t.1, t.2.1⟩)]
  · rw [if_neg c]
    funext k
    unfold rpS
    by_cases k5 : k = 5
    · rw [if_pos k5, if_pos k5]
    · rw [if_neg k5, if_neg k5]
      by_cases y : (20 ≤ k ∧ k < 620) ∧ stk σ g (k - 20) = true
      · have := key (k - 20) y.2
        have hne : k - 20 ≠ ixN (hbS σ) (σ 3).toNat p := fun t => by
          obtain ⟨-, -, -, -, c5⟩ := stk_p hW y.2
          rw [t, b3, show p - 1 + 1 = p by omega, ← en] at c5
          exact c c5
        by_cases x : ctN (hbS σ) (k - 20) + 1 < p
        · rw [if_pos ⟨y.1, y.2, by omega⟩, if_pos ⟨y.1, y.2, x⟩]
        · rw [if_neg (fun t => by
            rcases this.mp t.2.2 with u | u
            · exact x u
            · exact hne u), if_neg (fun t => x t.2.2)]
      · rw [if_neg (fun t => y ⟨t.1, t.2.1⟩), if_neg (fun t => y ⟨t.1, t.2.1⟩)]
theorem rp_1 : upF σ 5 (σ 5 + 1) = rpS σ g 1 := by
  funext k
  simp only [upF, rpS]
  by_cases k5 : k = 5
  · rw [if_pos k5, if_pos k5]
  · rw [if_neg k5, if_neg k5, if_neg]
    intro t
    have := ctN_b (hbS σ) (k - 20)
    omega
theorem rp_end (hW : WF σ) (g : Int) : upF (upF (upF (rpS σ g (szS σ + 1)) 4 (σ 4 + 1)) (620 + (σ 4 + 1).toNat) (σ 5 + 1)) (1222 + (σ 4 + 1).toNat) g = swS σ g := by
  have w4 := hW.2.2.2.2.1
  have w5 := WF_5 hW
  funext k
  simp only [upF, rpS, swS]
  by_cases k4 : k = 4
  · rw [if_neg (by omega), if_neg (by omega), if_pos k4, if_pos k4]
  · by_cases k5 : k = 5
    · rw [if_neg (by omega), if_neg (by omega), if_neg k4, if_pos k5, if_neg k4, if_pos k5]
    · rw [if_neg k4, if_neg k4, if_neg k5, if_neg k5]
      by_cases c : 20 ≤ k ∧ k < 620
      · rw [if_neg (by omega), if_neg (by omega), if_pos c]
        by_cases y : stk σ g (k - 20) = true
        · have := (stk_p hW y).2.2.1
          rw [if_pos ⟨c, y, by omega⟩, if_pos y]
        · rw [if_neg (fun t => y t.2.1), if_neg y]
      · have d : ¬ ((20 ≤ k ∧ k < 620) ∧ stk σ g (k - 20) = true ∧ ctN (hbS σ) (k - 20) + 1 < szS σ + 1) := fun t => c t.1
        rw [if_neg c, if_neg d]
        by_cases c2 : (k : Int) = 620 + (σ 4 + 1)
        · have x1 : ¬ k = 1222 + (σ 4 + 1).toNat := by omega
          have x2 : k = 620 + (σ 4 + 1).toNat := by omega
          rw [if_neg x1, if_pos x2, if_pos c2]
        · have x2 : ¬ k = 620 + (σ 4 + 1).toNat := by omega
          by_cases c3 : (k : Int) = 1222 + (σ 4 + 1)
          · have x1 : k = 1222 + (σ 4 + 1).toNat := by omega
            rw [if_pos x1, if_neg c2, if_pos c3]
          · have x1 : ¬ k = 1222 + (σ 4 + 1).toNat := by omega
            rw [if_neg x1, if_neg x2, if_neg c2, if_neg c3]
theorem struck_n (hW : WF σ) : cnL (fun p => spC (σ 0) (σ 4) p (nAS σ p) g) (szS σ + 1) 601 1 0 = szS σ - szS (swS σ g) := by
  have hz := szS_b hW
  have w3 := hW.2.2.2.1
  have h1 := cnL_sh (fun p => spC (σ 0) (σ 4) p (nAS σ p) g) (szS σ).toNat (k := 601) (by omega)
  rw [show (((szS σ).toNat : Nat) : Int) = szS σ by omega] at h1
  rw [h1]
  have h2 := bij_ix (hbS σ) (fun i => spC (σ 0) (σ 4) (ctN (hbS σ) i.toNat + 1) (σ 1 + σ 2 * i) g) (σ 3).toNat
  have h3 : ctN (fun i => spC (σ 0) (σ 4) (i + 1) (nAS σ (i + 1)) g) (szS σ).toNat = ctN (fun j => spC (σ 0) (σ 4) (ctN (hbS σ) ((ixN (hbS σ) (σ 3).toNat (j + 1) : Nat) : Int).toNat + 1) (σ 1 + σ 2 * (ixN (hbS σ) (σ 3).toNat (j + 1) : Int)) g) (szS σ).toNat := ctN_congr _ fun j hj => by
    obtain ⟨b1, b2, b3⟩ := ixN_ok (hbS σ) (σ 3).toNat ((j : Int) + 1) (by omega) (by show (j : Int) + 1 ≤ szS σ; omega)
    have en : nAS σ ((j : Int) + 1) = σ 1 + σ 2 * (ixN (hbS σ) (σ 3).toNat ((j : Int) + 1) : Int) := if_pos (by omega)
    rw [Int.toNat_natCast, b3, en, show (j : Int) + 1 - 1 + 1 = (j : Int) + 1 by omega]
  have h3' : ctN (fun i => spC (σ 0) (σ 4) (i + 1) (nAS σ (i + 1)) g) (szS σ).toNat = ctN (fun i => hbS σ i && spC (σ 0) (σ 4) (ctN (hbS σ) i.toNat + 1) (σ 1 + σ 2 * i) g) (σ 3).toNat := h3.trans h2
  rw [h3']
  have e3 : swS σ g 3 = σ 3 := swS_lo σ g (by decide) (by decide) (by decide) hW
  have h4 : ∀ n : Nat, n ≤ (σ 3).toNat → ctN (hbS σ) n = ctN (hbS (swS σ g)) n + ctN (fun i => hbS σ i && spC (σ 0) (σ 4) (ctN (hbS σ) i.toNat + 1) (σ 1 + σ 2 * i) g) n := by
    intro n
    induction n with
    | zero => intro _; rfl
    | succ n ih =>
      intro hn
      have ih' := ih (by omega)
      have eb := swS_hb hW g (j := n) (by omega)
      have es : stk σ g n = (hbS σ n && spC (σ 0) (σ 4) (ctN (hbS σ) n + 1) (σ 1 + σ 2 * n) g) := by
        unfold stk
        rw [decide_eq_true (by omega), Bool.true_and]
      have hB : ∀ (X Y : Int) (B1 B2 : Bool), X + Y + (if B1 = true then 1 else 0) = X + (if (B1 && !(B1 && B2)) = true then 1 else 0) + (Y + (if (B1 && B2) = true then 1 else 0)) := by
        intro X Y B1 B2
        cases B1 <;> cases B2 <;> simp only [Bool.false_and, Bool.true_and, Bool.not_false, Bool.not_true, Bool.false_eq_true, if_true, if_false] <;> omega
      have hx := hB (ctN (hbS (swS σ g)) n) (ctN (fun i => hbS σ i && spC (σ 0) (σ 4) (ctN (hbS σ) i.toNat + 1) (σ 1 + σ 2 * i) g) n) (hbS σ n) (spC (σ 0) (σ 4) (ctN (hbS σ) n + 1) (σ 1 + σ 2 * n) g)
      rw [← ih'] at hx
      rw [ctN, ctN, ctN, eb, es, Int.toNat_natCast]
      exact hx
  have h5 := h4 (σ 3).toNat (by omega)
  have e5 : szS (swS σ g) = ctN (hbS (swS σ g)) (σ 3).toNat := by
    unfold szS
    rw [e3]
  have e6 : szS σ = ctN (hbS σ) (σ 3).toNat := rfl
  omega
theorem rp_k {k : Nat} (h5 : k ≠ 5) (h : k < 20 ∨ 620 ≤ k) : rpS σ g p k = σ k := by
  unfold rpS
  rw [if_neg h5, if_neg (fun t => by omega)]
theorem m_rounds_loop (hm : shM E r m) (hs : 0 ≤ s ∧ s ≤ 4) (hW : WF σ) (ha : LAS G m σ) (hg : 2 ≤ g ∧ g ≤ 100000) : ∀ (k : Nat) (i c : Int), szS σ + 1 - i ≤ k → 1 ≤ i → i ≤ szS σ + 1 → 0 ≤ c → c + k ≤ 10000 →
    RK MX10_rounds 46 [.ref m, .int (zi s), .int (zi g), .int (zi (1824 * s)), .int (zi (σ 4 + 1)), .int (zi c), .int (zi i)] [] (0, 0) (E, zg (wsG G m s (rpS σ g i)), zk L, r) Q = RK MX10_rounds 105 [.ref m, .int (zi s), .int (zi g), .int (zi (1824 * s)), .int (zi (σ 4 + 1)), .int (zi (cnL (fun p => spC (σ 0) (σ 4) p (nAS σ p) g) (szS σ + 1) k i c)), .int (zi (szS σ + 1))] [] (0, 0) (E, zg (wsG G m s (rpS σ g (szS σ + 1))), zk L, r) Q := by
  have m0 := hm.1
  have hz := szS_b hW
  have w3 := hW.2.2.2.1
  obtain ⟨ka1, la1, ra1⟩ := hm.2.1
  obtain ⟨ka7, la7, ra7⟩ := hm.2.2.2.2.2.2.2.1
  intro k
  induction k with
  | zero =>
    intro i c h1 h2 h3 h4 h5
    have e : i = szS σ + 1 := by omega
    have h12 : wsG G m s (rpS σ g (szS σ + 1)) m 12 = szS σ := by rw [ws_q (by omega)]; exact ha.1
    have h6 : ¬ szS σ + 1 ≤ szS σ := by omega
    rw [e]
    simp (disch := first | assumption | exact c2_int _ | exact c2_ref _ | exact c2_jk | exact c2_null | omega | exact bI_r _ | exact bI_01 _) only [↓fX10_rounds_0, ↓fX10_rounds_1, ↓fX10_rounds_2, ↓fX10_rounds_5, ↓fX10_rounds_6, ↓fX10_rounds_7, ↓fX10_rounds_10, ↓fX10_rounds_11, ↓fX10_rounds_12, ↓fX10_rounds_15, ↓fX10_rounds_16, ↓fX10_rounds_17, ↓fX10_rounds_18, ↓fX10_rounds_19, ↓fX10_rounds_20, ↓fX10_rounds_21, ↓fX10_rounds_24, ↓fX10_rounds_25, ↓fX10_rounds_26, ↓fX10_rounds_28, ↓fX10_rounds_29, ↓fX10_rounds_32, ↓fX10_rounds_33, ↓fX10_rounds_34, ↓fX10_rounds_35, ↓fX10_rounds_36, ↓fX10_rounds_37, ↓fX10_rounds_38, ↓fX10_rounds_39, ↓fX10_rounds_40, ↓fX10_rounds_41, ↓fX10_rounds_43, ↓fX10_rounds_44, ↓fX10_rounds_46, ↓fX10_rounds_48, ↓fX10_rounds_49, ↓fX10_rounds_52, ↓fX10_rounds_55, ↓fX10_rounds_56, ↓fX10_rounds_57, ↓fX10_rounds_59, ↓fX10_rounds_60, ↓fX10_rounds_62, ↓fX10_rounds_65, ↓fX10_rounds_68, ↓fX10_rounds_71, ↓fX10_rounds_72, ↓fX10_rounds_75, ↓fX10_rounds_76, ↓fX10_rounds_78, ↓fX10_rounds_79, ↓fX10_rounds_80, ↓fX10_rounds_83, ↓fX10_rounds_85, ↓fX10_rounds_86, ↓fX10_rounds_87, ↓fX10_rounds_88, ↓fX10_rounds_89, ↓fX10_rounds_90, ↓fX10_rounds_91, ↓fX10_rounds_92, ↓fX10_rounds_95, ↓fX10_rounds_96, ↓fX10_rounds_99, ↓fX10_rounds_102, ↓fX10_rounds_106, ↓fX10_rounds_109, ↓fX10_rounds_110, ↓fX10_rounds_111, ↓fX10_rounds_112, ↓fX10_rounds_114, ↓fX10_rounds_115, ↓fX10_rounds_116, ↓fX10_rounds_119, ↓fX10_rounds_120, ↓fX10_rounds_123, ↓fX10_rounds_124, ↓fX10_rounds_126, ↓fX10_rounds_127, ↓fX10_rounds_128, ↓fX10_rounds_129, ↓fX10_rounds_130, ↓fX10_rounds_133, ↓fX10_rounds_134, ↓fX10_rounds_135, ↓fX10_rounds_138, ↓fX10_rounds_139, ↓fX10_rounds_142, ↓fX10_rounds_143, ↓fX10_rounds_145, ↓fX10_rounds_146, ↓fX10_rounds_147, ↓fX10_rounds_148, ↓fX10_rounds_150, h12, h6, cnL, and_self, true_and, and_true, false_and, and_false, not_true_eq_false, not_false_eq_true, or_self, true_or, or_true, false_or, or_false, ite_not, Decidable.not_not, decide_eq_true_eq, Bool.not_true, Bool.not_false, Bool.false_eq_true, Bool.not_eq_true, n10, n20, n21, n30, n31, n32, n40, n41, n42, n43, ↓reduceIte]
  | succ k ih =>
    intro i c h1 h2 h3 h4 h5
    by_cases h6 : i ≤ szS σ
    · have h6' : i < szS σ + 1 := by omega
      have h12 : wsG G m s (rpS σ g i) m 12 = szS σ := by rw [ws_q (by omega)]; exact ha.1
      have ha' : LAS (wsG G m s (rpS σ g i)) m σ := LAP_c ha (ws_q (by omega)) (by rw [ws_q (by omega)])
      have hl' : SL (wsG G m s (rpS σ g i)) m s (rpS σ g i) := ws_SL hs.1
      have es := fun Q => m_strikes (L := L) (Q := Q) (σ := σ) (p := i) (g := g) hm hs hl' (rp_k (by decide) (by omega)) (rp_k (by decide) (by omega)) (rp_k (by decide) (by omega)) hW ha' ⟨h2, h6⟩ hg
      have e7 : wsG G m s (rpS σ g i) (m + 7) (i - 1).toNat = (ixN (hbS σ) (σ 3).toNat i : Int) := by
        rw [ws_q (by omega)]
        exact ha.2 i h2 h6
      have b := ixN_ok (hbS σ) (σ 3).toNat i h2 h6
      have eo : ∀ Q, RK MX10_of 0 [.ref m, .int (zi s), .int (zi 5)] [] (0, 0) (E, zg (wsG G m s (rpS σ g i)), zk L, r) Q = Q (E, zg (wsG G m s (rpS σ g i)), zk L, r) (.int (zi (σ 5 + 1))) := fun Q => by
        rw [m_of hm hs (by decide) hl']
        rfl
      have hst := rp_step (g := g) hW ⟨h2, h6⟩
      rw [fX10_rounds_46]
      by_cases h9 : spC (σ 0) (σ 4) i (nAS σ i) g = true
      · rw [if_pos h9] at hst
        rw [bI_p h9] at es
        have ew := ws_up (G := G) (m := m) (ρ := rpS σ g i) (v := σ 5 + 1) hs.1 (k := 20 + ixN (hbS σ) (σ 3).toNat i) (by omega) (q := (1824 * s + 20 + (ixN (hbS σ) (σ 3).toNat i : Int)).toNat) (by omega)
        rw [← hst] at ew
        have ih' := ih (i + 1) (c + 1) (by omega) (by omega) (by omega) (by omega) (by omega)
        simp (disch := first | assumption | exact c2_int _ | exact c2_ref _ | exact c2_jk | exact c2_null | omega | exact bI_r _ | exact bI_01 _) only [↓fX10_rounds_0, ↓fX10_rounds_1, ↓fX10_rounds_2, ↓fX10_rounds_5, ↓fX10_rounds_6, ↓fX10_rounds_7, ↓fX10_rounds_10, ↓fX10_rounds_11, ↓fX10_rounds_12, ↓fX10_rounds_15, ↓fX10_rounds_16, ↓fX10_rounds_17, ↓fX10_rounds_18, ↓fX10_rounds_19, ↓fX10_rounds_20, ↓fX10_rounds_21, ↓fX10_rounds_24, ↓fX10_rounds_25, ↓fX10_rounds_26, ↓fX10_rounds_28, ↓fX10_rounds_29, ↓fX10_rounds_32, ↓fX10_rounds_33, ↓fX10_rounds_34, ↓fX10_rounds_35, ↓fX10_rounds_36, ↓fX10_rounds_37, ↓fX10_rounds_38, ↓fX10_rounds_39, ↓fX10_rounds_40, ↓fX10_rounds_41, ↓fX10_rounds_43, ↓fX10_rounds_44, ↓fX10_rounds_48, ↓fX10_rounds_49, ↓fX10_rounds_52, ↓fX10_rounds_55, ↓fX10_rounds_56, ↓fX10_rounds_57, ↓fX10_rounds_59, ↓fX10_rounds_60, ↓fX10_rounds_62, ↓fX10_rounds_65, ↓fX10_rounds_68, ↓fX10_rounds_71, ↓fX10_rounds_72, ↓fX10_rounds_75, ↓fX10_rounds_76, ↓fX10_rounds_78, ↓fX10_rounds_79, ↓fX10_rounds_80, ↓fX10_rounds_83, ↓fX10_rounds_85, ↓fX10_rounds_86, ↓fX10_rounds_87, ↓fX10_rounds_88, ↓fX10_rounds_89, ↓fX10_rounds_90, ↓fX10_rounds_91, ↓fX10_rounds_92, ↓fX10_rounds_95, ↓fX10_rounds_96, ↓fX10_rounds_99, ↓fX10_rounds_102, ↓fX10_rounds_106, ↓fX10_rounds_109, ↓fX10_rounds_110, ↓fX10_rounds_111, ↓fX10_rounds_112, ↓fX10_rounds_114, ↓fX10_rounds_115, ↓fX10_rounds_116, ↓fX10_rounds_119, ↓fX10_rounds_120, ↓fX10_rounds_123, ↓fX10_rounds_124, ↓fX10_rounds_126, ↓fX10_rounds_127, ↓fX10_rounds_128, ↓fX10_rounds_129, ↓fX10_rounds_130, ↓fX10_rounds_133, ↓fX10_rounds_134, ↓fX10_rounds_135, ↓fX10_rounds_138, ↓fX10_rounds_139, ↓fX10_rounds_142, ↓fX10_rounds_143, ↓fX10_rounds_145, ↓fX10_rounds_146, ↓fX10_rounds_147, ↓fX10_rounds_148, ↓fX10_rounds_150, ↓es, ↓eo, h12, e7, ew, h6, h6', h9, cnL, ↓ih', and_self, true_and, and_true, false_and, and_false, not_true_eq_false, not_false_eq_true, or_self, true_or, or_true, false_or, or_false, ite_not, Decidable.not_not, decide_eq_true_eq, Bool.not_true, Bool.not_false, Bool.false_eq_true, Bool.not_eq_true, n10, n20, n21, n30, n31, n32, n40, n41, n42, n43, ↓reduceIte]
      · rw [if_neg h9] at hst
        rw [bI_n h9] at es
        have ih' := ih (i + 1) c (by omega) (by omega) (by omega) (by omega) (by omega)
        rw [hst] at ih'
        simp (disch := first | assumption | exact c2_int _ | exact c2_ref _ | exact c2_jk | exact c2_null | omega | exact bI_r _ | exact bI_01 _) only [↓fX10_rounds_0, ↓fX10_rounds_1, ↓fX10_rounds_2, ↓fX10_rounds_5, ↓fX10_rounds_6, ↓fX10_rounds_7, ↓fX10_rounds_10, ↓fX10_rounds_11, ↓fX10_rounds_12, ↓fX10_rounds_15, ↓fX10_rounds_16, ↓fX10_rounds_17, ↓fX10_rounds_18, ↓fX10_rounds_19, ↓fX10_rounds_20, ↓fX10_rounds_21, ↓fX10_rounds_24, ↓fX10_rounds_25, ↓fX10_rounds_26, ↓fX10_rounds_28, ↓fX10_rounds_29, ↓fX10_rounds_32, ↓fX10_rounds_33, ↓fX10_rounds_34, ↓fX10_rounds_35, ↓fX10_rounds_36, ↓fX10_rounds_37, ↓fX10_rounds_38, ↓fX10_rounds_39, ↓fX10_rounds_40, ↓fX10_rounds_41, ↓fX10_rounds_43, ↓fX10_rounds_44, ↓fX10_rounds_48, ↓fX10_rounds_49, ↓fX10_rounds_52, ↓fX10_rounds_55, ↓fX10_rounds_56, ↓fX10_rounds_57, ↓fX10_rounds_59, ↓fX10_rounds_60, ↓fX10_rounds_62, ↓fX10_rounds_65, ↓fX10_rounds_68, ↓fX10_rounds_71, ↓fX10_rounds_72, ↓fX10_rounds_75, ↓fX10_rounds_76, ↓fX10_rounds_78, ↓fX10_rounds_79, ↓fX10_rounds_80, ↓fX10_rounds_83, ↓fX10_rounds_85, ↓fX10_rounds_86, ↓fX10_rounds_87, ↓fX10_rounds_88, ↓fX10_rounds_89, ↓fX10_rounds_90, ↓fX10_rounds_91, ↓fX10_rounds_92, ↓fX10_rounds_95, ↓fX10_rounds_96, ↓fX10_rounds_99, ↓fX10_rounds_102, ↓fX10_rounds_106, ↓fX10_rounds_109, ↓fX10_rounds_110, ↓fX10_rounds_111, ↓fX10_rounds_112, ↓fX10_rounds_114, ↓fX10_rounds_115, ↓fX10_rounds_116, ↓fX10_rounds_119, ↓fX10_rounds_120, ↓fX10_rounds_123, ↓fX10_rounds_124, ↓fX10_rounds_126, ↓fX10_rounds_127, ↓fX10_rounds_128, ↓fX10_rounds_129, ↓fX10_rounds_130, ↓fX10_rounds_133, ↓fX10_rounds_134, ↓fX10_rounds_135, ↓fX10_rounds_138, ↓fX10_rounds_139, ↓fX10_rounds_142, ↓fX10_rounds_143, ↓fX10_rounds_145, ↓fX10_rounds_146, ↓fX10_rounds_147, ↓fX10_rounds_148, ↓fX10_rounds_150, ↓es, h12, h6, h6', h9, cnL, ↓ih', and_self, true_and, and_true, false_and, and_false, not_true_eq_false, not_false_eq_true, or_self, true_or, or_true, false_or, or_false, ite_not, Decidable.not_not, decide_eq_true_eq, Bool.not_true, Bool.not_false, Bool.false_eq_true, Bool.not_eq_true, n10, n20, n21, n30, n31, n32, n40, n41, n42, n43, ↓reduceIte]
    · have e : i = szS σ + 1 := by omega
      have h12 : wsG G m s (rpS σ g (szS σ + 1)) m 12 = szS σ := by rw [ws_q (by omega)]; exact ha.1
      have h6 : ¬ szS σ + 1 ≤ szS σ := by omega
      have h6' : ¬ szS σ + 1 < szS σ + 1 := by omega
      rw [e]
      simp (disch := first | assumption | exact c2_int _ | exact c2_ref _ | exact c2_jk | exact c2_null | omega | exact bI_r _ | exact bI_01 _) only [↓fX10_rounds_0, ↓fX10_rounds_1, ↓fX10_rounds_2, ↓fX10_rounds_5, ↓fX10_rounds_6, ↓fX10_rounds_7, ↓fX10_rounds_10, ↓fX10_rounds_11, ↓fX10_rounds_12, ↓fX10_rounds_15, ↓fX10_rounds_16, ↓fX10_rounds_17, ↓fX10_rounds_18, ↓fX10_rounds_19, ↓fX10_rounds_20, ↓fX10_rounds_21, ↓fX10_rounds_24, ↓fX10_rounds_25, ↓fX10_rounds_26, ↓fX10_rounds_28, ↓fX10_rounds_29, ↓fX10_rounds_32, ↓fX10_rounds_33, ↓fX10_rounds_34, ↓fX10_rounds_35, ↓fX10_rounds_36, ↓fX10_rounds_37, ↓fX10_rounds_38, ↓fX10_rounds_39, ↓fX10_rounds_40, ↓fX10_rounds_41, ↓fX10_rounds_43, ↓fX10_rounds_44, ↓fX10_rounds_46, ↓fX10_rounds_48, ↓fX10_rounds_49, ↓fX10_rounds_52, ↓fX10_rounds_55, ↓fX10_rounds_56, ↓fX10_rounds_57, ↓fX10_rounds_59, ↓fX10_rounds_60, ↓fX10_rounds_62, ↓fX10_rounds_65, ↓fX10_rounds_68, ↓fX10_rounds_71, ↓fX10_rounds_72, ↓fX10_rounds_75, ↓fX10_rounds_76, ↓fX10_rounds_78, ↓fX10_rounds_79, ↓fX10_rounds_80, ↓fX10_rounds_83, ↓fX10_rounds_85, ↓fX10_rounds_86, ↓fX10_rounds_87, ↓fX10_rounds_88, ↓fX10_rounds_89, ↓fX10_rounds_90, ↓fX10_rounds_91, ↓fX10_rounds_92, ↓fX10_rounds_95, ↓fX10_rounds_96, ↓fX10_rounds_99, ↓fX10_rounds_102, ↓fX10_rounds_106, ↓fX10_rounds_109, ↓fX10_rounds_110, ↓fX10_rounds_111, ↓fX10_rounds_112, ↓fX10_rounds_114, ↓fX10_rounds_115, ↓fX10_rounds_116, ↓fX10_rounds_119, ↓fX10_rounds_120, ↓fX10_rounds_123, ↓fX10_rounds_124, ↓fX10_rounds_126, ↓fX10_rounds_127, ↓fX10_rounds_128, ↓fX10_rounds_129, ↓fX10_rounds_130, ↓fX10_rounds_133, ↓fX10_rounds_134, ↓fX10_rounds_135, ↓fX10_rounds_138, ↓fX10_rounds_139, ↓fX10_rounds_142, ↓fX10_rounds_143, ↓fX10_rounds_145, ↓fX10_rounds_146, ↓fX10_rounds_147, ↓fX10_rounds_148, ↓fX10_rounds_150, h12, h6, h6', cnL, and_self, true_and, and_true, false_and, and_false, not_true_eq_false, not_false_eq_true, or_self, true_or, or_true, false_or, or_false, ite_not, Decidable.not_not, decide_eq_true_eq, Bool.not_true, Bool.not_false, Bool.false_eq_true, Bool.not_eq_true, n10, n20, n21, n30, n31, n32, n40, n41, n42, n43, ↓reduceIte]
theorem m_rounds0 (hm : shM E r m) (hs : 0 ≤ s ∧ s ≤ 4) (hl : SL G m s σ) (hW : WF σ) (hn : ngS σ = -1) : ∃ G2, KW G G2 m s ∧ SL G2 m s σ ∧ (∀ x, x ≠ m → x ≠ m + 7 → G2 x = G x) ∧ ∀ Q, RK MX10_rounds 0 [.ref m, .int (zi s), jk, jk, jk, jk, jk] [] (0, 0) (E, zg G, zk L, r) Q = Q (E, zg G2, zk L, r) (.int (zi (-1))) := by
  have m0 := hm.1
  obtain ⟨G2, k2, hl2, ha, fr, e⟩ := m_nextGap (L := L) hm hs hl hW
  have en : nmS σ = 0 := if_pos hn
  rw [en] at e
  refine ⟨G2, k2, hl2, fr, fun Q => ?_⟩
  simp (disch := first | assumption | exact c2_int _ | exact c2_ref _ | exact c2_jk | exact c2_null | omega | exact bI_r _ | exact bI_01 _) only [↓fX10_rounds_0, ↓fX10_rounds_1, ↓fX10_rounds_2, ↓fX10_rounds_5, ↓fX10_rounds_6, ↓fX10_rounds_7, ↓fX10_rounds_10, ↓fX10_rounds_11, ↓fX10_rounds_12, ↓fX10_rounds_15, ↓fX10_rounds_16, ↓fX10_rounds_17, ↓fX10_rounds_18, ↓fX10_rounds_19, ↓fX10_rounds_20, ↓fX10_rounds_21, ↓fX10_rounds_24, ↓fX10_rounds_25, ↓fX10_rounds_26, ↓fX10_rounds_28, ↓fX10_rounds_29, ↓fX10_rounds_32, ↓fX10_rounds_33, ↓fX10_rounds_34, ↓fX10_rounds_35, ↓fX10_rounds_36, ↓fX10_rounds_37, ↓fX10_rounds_38, ↓fX10_rounds_39, ↓fX10_rounds_40, ↓fX10_rounds_41, ↓fX10_rounds_43, ↓fX10_rounds_44, ↓fX10_rounds_46, ↓fX10_rounds_48, ↓fX10_rounds_49, ↓fX10_rounds_52, ↓fX10_rounds_55, ↓fX10_rounds_56, ↓fX10_rounds_57, ↓fX10_rounds_59, ↓fX10_rounds_60, ↓fX10_rounds_62, ↓fX10_rounds_65, ↓fX10_rounds_68, ↓fX10_rounds_71, ↓fX10_rounds_72, ↓fX10_rounds_75, ↓fX10_rounds_76, ↓fX10_rounds_78, ↓fX10_rounds_79, ↓fX10_rounds_80, ↓fX10_rounds_83, ↓fX10_rounds_85, ↓fX10_rounds_86, ↓fX10_rounds_87, ↓fX10_rounds_88, ↓fX10_rounds_89, ↓fX10_rounds_90, ↓fX10_rounds_91, ↓fX10_rounds_92, ↓fX10_rounds_95, ↓fX10_rounds_96, ↓fX10_rounds_99, ↓fX10_rounds_102, ↓fX10_rounds_105, ↓fX10_rounds_106, ↓fX10_rounds_109, ↓fX10_rounds_110, ↓fX10_rounds_111, ↓fX10_rounds_112, ↓fX10_rounds_114, ↓fX10_rounds_115, ↓fX10_rounds_116, ↓fX10_rounds_119, ↓fX10_rounds_120, ↓fX10_rounds_123, ↓fX10_rounds_124, ↓fX10_rounds_126, ↓fX10_rounds_127, ↓fX10_rounds_128, ↓fX10_rounds_129, ↓fX10_rounds_130, ↓fX10_rounds_133, ↓fX10_rounds_134, ↓fX10_rounds_135, ↓fX10_rounds_138, ↓fX10_rounds_139, ↓fX10_rounds_142, ↓fX10_rounds_143, ↓fX10_rounds_145, ↓fX10_rounds_146, ↓fX10_rounds_147, ↓fX10_rounds_148, ↓fX10_rounds_150, ↓e, and_self, true_and, and_true, false_and, and_false, not_true_eq_false, not_false_eq_true, or_self, true_or, or_true, false_or, or_false, ite_not, Decidable.not_not, decide_eq_true_eq, Bool.not_true, Bool.not_false, Bool.false_eq_true, Bool.not_eq_true, n10, n20, n21, n30, n31, n32, n40, n41, n42, n43, ↓reduceIte]
theorem m_rounds (hm : shM E r m) (hs : 0 ≤ s ∧ s ≤ 4) (hl : SL G m s σ) (hW : WF σ) (hn : ngS σ ≠ -1) : ∃ G2, KW G G2 m s ∧ SL G2 m s (swS σ (ngS σ)) ∧ ∀ Q, RK MX10_rounds 0 [.ref m, .int (zi s), jk, jk, jk, jk, jk] [] (0, 0) (E, zg G, zk L, r) Q = Q (E, zg G2, zk L, r) (.int (zi (szS σ - szS (swS σ (ngS σ))))) := by
  have m0 := hm.1
  have hz := szS_b hW
  have w4 := hW.2.2.2.2.1
  have w5 := WF_5 hW
  obtain ⟨ka1, la1, ra1⟩ := hm.2.1
  obtain ⟨G2, k2, hl2, ha, fr, e⟩ := m_nextGap (L := L) hm hs hl hW
  have en : nmS σ = ngS σ := if_neg hn
  have gb := (ngS_ok hW hn).1
  rw [en] at e
  have h0 : ¬ ngS σ = 0 := by omega
  have hid := ws_id hs.1 hl2
  have hup := ws_up (G := G2) (m := m) (ρ := σ) (v := σ 5 + 1) hs.1 (k := 5) (by decide) (q := (1824 * s + 5).toNat) (by omega)
  rw [hid, rp_1 (g := ngS σ)] at hup
  have e5 : G2 (m + 1) (1824 * s + 5).toNat = σ 5 := hl2 5 (by decide)
  have lp := fun Q => m_rounds_loop (L := L) (Q := Q) (g := ngS σ) hm hs hW ha (by omega) 601 1 0 (by omega) (by omega) (by omega) (by omega) (by omega)
  rw [struck_n hW] at lp
  have hr := rp_end hW (ngS σ)
  have u4 := ws_up (G := G2) (m := m) (ρ := rpS σ (ngS σ) (szS σ + 1)) (v := σ 4 + 1) hs.1 (k := 4) (by decide) (q := (1824 * s + 4).toNat) (by omega)
  have u6 := ws_up (G := G2) (m := m) (ρ := upF (rpS σ (ngS σ) (szS σ + 1)) 4 (σ 4 + 1)) (v := σ 5 + 1) hs.1 (k := 620 + (σ 4 + 1).toNat) (by omega) (q := (1824 * s + 620 + (σ 4 + 1)).toNat) (by omega)
  have u12 := ws_up (G := G2) (m := m) (ρ := upF (upF (rpS σ (ngS σ) (szS σ + 1)) 4 (σ 4 + 1)) (620 + (σ 4 + 1).toNat) (σ 5 + 1)) (v := ngS σ) hs.1 (k := 1222 + (σ 4 + 1).toNat) (by omega) (q := (1824 * s + 1222 + (σ 4 + 1)).toNat) (by omega)
  rw [hr] at u12
  have eo : ∀ Q, RK MX10_of 0 [.ref m, .int (zi s), .int (zi 5)] [] (0, 0) (E, zg (wsG G2 m s (upF (rpS σ (ngS σ) (szS σ + 1)) 4 (σ 4 + 1))), zk L, r) Q = Q (E, zg (wsG G2 m s (upF (rpS σ (ngS σ) (szS σ + 1)) 4 (σ 4 + 1))), zk L, r) (.int (zi (σ 5 + 1))) := fun Q => by
    rw [m_of hm hs (by decide) (ws_SL hs.1)]
    rfl
  refine ⟨wsG G2 m s (swS σ (ngS σ)), k2.trans KW_ws, ws_SL hs.1, fun Q => ?_⟩
  simp (disch := first | assumption | exact c2_int _ | exact c2_ref _ | exact c2_jk | exact c2_null | omega | exact bI_r _ | exact bI_01 _) only [↓fX10_rounds_0, ↓fX10_rounds_1, ↓fX10_rounds_2, ↓fX10_rounds_5, ↓fX10_rounds_6, ↓fX10_rounds_7, ↓fX10_rounds_10, ↓fX10_rounds_11, ↓fX10_rounds_12, ↓fX10_rounds_15, ↓fX10_rounds_16, ↓fX10_rounds_17, ↓fX10_rounds_18, ↓fX10_rounds_19, ↓fX10_rounds_20, ↓fX10_rounds_21, ↓fX10_rounds_24, ↓fX10_rounds_25, ↓fX10_rounds_26, ↓fX10_rounds_28, ↓fX10_rounds_29, ↓fX10_rounds_32, ↓fX10_rounds_33, ↓fX10_rounds_34, ↓fX10_rounds_35, ↓fX10_rounds_36, ↓fX10_rounds_37, ↓fX10_rounds_38, ↓fX10_rounds_39, ↓fX10_rounds_40, ↓fX10_rounds_41, ↓fX10_rounds_43, ↓fX10_rounds_44, ↓fX10_rounds_48, ↓fX10_rounds_49, ↓fX10_rounds_52, ↓fX10_rounds_55, ↓fX10_rounds_56, ↓fX10_rounds_57, ↓fX10_rounds_59, ↓fX10_rounds_60, ↓fX10_rounds_62, ↓fX10_rounds_65, ↓fX10_rounds_68, ↓fX10_rounds_71, ↓fX10_rounds_72, ↓fX10_rounds_75, ↓fX10_rounds_76, ↓fX10_rounds_78, ↓fX10_rounds_79, ↓fX10_rounds_80, ↓fX10_rounds_83, ↓fX10_rounds_85, ↓fX10_rounds_86, ↓fX10_rounds_87, ↓fX10_rounds_88, ↓fX10_rounds_89, ↓fX10_rounds_90, ↓fX10_rounds_91, ↓fX10_rounds_92, ↓fX10_rounds_95, ↓fX10_rounds_96, ↓fX10_rounds_99, ↓fX10_rounds_102, ↓fX10_rounds_106, ↓fX10_rounds_109, ↓fX10_rounds_110, ↓fX10_rounds_111, ↓fX10_rounds_112, ↓fX10_rounds_114, ↓fX10_rounds_115, ↓fX10_rounds_116, ↓fX10_rounds_119, ↓fX10_rounds_120, ↓fX10_rounds_123, ↓fX10_rounds_124, ↓fX10_rounds_126, ↓fX10_rounds_127, ↓fX10_rounds_128, ↓fX10_rounds_129, ↓fX10_rounds_130, ↓fX10_rounds_133, ↓fX10_rounds_134, ↓fX10_rounds_135, ↓fX10_rounds_138, ↓fX10_rounds_139, ↓fX10_rounds_142, ↓fX10_rounds_143, ↓fX10_rounds_145, ↓fX10_rounds_146, ↓fX10_rounds_147, ↓fX10_rounds_148, ↓fX10_rounds_150, ↓e, ↓m_of, Int.reduceToNat, e5, hup, ↓lp, h0, and_self, true_and, and_true, false_and, and_false, not_true_eq_false, not_false_eq_true, or_self, true_or, or_true, false_or, or_false, ite_not, Decidable.not_not, decide_eq_true_eq, Bool.not_true, Bool.not_false, Bool.false_eq_true, Bool.not_eq_true, n10, n20, n21, n30, n31, n32, n40, n41, n42, n43, ↓reduceIte]
  rw [fX10_rounds_105]
  simp (disch := first | assumption | exact c2_int _ | exact c2_ref _ | exact c2_jk | exact c2_null | omega | exact bI_r _ | exact bI_01 _) only [↓fX10_rounds_0, ↓fX10_rounds_1, ↓fX10_rounds_2, ↓fX10_rounds_5, ↓fX10_rounds_6, ↓fX10_rounds_7, ↓fX10_rounds_10, ↓fX10_rounds_11, ↓fX10_rounds_12, ↓fX10_rounds_15, ↓fX10_rounds_16, ↓fX10_rounds_17, ↓fX10_rounds_18, ↓fX10_rounds_19, ↓fX10_rounds_20, ↓fX10_rounds_21, ↓fX10_rounds_24, ↓fX10_rounds_25, ↓fX10_rounds_26, ↓fX10_rounds_28, ↓fX10_rounds_29, ↓fX10_rounds_32, ↓fX10_rounds_33, ↓fX10_rounds_34, ↓fX10_rounds_35, ↓fX10_rounds_36, ↓fX10_rounds_37, ↓fX10_rounds_38, ↓fX10_rounds_39, ↓fX10_rounds_40, ↓fX10_rounds_41, ↓fX10_rounds_43, ↓fX10_rounds_44, ↓fX10_rounds_48, ↓fX10_rounds_49, ↓fX10_rounds_52, ↓fX10_rounds_55, ↓fX10_rounds_56, ↓fX10_rounds_57, ↓fX10_rounds_59, ↓fX10_rounds_60, ↓fX10_rounds_62, ↓fX10_rounds_65, ↓fX10_rounds_68, ↓fX10_rounds_71, ↓fX10_rounds_72, ↓fX10_rounds_75, ↓fX10_rounds_76, ↓fX10_rounds_78, ↓fX10_rounds_79, ↓fX10_rounds_80, ↓fX10_rounds_83, ↓fX10_rounds_85, ↓fX10_rounds_86, ↓fX10_rounds_87, ↓fX10_rounds_88, ↓fX10_rounds_89, ↓fX10_rounds_90, ↓fX10_rounds_91, ↓fX10_rounds_92, ↓fX10_rounds_95, ↓fX10_rounds_96, ↓fX10_rounds_99, ↓fX10_rounds_102, ↓fX10_rounds_106, ↓fX10_rounds_109, ↓fX10_rounds_110, ↓fX10_rounds_111, ↓fX10_rounds_112, ↓fX10_rounds_114, ↓fX10_rounds_115, ↓fX10_rounds_116, ↓fX10_rounds_119, ↓fX10_rounds_120, ↓fX10_rounds_123, ↓fX10_rounds_124, ↓fX10_rounds_126, ↓fX10_rounds_127, ↓fX10_rounds_128, ↓fX10_rounds_129, ↓fX10_rounds_130, ↓fX10_rounds_133, ↓fX10_rounds_134, ↓fX10_rounds_135, ↓fX10_rounds_138, ↓fX10_rounds_139, ↓fX10_rounds_142, ↓fX10_rounds_143, ↓fX10_rounds_145, ↓fX10_rounds_146, ↓fX10_rounds_147, ↓fX10_rounds_148, ↓fX10_rounds_150, ↓eo, u4, u6, u12, and_self, true_and, and_true, false_and, and_false, not_true_eq_false, not_false_eq_true, or_self, true_or, or_true, false_or, or_false, ite_not, Decidable.not_not, decide_eq_true_eq, Bool.not_true, Bool.not_false, Bool.false_eq_true, Bool.not_eq_true, n10, n20, n21, n30, n31, n32, n40, n41, n42, n43, ↓reduceIte]
end BM
