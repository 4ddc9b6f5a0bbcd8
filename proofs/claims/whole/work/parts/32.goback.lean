/-! The shelf: goBack. -/
section BS
variable {E : AE} {G L : Nat → Nat → Int} {r : Nat → Nat → Option Nat} {h : AH} {Q : AH → Value → Prop} {S H n a c : Nat} {p q : Nat → Nat} {σ τ : Nat → Nat → Int} {kk nn : Nat → Int} {i v x b u s kd' : Int}
theorem SHF_less {G' : Nat → Nat → Int} (hF : SHF E r G H p q n σ a kk nn τ) (hc : c ≤ a) (hG : ∀ x, x ≠ H → G' x = G x) (h1 : G' H 1 = G H 1) (h7 : G' H 7 = c) : SHF E r G' H p q n σ c kk nn τ := by
  obtain ⟨hH, hp, hq, ⟨n1, n2⟩, hS, hR, ⟨a1, a2⟩, hT, hA⟩ := hF
  refine ⟨hH, hp, hq, ⟨h1.trans n1, n2⟩, fun t ht => rgS_c (fun x x1 x2 => hG x (by omega)) (hS t ht), fun t ht => ⟨RS_c (fun x x1 x2 => hG x (by omega)) (hR t ht).1, (hR t ht).2⟩, ⟨h7, by omega⟩, fun t ht => rgS_c (fun x x1 x2 => hG x (by omega)) (hT t ht), fun t ht => ?_⟩
  obtain ⟨c1, c2, c3⟩ := hA t (by omega)
  rw [hG _ (by omega), hG _ (by omega)]
  exact ⟨c1, c2, fun y => ⟨RS_c (fun x x1 x2 => hG x (by omega)) (c3 y).1, (c3 y).2⟩⟩
/-- what comes first in goBack -/
theorem gb_head (hF : SHF E r G H p q n σ (c + 1) kk nn τ) : RK MX6_goBack 0 [.ref H, jk, jk, jk, jk] [] (0, 0) (E, zg G, zk L, r) Q = RK MX6_goBack 51 [.ref H, .int (zi (kk c)), .int (zi (nn c)), jk, jk] [] (0, 0) (E, zg (u2 G H 7 (c : Int)), zk L, r) Q := by
  obtain ⟨hH, hp, hq, ⟨n1, n2⟩, hS, hR, ⟨a1, a2⟩, hT, hA⟩ := hF
  obtain ⟨h0, ⟨h1, h2, h3, h4, h5⟩, ⟨l1, l2, l3, l4, l5⟩, ⟨r0, r2, r4, r5, r6⟩, b1, b2, b3, b4⟩ := id hH
  obtain ⟨c1, c2, c3⟩ := hA c (by omega)
  have h6 : (1 ≤ G H 7 ∧ G H 7 ≤ (le E (H + 5) : Int)) = True := eq_true (by omega)
  have e7 : G H 7 - 1 = c := by omega
  have f7 : u2 G H 7 (c : Int) H 7 = c := u2_s _ _ _ _
  have e3 : ∀ Q, RK MX9_at 0 [.ref (H + 3), .int (zi (u2 G H 7 (G H 7 - 1) H 7))] [] (0, 0) (E, zg (u2 G H 7 (G H 7 - 1)), zk L, r) Q = Q (E, zg (u2 G H 7 (G H 7 - 1)), zk L, r) (.int (zi (kk c))) := fun Q => by
    rw [e7, f7, c9_at h3 (by omega) (by omega), cAt, if_pos (by omega), Int.toNat_natCast, u2_a _ _ _ _ (by omega), c1]
  have e4 : ∀ Q, RK MX9_at 0 [.ref (H + 4), .int (zi (u2 G H 7 (G H 7 - 1) H 7))] [] (0, 0) (E, zg (u2 G H 7 (G H 7 - 1)), zk L, r) Q = Q (E, zg (u2 G H 7 (G H 7 - 1)), zk L, r) (.int (zi (nn c))) := fun Q => by
    rw [e7, f7, c9_at h4 (by omega) (by omega), cAt, if_pos (by omega), Int.toNat_natCast, u2_a _ _ _ _ (by omega), c2]
  rw [← e7]
  simp (disch := first | assumption | exact c2_int _ | exact c2_ref _ | exact c2_jk | exact c2_null | omega | (apply rN1; assumption) | (apply rN2; assumption) | (apply rN3; assumption) | (apply rN4; assumption) | exact bI_r _ | exact bI_01 _) only [↓fX6_goBack_0, ↓fX6_goBack_1, ↓fX6_goBack_4, ↓fX6_goBack_5, ↓fX6_goBack_6, ↓fX6_goBack_9, ↓fX6_goBack_10, ↓fX6_goBack_13, ↓fX6_goBack_16, ↓fX6_goBack_17, ↓fX6_goBack_18, ↓fX6_goBack_19, ↓fX6_goBack_22, ↓fX6_goBack_23, ↓fX6_goBack_24, ↓fX6_goBack_27, ↓fX6_goBack_28, ↓fX6_goBack_31, ↓fX6_goBack_32, ↓fX6_goBack_35, ↓fX6_goBack_38, ↓fX6_goBack_39, ↓fX6_goBack_40, ↓fX6_goBack_43, ↓fX6_goBack_44, ↓fX6_goBack_47, ↓fX6_goBack_50, ↓fX6_goBack_52, ↓fX6_goBack_53, ↓fX6_goBack_56, ↓fX6_goBack_57, ↓fX6_goBack_58, ↓fX6_goBack_61, ↓fX6_goBack_62, ↓fX6_goBack_63, ↓fX6_goBack_66, ↓fX6_goBack_67, ↓fX6_goBack_68, ↓fX6_goBack_69, ↓fX6_goBack_72, ↓fX6_goBack_73, ↓fX6_goBack_74, ↓fX6_goBack_77, ↓fX6_goBack_78, ↓fX6_goBack_79, ↓fX6_goBack_82, ↓fX6_goBack_82n, ↓fX6_goBack_83, ↓fX6_goBack_84, ↓fX6_goBack_87, ↓fX6_goBack_88, ↓fX6_goBack_91, ↓fX6_goBack_92, ↓fX6_goBack_92n, ↓fX6_goBack_94, ↓fX6_goBack_94n, ↓fX6_goBack_95, ↓fX6_goBack_95r, ↓fX6_goBack_98, ↓fX6_goBack_98n, ↓fX6_goBack_100, ↓fX6_goBack_100r, ↓fX6_goBack_103, ↓fX6_goBack_103n, ↓fX6_goBack_104, ↓fX6_goBack_104n, ↓fX6_goBack_106, ↓fX6_goBack_109, ↓c9_within, ↓e3, ↓e4, bI_0, h6, and_self, true_and, and_true, false_and, and_false, not_true_eq_false, not_false_eq_true, or_self, true_or, or_true, false_or, or_false, ite_not, Decidable.not_not, decide_eq_true_eq, Bool.not_true, Bool.not_false, Bool.false_eq_true, Bool.not_eq_true, n10, n20, n21, n30, n31, n32, n40, n41, n42, n43, ↓reduceIte]
/-- the sieve of the act is put back: from 77 -/
theorem gb_tail {G1 : Nat → Nat → Int} {r1 : Nat → Nat → Option Nat} {p1 : Nat → Nat} {kv v3 v4 : Value} {sN n1 : Nat} (hkv : c2 kv = false) (hv3 : c2 v3 = false) (hv4 : c2 v4 = false) (hH : shH E r1 H) (hp1 : sP r1 H p1) (hq : sA r1 H q) (hn1 : G1 H 1 = n1) (hn4 : n1 ≤ 4) (hs : sN < n1) (hc : c < 8) (h7 : G1 H 7 = c) (hg : rgS G1 (H + 6 + 6 * p1 sN)) (hτ : RS G1 (H + 36 + 6 * q c) (τ c)) (hw : WF (τ c)) :
    ∃ G' : Nat → Nat → Int, fr6 G1 G' (H + 6 + 6 * p1 sN) ∧ RS G' (H + 6 + 6 * p1 sN) (τ c) ∧ ∀ Q, RK MX6_goBack 77 [.ref H, kv, .int (zi (sN : Int)), v3, v4] [] (0, 0) (E, zg G1, zk L, r1) Q = Q (E, zg G', zk L, r1) .null := by
  obtain ⟨h0, ⟨h1, h2, h3, h4, h5⟩, ⟨l1, l2, l3, l4, l5⟩, ⟨r0, r2, r4, r5, r6⟩, b1, b2, b3, b4⟩ := id hH
  obtain ⟨qc, qc8⟩ := hq.1 c hc
  obtain ⟨pc, pc4⟩ := hp1.1 sN (by omega)
  obtain ⟨G', f, R, t⟩ := c7_takeOverS (L := L) (b1 _ pc4) (b3 _ qc8) hg hτ hw (by omega)
  refine ⟨G', f, R, fun Q => ?_⟩
  have hsa := fun Q => c6_sieveAt (L := L) (Q := Q) (G := G1) (s := (sN : Int)) hH hp1 (by omega) (by omega)
  have q1 : (0 ≤ (sN : Int) ∧ (sN : Int) ≤ G1 H 1 - 1) = True := eq_true (by omega)
  have qc' : r1 (H + 5) (G1 H 7).toNat = some (H + 36 + 6 * q c) := by
    rw [h7, Int.toNat_natCast]
    exact qc
  have k14 := (b1 _ pc4).1
  simp (disch := first | assumption | exact c2_int _ | exact c2_ref _ | exact c2_jk | exact c2_null | omega | (apply rN1; assumption) | (apply rN2; assumption) | (apply rN3; assumption) | (apply rN4; assumption) | exact bI_r _ | exact bI_01 _) only [↓fX6_goBack_0, ↓fX6_goBack_1, ↓fX6_goBack_4, ↓fX6_goBack_5, ↓fX6_goBack_6, ↓fX6_goBack_9, ↓fX6_goBack_10, ↓fX6_goBack_13, ↓fX6_goBack_16, ↓fX6_goBack_17, ↓fX6_goBack_18, ↓fX6_goBack_19, ↓fX6_goBack_22, ↓fX6_goBack_23, ↓fX6_goBack_24, ↓fX6_goBack_27, ↓fX6_goBack_28, ↓fX6_goBack_31, ↓fX6_goBack_32, ↓fX6_goBack_35, ↓fX6_goBack_38, ↓fX6_goBack_39, ↓fX6_goBack_40, ↓fX6_goBack_43, ↓fX6_goBack_44, ↓fX6_goBack_47, ↓fX6_goBack_50, ↓fX6_goBack_51, ↓fX6_goBack_52, ↓fX6_goBack_53, ↓fX6_goBack_56, ↓fX6_goBack_57, ↓fX6_goBack_58, ↓fX6_goBack_61, ↓fX6_goBack_62, ↓fX6_goBack_63, ↓fX6_goBack_66, ↓fX6_goBack_67, ↓fX6_goBack_68, ↓fX6_goBack_69, ↓fX6_goBack_72, ↓fX6_goBack_73, ↓fX6_goBack_74, ↓fX6_goBack_77, ↓fX6_goBack_78, ↓fX6_goBack_79, ↓fX6_goBack_82, ↓fX6_goBack_82n, ↓fX6_goBack_83, ↓fX6_goBack_84, ↓fX6_goBack_87, ↓fX6_goBack_88, ↓fX6_goBack_91, ↓fX6_goBack_92, ↓fX6_goBack_92n, ↓fX6_goBack_94, ↓fX6_goBack_94n, ↓fX6_goBack_95, ↓fX6_goBack_95r, ↓fX6_goBack_98, ↓fX6_goBack_98n, ↓fX6_goBack_100, ↓fX6_goBack_100r, ↓fX6_goBack_103, ↓fX6_goBack_103n, ↓fX6_goBack_104, ↓fX6_goBack_104n, ↓fX6_goBack_106, ↓fX6_goBack_109, ↓hsa, q1, Int.toNat_natCast, ↓t, and_self, true_and, and_true, false_and, and_false, not_true_eq_false, not_false_eq_true, or_self, true_or, or_true, false_or, or_false, ite_not, Decidable.not_not, decide_eq_true_eq, Bool.not_true, Bool.not_false, Bool.false_eq_true, Bool.not_eq_true, n10, n20, n21, n30, n31, n32, n40, n41, n42, n43, ↓reduceIte]
theorem c6_goBack1 (hF : SHF E r G H p q n σ (c + 1) kk nn τ) (hk : kk c = 1) (hn : 1 ≤ n) :
    ∃ G' : Nat → Nat → Int, SHF E r G' H p q (n - 1) σ c kk nn τ ∧ frH G G' H ∧ ∀ Q, RK MX6_goBack 0 [.ref H, jk, jk, jk, jk] [] (0, 0) (E, zg G, zk L, r) Q = Q (E, zg G', zk L, r) .null := by
  have h0 := hF.1.1
  have n1 := hF.2.2.2.1
  have hp := hF.2.1
  have hR := hF.2.2.2.2.2.1
  refine ⟨u2 (u2 G H 7 (c : Int)) H 1 (u2 G H 7 (c : Int) H 1 - 1), ?_, ⟨fun x hx => ?_, ?_⟩, fun Q => ?_⟩
  · have f1 : SHF E r (u2 G H 7 (c : Int)) H p q n σ c kk nn τ := SHF_less hF (by omega) (fun x hx => u2_a _ _ _ _ hx) (u2_i _ _ _ _ (by decide)) (u2_s _ _ _ _)
    refine SHF_perm f1 (frR.rf r H) rfl hp (fun x hx => u2_a _ _ _ _ hx) (u2_i _ _ _ _ (by decide)) ?_ (by omega) (fun t ht => ⟨t, ht, rfl⟩) (fun t ht => ?_)
    · rw [u2_s, u2_i _ _ _ _ (by decide)]
      omega
    · exact f1.2.2.2.2.2.1 t (by omega)
  · rw [u2_a _ _ _ _ (by omega), u2_a _ _ _ _ (by omega)]
  · rw [u2_i _ _ _ _ (by decide), u2_i _ _ _ _ (by decide)]
  · rw [gb_head hF, hk]
    have e : (1 : Int) = 1 := rfl
    simp (disch := first | assumption | exact c2_int _ | exact c2_ref _ | exact c2_jk | exact c2_null | omega | (apply rN1; assumption) | (apply rN2; assumption) | (apply rN3; assumption) | (apply rN4; assumption) | exact bI_r _ | exact bI_01 _) only [↓fX6_goBack_0, ↓fX6_goBack_1, ↓fX6_goBack_4, ↓fX6_goBack_5, ↓fX6_goBack_6, ↓fX6_goBack_9, ↓fX6_goBack_10, ↓fX6_goBack_13, ↓fX6_goBack_16, ↓fX6_goBack_17, ↓fX6_goBack_18, ↓fX6_goBack_19, ↓fX6_goBack_22, ↓fX6_goBack_23, ↓fX6_goBack_24, ↓fX6_goBack_27, ↓fX6_goBack_28, ↓fX6_goBack_31, ↓fX6_goBack_32, ↓fX6_goBack_35, ↓fX6_goBack_38, ↓fX6_goBack_39, ↓fX6_goBack_40, ↓fX6_goBack_43, ↓fX6_goBack_44, ↓fX6_goBack_47, ↓fX6_goBack_50, ↓fX6_goBack_51, ↓fX6_goBack_52, ↓fX6_goBack_53, ↓fX6_goBack_56, ↓fX6_goBack_57, ↓fX6_goBack_58, ↓fX6_goBack_61, ↓fX6_goBack_62, ↓fX6_goBack_63, ↓fX6_goBack_66, ↓fX6_goBack_67, ↓fX6_goBack_68, ↓fX6_goBack_69, ↓fX6_goBack_72, ↓fX6_goBack_73, ↓fX6_goBack_74, ↓fX6_goBack_77, ↓fX6_goBack_78, ↓fX6_goBack_79, ↓fX6_goBack_82, ↓fX6_goBack_82n, ↓fX6_goBack_83, ↓fX6_goBack_84, ↓fX6_goBack_87, ↓fX6_goBack_88, ↓fX6_goBack_91, ↓fX6_goBack_92, ↓fX6_goBack_92n, ↓fX6_goBack_94, ↓fX6_goBack_94n, ↓fX6_goBack_95, ↓fX6_goBack_95r, ↓fX6_goBack_98, ↓fX6_goBack_98n, ↓fX6_goBack_100, ↓fX6_goBack_100r, ↓fX6_goBack_103, ↓fX6_goBack_103n, ↓fX6_goBack_104, ↓fX6_goBack_104n, ↓fX6_goBack_106, ↓fX6_goBack_109, e, and_self, true_and, and_true, false_and, and_false, not_true_eq_false, not_false_eq_true, or_self, true_or, or_true, false_or, or_false, ite_not, Decidable.not_not, decide_eq_true_eq, Bool.not_true, Bool.not_false, Bool.false_eq_true, Bool.not_eq_true, n10, n20, n21, n30, n31, n32, n40, n41, n42, n43, ↓reduceIte]
theorem c6_goBack0 {sN : Nat} (hF : SHF E r G H p q n σ (c + 1) kk nn τ) (hk : kk c = 0) (hs : nn c = sN) (hn : sN < n) :
    ∃ G' : Nat → Nat → Int, SHF E r G' H p q n (fun t => if t = sN then τ c else σ t) c kk nn τ ∧ frH G G' H ∧ ∀ Q, RK MX6_goBack 0 [.ref H, jk, jk, jk, jk] [] (0, 0) (E, zg G, zk L, r) Q = Q (E, zg G', zk L, r) .null := by
  have h0 := hF.1.1
  have n1 := hF.2.2.2.1
  have hp := hF.2.1
  have hc := hF.2.2.2.2.2.2.1.2
  obtain ⟨c1, c2, c3⟩ := hF.2.2.2.2.2.2.2.2 c (by omega)
  obtain ⟨R, w⟩ := c3 (by omega)
  have f1 : SHF E r (u2 G H 7 (c : Int)) H p q n σ c kk nn τ := SHF_less hF (by omega) (fun x hx => u2_a _ _ _ _ hx) (u2_i _ _ _ _ (by decide)) (u2_s _ _ _ _)
  have hps := (hp.1 sN (by omega)).2
  obtain ⟨G', g1, g2, g3⟩ := gb_tail (L := L) (kv := .int (zi 0)) (v3 := jk) (v4 := jk) (c2_int _) c2_jk c2_jk f1.1 f1.2.1 f1.2.2.1 (f1.2.2.2.1.1) n1.2 hn (by omega) (u2_s _ _ _ _) (f1.2.2.2.2.1 sN (by omega)) (RS_c (fun x x1 x2 => u2_a _ _ _ _ (by omega)) R) w
  refine ⟨G', SHF_set f1 hn (fun x hx => g1 x (by omega)) g2 w, ⟨fun x hx => ?_, ?_⟩, fun Q => ?_⟩
  · rw [g1 x (by omega), u2_a _ _ _ _ (by omega)]
  · rw [g1 H (by omega), u2_i _ _ _ _ (by decide)]
  · rw [gb_head hF, hk, hs]
    have n01 : ((0 : Int) = 1) = False := by decide
    have n02 : ((0 : Int) = 2) = False := by decide
    simp (disch := first | assumption | exact c2_int _ | exact c2_ref _ | exact c2_jk | exact c2_null | omega | (apply rN1; assumption) | (apply rN2; assumption) | (apply rN3; assumption) | (apply rN4; assumption) | exact bI_r _ | exact bI_01 _) only [↓fX6_goBack_0, ↓fX6_goBack_1, ↓fX6_goBack_4, ↓fX6_goBack_5, ↓fX6_goBack_6, ↓fX6_goBack_9, ↓fX6_goBack_10, ↓fX6_goBack_13, ↓fX6_goBack_16, ↓fX6_goBack_17, ↓fX6_goBack_18, ↓fX6_goBack_19, ↓fX6_goBack_22, ↓fX6_goBack_23, ↓fX6_goBack_24, ↓fX6_goBack_27, ↓fX6_goBack_28, ↓fX6_goBack_31, ↓fX6_goBack_32, ↓fX6_goBack_35, ↓fX6_goBack_38, ↓fX6_goBack_39, ↓fX6_goBack_40, ↓fX6_goBack_43, ↓fX6_goBack_44, ↓fX6_goBack_47, ↓fX6_goBack_50, ↓fX6_goBack_51, ↓fX6_goBack_52, ↓fX6_goBack_53, ↓fX6_goBack_56, ↓fX6_goBack_57, ↓fX6_goBack_58, ↓fX6_goBack_61, ↓fX6_goBack_62, ↓fX6_goBack_63, ↓fX6_goBack_66, ↓fX6_goBack_67, ↓fX6_goBack_68, ↓fX6_goBack_69, ↓fX6_goBack_72, ↓fX6_goBack_73, ↓fX6_goBack_74, ↓fX6_goBack_78, ↓fX6_goBack_79, ↓fX6_goBack_82, ↓fX6_goBack_82n, ↓fX6_goBack_83, ↓fX6_goBack_84, ↓fX6_goBack_87, ↓fX6_goBack_88, ↓fX6_goBack_91, ↓fX6_goBack_92, ↓fX6_goBack_92n, ↓fX6_goBack_94, ↓fX6_goBack_94n, ↓fX6_goBack_95, ↓fX6_goBack_95r, ↓fX6_goBack_98, ↓fX6_goBack_98n, ↓fX6_goBack_100, ↓fX6_goBack_100r, ↓fX6_goBack_103, ↓fX6_goBack_103n, ↓fX6_goBack_104, ↓fX6_goBack_104n, ↓fX6_goBack_106, ↓fX6_goBack_109, ↓g3, n01, n02, and_self, true_and, and_true, false_and, and_false, not_true_eq_false, not_false_eq_true, or_self, true_or, or_true, false_or, or_false, ite_not, Decidable.not_not, decide_eq_true_eq, Bool.not_true, Bool.not_false, Bool.false_eq_true, Bool.not_eq_true, n10, n20, n21, n30, n31, n32, n40, n41, n42, n43, ↓reduceIte]
theorem c6_goBack2 {sN : Nat} (hF : SHF E r G H p q n σ (c + 1) kk nn τ) (hk : kk c = 2) (hs : nn c = sN) (hsn : sN ≤ n) (hn : n < 4) :
    ∃ (G' : Nat → Nat → Int) (r' : Nat → Nat → Option Nat) (p' : Nat → Nat), SHF E r' G' H p' q (n + 1) (inS σ sN (τ c)) c kk nn τ ∧ frH G G' H ∧ frR r r' H ∧ ∀ Q, RK MX6_goBack 0 [.ref H, jk, jk, jk, jk] [] (0, 0) (E, zg G, zk L, r) Q = Q (E, zg G', zk L, r') .null := by
  have h0 := hF.1.1
  have n1 := hF.2.2.2.1
  have hp := hF.2.1
  have hc := hF.2.2.2.2.2.2.1.2
  obtain ⟨c1, c2, c3⟩ := hF.2.2.2.2.2.2.2.2 c (by omega)
  obtain ⟨R, w⟩ := c3 (by omega)
  have f1 : SHF E r (u2 G H 7 (c : Int)) H p q n σ c kk nn τ := SHF_less hF (by omega) (fun x hx => u2_a _ _ _ _ hx) (u2_i _ _ _ _ (by decide)) (u2_s _ _ _ _)
  have hpn := (hp.1 n hn).2
  have fR : frR r (opR r H sN n) H := fun x x1 x2 => by
    funext j
    show (if x = H + 1 ∧ j = sN then _ else if x = H + 1 ∧ sN < j ∧ j ≤ n then _ else _) = _
    rw [if_neg (by omega), if_neg (by omega)]
  have r5' : opR r H sN n (H + 5) = r (H + 5) := by
    funext j
    show (if H + 5 = H + 1 ∧ j = sN then _ else if H + 5 = H + 1 ∧ sN < j ∧ j ≤ n then _ else _) = _
    rw [if_neg (by omega), if_neg (by omega)]
  obtain ⟨v1, v2⟩ := op_sP hp hsn hn
  have pe : opP p sN n sN = p n := if_pos rfl
  have qA : sA (opR r H sN n) H q := ⟨fun t ht => by rw [r5']; exact f1.2.2.1.1 t ht, f1.2.2.1.2⟩
  have e1 : u2 G H 7 (c : Int) H 1 = n := f1.2.2.2.1.1
  obtain ⟨G', g1, g2, g3⟩ := gb_tail (L := L) (G1 := u2 (u2 G H 7 (c : Int)) H 1 ((n : Int) + 1)) (r1 := opR r H sN n) (p1 := opP p sN n) (q := q) (τ := τ) (c := c) (n1 := n + 1) (sN := sN) (kv := .int (zi 2)) (v3 := jk) (v4 := jk) (c2_int _) c2_jk c2_jk (shH_c fR hF.1) v1 qA ((u2_s _ _ _ _).trans (by omega)) (by omega) (by omega) (by omega) ((u2_i _ _ _ _ (by decide)).trans (u2_s _ _ _ _)) (by
    rw [pe]
    exact rgS_c (fun x x1 x2 => (u2_a _ _ _ _ (by omega))) (f1.2.2.2.2.1 n hn)) (RS_c (fun x x1 x2 => (u2_a _ _ _ _ (by omega)).trans (u2_a _ _ _ _ (by omega))) R) w
  rw [pe] at g1 g2
  refine ⟨G', opR r H sN n, opP p sN n, ?_, ⟨fun x hx => ?_, ?_⟩, fR, fun Q => ?_⟩
  · have f2 : SHF E r G' H p q (n + 1) (fun t => if t = n then τ c else σ t) c kk nn τ := by
      refine SHF_grow f1 hn (fun x x1 x2 => ?_) ?_ ?_ g2 w
      · rw [g1 x (by omega), u2_a _ _ _ _ x1]
      · rw [g1 H (by omega), u2_i _ _ _ _ (by decide)]
      · rw [g1 H (by omega), u2_s]
    refine SHF_perm f2 fR r5' v1 (fun _ _ => rfl) rfl f2.2.2.2.1.1 (by omega) v2 (fun t ht => ?_)
    have := f2.2.2.2.2.2.1 (if t = sN then n else if t < sN then t else t - 1) (by split <;> (try split) <;> omega)
    unfold opP inS
    by_cases y1 : t = sN
    · rw [if_pos y1] at this
      rw [if_pos y1, if_pos y1]
      simp only [if_true] at this
      exact this
    · rw [if_neg y1] at this
      rw [if_neg y1, if_neg y1]
      by_cases y2 : t < sN
      · rw [if_pos y2] at this
        rw [if_pos y2, if_neg (by omega)]
        simp only [show ¬ t = n by omega, if_false] at this
        exact this
      · rw [if_neg y2] at this
        rw [if_neg y2, if_pos (by omega)]
        simp only [show ¬ t - 1 = n by omega, if_false] at this
        exact this
  · rw [g1 x (by omega), u2_a _ _ _ _ (by omega), u2_a _ _ _ _ (by omega)]
  · rw [g1 H (by omega), u2_i _ _ _ _ (by decide), u2_i _ _ _ _ (by decide)]
  · rw [gb_head hF, hk, hs]
    have n01 : ((2 : Int) = 1) = False := by decide
    have n02 : ((2 : Int) = 2) = True := by decide
    have op := fun Q => c6_openAt (L := L) (Q := Q) f1.1 hp e1 hn hsn
    simp (disch := first | assumption | exact c2_int _ | exact c2_ref _ | exact c2_jk | exact c2_null | omega | (apply rN1; assumption) | (apply rN2; assumption) | (apply rN3; assumption) | (apply rN4; assumption) | exact bI_r _ | exact bI_01 _) only [↓fX6_goBack_0, ↓fX6_goBack_1, ↓fX6_goBack_4, ↓fX6_goBack_5, ↓fX6_goBack_6, ↓fX6_goBack_9, ↓fX6_goBack_10, ↓fX6_goBack_13, ↓fX6_goBack_16, ↓fX6_goBack_17, ↓fX6_goBack_18, ↓fX6_goBack_19, ↓fX6_goBack_22, ↓fX6_goBack_23, ↓fX6_goBack_24, ↓fX6_goBack_27, ↓fX6_goBack_28, ↓fX6_goBack_31, ↓fX6_goBack_32, ↓fX6_goBack_35, ↓fX6_goBack_38, ↓fX6_goBack_39, ↓fX6_goBack_40, ↓fX6_goBack_43, ↓fX6_goBack_44, ↓fX6_goBack_47, ↓fX6_goBack_50, ↓fX6_goBack_51, ↓fX6_goBack_52, ↓fX6_goBack_53, ↓fX6_goBack_56, ↓fX6_goBack_57, ↓fX6_goBack_58, ↓fX6_goBack_61, ↓fX6_goBack_62, ↓fX6_goBack_63, ↓fX6_goBack_66, ↓fX6_goBack_67, ↓fX6_goBack_68, ↓fX6_goBack_69, ↓fX6_goBack_72, ↓fX6_goBack_73, ↓fX6_goBack_74, ↓fX6_goBack_78, ↓fX6_goBack_79, ↓fX6_goBack_82, ↓fX6_goBack_82n, ↓fX6_goBack_83, ↓fX6_goBack_84, ↓fX6_goBack_87, ↓fX6_goBack_88, ↓fX6_goBack_91, ↓fX6_goBack_92, ↓fX6_goBack_92n, ↓fX6_goBack_94, ↓fX6_goBack_94n, ↓fX6_goBack_95, ↓fX6_goBack_95r, ↓fX6_goBack_98, ↓fX6_goBack_98n, ↓fX6_goBack_100, ↓fX6_goBack_100r, ↓fX6_goBack_103, ↓fX6_goBack_103n, ↓fX6_goBack_104, ↓fX6_goBack_104n, ↓fX6_goBack_106, ↓fX6_goBack_109, ↓op, ↓g3, n01, n02, and_self, true_and, and_true, false_and, and_false, not_true_eq_false, not_false_eq_true, or_self, true_or, or_true, false_or, or_false, ite_not, Decidable.not_not, decide_eq_true_eq, Bool.not_true, Bool.not_false, Bool.false_eq_true, Bool.not_eq_true, n10, n20, n21, n30, n31, n32, n40, n41, n42, n43, ↓reduceIte]
end BS
