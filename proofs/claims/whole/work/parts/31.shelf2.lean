/-! The shelf: add, remove, openAt, goBack. -/
def shR2 (r : Nat → Nat → Option Nat) (a0 s m : Nat) : Nat → Nat → Option Nat := fun a j => if a = a0 ∧ s ≤ j ∧ j < m then r a (j + 1) else r a j
def rmR (r : Nat → Nat → Option Nat) (H s n : Nat) : Nat → Nat → Option Nat := u2 (shR2 r (H + 1) s (n - 1)) (H + 1) (n - 1) (r (H + 1) s)
def rmP (p : Nat → Nat) (s n t : Nat) : Nat := if s ≤ t ∧ t < n - 1 then p (t + 1) else if t = n - 1 then p s else p t
def rmS {α : Type} (σ : Nat → α) (s t : Nat) : α := if t < s then σ t else σ (t + 1)
def opR2 (r : Nat → Nat → Option Nat) (a0 i n : Nat) : Nat → Nat → Option Nat := fun a j => if a = a0 ∧ i < j ∧ j ≤ n then r a (j - 1) else r a j
def opR (r : Nat → Nat → Option Nat) (H s n : Nat) : Nat → Nat → Option Nat := u2 (opR2 r (H + 1) s n) (H + 1) s (r (H + 1) n)
def opP (p : Nat → Nat) (s n t : Nat) : Nat := if t = s then p n else if s < t ∧ t ≤ n then p (t - 1) else p t
def inS {α : Type} (σ : Nat → α) (s : Nat) (v : α) (t : Nat) : α := if t = s then v else if t < s then σ t else σ (t - 1)
section BS
variable {E : AE} {G L : Nat → Nat → Int} {r : Nat → Nat → Option Nat} {h : AH} {Q : AH → Value → Prop} {S H n a : Nat} {p q : Nat → Nat} {σ τ : Nat → Nat → Int} {kk nn : Nat → Int} {i v x b u s kd' : Int}
theorem SHF_perm {r' : Nat → Nat → Option Nat} {G' : Nat → Nat → Int} {p' : Nat → Nat} {n' : Nat} {σ' : Nat → Nat → Int} (hF : SHF E r G H p q n σ a kk nn τ) (hr : frR r r' H) (hr5 : r' (H + 5) = r (H + 5)) (hp' : sP r' H p') (hG : ∀ x, x ≠ H → G' x = G x) (h7 : G' H 7 = G H 7) (h1 : G' H 1 = n') (hn : n' ≤ 4) (hpp : ∀ t, t < 4 → ∃ u, u < 4 ∧ p' t = p u) (hσ : ∀ t, t < n' → RS G (H + 6 + 6 * p' t) (σ' t) ∧ WF (σ' t)) : SHF E r' G' H p' q n' σ' a kk nn τ := by
  obtain ⟨hH, hp, hq, ⟨n1, n2⟩, hS, hR, ⟨a1, a2⟩, hT, hA⟩ := hF
  refine ⟨shH_c hr hH, hp', ⟨fun t ht => ?_, hq.2⟩, ⟨h1, hn⟩, fun t ht => ?_, fun t ht => ?_, ⟨h7.trans a1, a2⟩, fun t ht => ?_, fun t ht => ?_⟩
  · rw [hr5]
    exact hq.1 t ht
  · obtain ⟨u, hu, e⟩ := hpp t ht
    rw [e]
    exact rgS_c (fun x x1 x2 => hG x (by omega)) (hS u hu)
  · exact ⟨RS_c (fun x x1 x2 => hG x (by omega)) (hσ t ht).1, (hσ t ht).2⟩
  · exact rgS_c (fun x x1 x2 => hG x (by omega)) (hT t ht)
  · obtain ⟨c1, c2, c3⟩ := hA t ht
    rw [hG _ (by omega), hG _ (by omega)]
    exact ⟨c1, c2, fun y => ⟨RS_c (fun x x1 x2 => hG x (by omega)) (c3 y).1, (c3 y).2⟩⟩
theorem SHF_grow {G' : Nat → Nat → Int} {σn : Nat → Int} (hF : SHF E r G H p q n σ a kk nn τ) (hn : n < 4) (hG : ∀ x, x ≠ H → ¬ (H + 6 + 6 * p n ≤ x ∧ x ≤ H + 6 + 6 * p n + 5) → G' x = G x) (h7 : G' H 7 = G H 7) (h1 : G' H 1 = (n : Int) + 1) (hs : RS G' (H + 6 + 6 * p n) σn) (hw : WF σn) : SHF E r G' H p q (n + 1) (fun t => if t = n then σn else σ t) a kk nn τ := by
  obtain ⟨hH, hp, hq, ⟨n1, n2⟩, hS, hR, ⟨a1, a2⟩, hT, hA⟩ := hF
  have hpn := (hp.1 n hn).2
  have g : ∀ t, t < 4 → t ≠ n → eqS G G' (H + 6 + 6 * p t) := fun t ht h x x1 x2 => by
    have : p t ≠ p n := fun z => h (hp.2 t n ht hn z)
    exact hG x (by omega) (by omega)
  refine ⟨hH, hp, hq, ⟨h1.trans (by omega), by omega⟩, fun t ht => ?_, fun t ht => ?_, ⟨h7.trans a1, a2⟩, fun t ht => ?_, fun t ht => ?_⟩
  · by_cases z : t = n
    · rw [z]
      exact hs.1
    · exact rgS_c (g t ht z) (hS t ht)
  · by_cases z : t = n
    · simp only [z, if_true]
      exact ⟨hs, hw⟩
    · simp only [z, if_false]
      exact ⟨RS_c (g t (by omega) z) (hR t (by omega)).1, (hR t (by omega)).2⟩
  · exact rgS_c (fun x x1 x2 => hG x (by omega) (by omega)) (hT t ht)
  · obtain ⟨c1, c2, c3⟩ := hA t ht
    rw [hG _ (by omega) (by omega), hG _ (by omega) (by omega)]
    exact ⟨c1, c2, fun y => ⟨RS_c (fun x x1 x2 => hG x (by omega) (by omega)) (c3 y).1, (c3 y).2⟩⟩
/-- a sieve put in the place of another -/
theorem SHF_set {G' : Nat → Nat → Int} {σn : Nat → Int} {s : Nat} (hF : SHF E r G H p q n σ a kk nn τ) (hn : s < n) (hG : ∀ x, ¬ (H + 6 + 6 * p s ≤ x ∧ x ≤ H + 6 + 6 * p s + 5) → G' x = G x) (hs : RS G' (H + 6 + 6 * p s) σn) (hw : WF σn) : SHF E r G' H p q n (fun t => if t = s then σn else σ t) a kk nn τ := by
  obtain ⟨hH, hp, hq, ⟨n1, n2⟩, hS, hR, ⟨a1, a2⟩, hT, hA⟩ := hF
  have hpn := (hp.1 s (by omega)).2
  have g : ∀ t, t < 4 → t ≠ s → eqS G G' (H + 6 + 6 * p t) := fun t ht h x x1 x2 => by
    have : p t ≠ p s := fun z => h (hp.2 t s ht (by omega) z)
    exact hG x (by omega)
  refine ⟨hH, hp, hq, ⟨by rw [hG H (by omega)]; exact n1, n2⟩, fun t ht => ?_, fun t ht => ?_, ⟨by rw [hG H (by omega)]; exact a1, a2⟩, fun t ht => ?_, fun t ht => ?_⟩
  · by_cases z : t = s
    · rw [z]
      exact hs.1
    · exact rgS_c (g t ht z) (hS t ht)
  · by_cases z : t = s
    · simp only [z, if_true]
      exact ⟨hs, hw⟩
    · simp only [z, if_false]
      exact ⟨RS_c (g t (by omega) z) (hR t (by omega)).1, (hR t (by omega)).2⟩
  · exact rgS_c (fun x x1 x2 => hG x (by omega)) (hT t ht)
  · obtain ⟨c1, c2, c3⟩ := hA t ht
    rw [hG _ (by omega), hG _ (by omega)]
    exact ⟨c1, c2, fun y => ⟨RS_c (fun x x1 x2 => hG x (by omega)) (c3 y).1, (c3 y).2⟩⟩
theorem c6_add0 (hF : SHF E r G H p q 4 σ a kk nn τ) : RK MX6_add 0 [.ref H] [] (0, 0) (E, zg G, zk L, r) Q = Q (E, zg G, zk L, r) .null := by
  have n1 := hF.2.2.2.1.1
  have h0 := hF.1.1
  have h6 : ¬ G H 1 < 4 := by omega
  simp (disch := first | assumption | exact c2_int _ | exact c2_ref _ | exact c2_jk | exact c2_null | omega | (apply rN1; assumption) | (apply rN2; assumption) | (apply rN3; assumption) | (apply rN4; assumption) | exact bI_r _ | exact bI_01 _) only [↓fX6_add_0, ↓fX6_add_1, ↓fX6_add_4, ↓fX6_add_5, ↓fX6_add_8, ↓fX6_add_9, ↓fX6_add_9n, ↓fX6_add_10, ↓fX6_add_11, ↓fX6_add_12, ↓fX6_add_13, ↓fX6_add_16, ↓fX6_add_19, ↓fX6_add_20, ↓fX6_add_21, ↓fX6_add_24, ↓fX6_add_25, ↓fX6_add_26, ↓fX6_add_29, ↓fX6_add_30, ↓fX6_add_31, ↓fX6_add_34, ↓fX6_add_35, ↓fX6_add_36, ↓fX6_add_39, ↓fX6_add_39n, h6, and_self, true_and, and_true, false_and, and_false, not_true_eq_false, not_false_eq_true, or_self, true_or, or_true, false_or, or_false, ite_not, Decidable.not_not, decide_eq_true_eq, Bool.not_true, Bool.not_false, Bool.false_eq_true, Bool.not_eq_true, n10, n20, n21, n30, n31, n32, n40, n41, n42, n43, ↓reduceIte]
theorem c6_add (hF : SHF E r G H p q n σ a kk nn τ) (hn : n < 4) :
    ∃ (G' : Nat → Nat → Int) (r' : Nat → Nat → Option Nat) (q' : Nat → Nat), SHF E r' G' H p q' n σ (kpA a) (kpN a kk 1) (kpN a nn n) (kpN a τ (σ n)) ∧ frH G G' H ∧ frR r r' H ∧ ∀ Q, RK MX6_add 0 [.ref H] [] (0, 0) (E, zg G, zk L, r) Q = Q (E, zg (u2 G' H 1 ((n : Int) + 1)), zk L, r') (.ref (H + 6 + 6 * p n)) := by
  have n1 := hF.2.2.2.1.1
  have h0 := hF.1.1
  obtain ⟨G', r', q', t1, t2, t3, t4, t5⟩ := c6_keepAct (L := L) (kd' := 1) (s := n) hF (Or.inr ⟨rfl, rfl⟩)
  rw [Int.toNat_natCast] at t1
  refine ⟨G', r', q', t1, t2, t3, fun Q => ?_⟩
  have h6 : G H 1 < 4 := by omega
  have e : ∀ Q, RK MX6_sieveAt 0 [.ref H, .int (zi (u2 G' H 1 (G' H 1 + 1) H 1 - 1))] [] (0, 0) (E, zg (u2 G' H 1 (G' H 1 + 1)), zk L, r') Q = Q (E, zg (u2 G' H 1 (G' H 1 + 1)), zk L, r') (.ref (H + 6 + 6 * p n)) := fun Q => by
    have e1 : u2 G' H 1 (G' H 1 + 1) H 1 = (n : Int) + 1 := by rw [u2_s, t4]
    rw [e1, show (n : Int) + 1 - 1 = n by omega, c6_sieveAt t1.1 t1.2.1 (by omega) (by omega), if_pos (by omega), Int.toNat_natCast]
  have e2 : ∀ Q, RK MX6_keepAct 0 [.ref H, .int (zi 1), .int (zi (G H 1)), jk, jk] [] (0, 0) (E, zg G, zk L, r) Q = Q (E, zg G', zk L, r') .null := fun Q => by
    rw [n1]
    exact t5 Q
  simp (disch := first | assumption | exact c2_int _ | exact c2_ref _ | exact c2_jk | exact c2_null | omega | (apply rN1; assumption) | (apply rN2; assumption) | (apply rN3; assumption) | (apply rN4; assumption) | exact bI_r _ | exact bI_01 _) only [↓fX6_add_0, ↓fX6_add_1, ↓fX6_add_4, ↓fX6_add_5, ↓fX6_add_8, ↓fX6_add_9, ↓fX6_add_9n, ↓fX6_add_10, ↓fX6_add_11, ↓fX6_add_12, ↓fX6_add_13, ↓fX6_add_16, ↓fX6_add_19, ↓fX6_add_20, ↓fX6_add_21, ↓fX6_add_24, ↓fX6_add_25, ↓fX6_add_26, ↓fX6_add_29, ↓fX6_add_30, ↓fX6_add_31, ↓fX6_add_34, ↓fX6_add_35, ↓fX6_add_36, ↓fX6_add_39, ↓fX6_add_39n, ↓e2, ↓e, h6, and_self, true_and, and_true, false_and, and_false, not_true_eq_false, not_false_eq_true, or_self, true_or, or_true, false_or, or_false, ite_not, Decidable.not_not, decide_eq_true_eq, Bool.not_true, Bool.not_false, Bool.false_eq_true, Bool.not_eq_true, n10, n20, n21, n30, n31, n32, n40, n41, n42, n43, ↓reduceIte]
  rw [t4]
theorem c6_rm_loop {b : Nat} {sN : Nat} (hH : shH E r H) (hp : sP r H p) (hn : G H 1 = n) (hn4 : n ≤ 4) (hs : sN < n) {kv : Value} (hkv : c2 kv = false) : ∀ (k m : Nat), n - 1 - m ≤ k → sN ≤ m → m ≤ n - 1 →
    RK MX6_remove 42 [.ref H, kv, .ref b, .int (zi (m : Int))] [] (0, 0) (E, zg G, zk L, shR2 r (H + 1) sN m) Q = RK MX6_remove 72 [.ref H, kv, .ref b, .int (zi ((n - 1 : Nat) : Int))] [] (0, 0) (E, zg G, zk L, shR2 r (H + 1) sN (n - 1)) Q := by
  obtain ⟨h0, ⟨h1, h2, h3, h4, h5⟩, ⟨l1, l2, l3, l4, l5⟩, ⟨r0, r2, r4, r5, r6⟩, b1, b2, b3, b4⟩ := id hH
  have hl : ∀ m, shR2 r (H + 1) sN m H 0 = some (H + 1) := fun m => by
    unfold shR2
    rw [if_neg (by omega)]
    assumption
  intro k
  induction k with
  | zero =>
    intro m g1 g2 g3
    have e : m = n - 1 := by omega
    subst e
    have h6 : ¬ ((n - 1 : Nat) : Int) < G H 1 - 1 := by omega
    simp (disch := first | assumption | exact c2_int _ | exact c2_ref _ | exact c2_jk | exact c2_null | omega | (apply rN1; assumption) | (apply rN2; assumption) | (apply rN3; assumption) | (apply rN4; assumption) | exact bI_r _ | exact bI_01 _) only [↓fX6_remove_0, ↓fX6_remove_1, ↓fX6_remove_2, ↓fX6_remove_3, ↓fX6_remove_6, ↓fX6_remove_7, ↓fX6_remove_8, ↓fX6_remove_11, ↓fX6_remove_14, ↓fX6_remove_15, ↓fX6_remove_18, ↓fX6_remove_19, ↓fX6_remove_22, ↓fX6_remove_23, ↓fX6_remove_26, ↓fX6_remove_27, ↓fX6_remove_28, ↓fX6_remove_29, ↓fX6_remove_30, ↓fX6_remove_33, ↓fX6_remove_34, ↓fX6_remove_37, ↓fX6_remove_38, ↓fX6_remove_39, ↓fX6_remove_39n, ↓fX6_remove_40, ↓fX6_remove_41, ↓fX6_remove_42, ↓fX6_remove_43, ↓fX6_remove_44, ↓fX6_remove_47, ↓fX6_remove_48, ↓fX6_remove_49, ↓fX6_remove_52, ↓fX6_remove_53, ↓fX6_remove_56, ↓fX6_remove_57, ↓fX6_remove_58, ↓fX6_remove_61, ↓fX6_remove_62, ↓fX6_remove_63, ↓fX6_remove_64, ↓fX6_remove_65, ↓fX6_remove_66, ↓fX6_remove_69, ↓fX6_remove_73, ↓fX6_remove_76, ↓fX6_remove_77, ↓fX6_remove_80, ↓fX6_remove_81, ↓fX6_remove_82, ↓fX6_remove_82n, ↓fX6_remove_83, ↓fX6_remove_84, ↓fX6_remove_85, ↓fX6_remove_86, ↓fX6_remove_89, ↓fX6_remove_90, ↓fX6_remove_91, ↓fX6_remove_94, h6, and_self, true_and, and_true, false_and, and_false, not_true_eq_false, not_false_eq_true, or_self, true_or, or_true, false_or, or_false, ite_not, Decidable.not_not, decide_eq_true_eq, Bool.not_true, Bool.not_false, Bool.false_eq_true, Bool.not_eq_true, n10, n20, n21, n30, n31, n32, n40, n41, n42, n43, ↓reduceIte]
  | succ k ih =>
    intro m g1 g2 g3
    by_cases h6 : m < n - 1
    · have e1 := hl m
      obtain ⟨w1, w2⟩ := hp.1 (m + 1) (by omega)
      have k14 := (b1 _ w2).1
      have h7 : (m : Int) < G H 1 - 1 := by omega
      have f7 : shR2 r (H + 1) sN m (H + 1) ((m : Int) + 1).toNat = some (H + 6 + 6 * p (m + 1)) := by
        unfold shR2
        rw [if_neg (by omega)]
        exact w1
      have f6 : u2 (shR2 r (H + 1) sN m) (H + 1) m (some (H + 6 + 6 * p (m + 1))) = shR2 r (H + 1) sN (m + 1) := by
        funext a j
        simp only [u2, shR2]
        by_cases a4 : a = H + 1
        · subst a4
          by_cases j1 : j = m
          · subst j1
            rw [if_pos ⟨rfl, rfl⟩, if_pos (by omega), w1]
          · rw [if_neg (by omega)]
            by_cases j2 : sN ≤ j ∧ j < m
            · rw [if_pos (by omega), if_pos (by omega)]
            · rw [if_neg (by omega), if_neg (by omega)]
        · rw [if_neg (by omega), if_neg (by omega), if_neg (by omega)]
      have ih' := ih (m + 1) (by omega) (by omega) (by omega)
      rw [← f6] at ih'
      have ih'' : RK MX6_remove 42 [.ref H, kv, .ref b, .int (zi ((m : Int) + 1))] [] (0, 0) _ Q = _ := ih'
      rw [fX6_remove_42]
      simp (disch := first | assumption | exact c2_int _ | exact c2_ref _ | exact c2_jk | exact c2_null | omega | (apply rN1; assumption) | (apply rN2; assumption) | (apply rN3; assumption) | (apply rN4; assumption) | exact bI_r _ | exact bI_01 _) only [↓fX6_remove_0, ↓fX6_remove_1, ↓fX6_remove_2, ↓fX6_remove_3, ↓fX6_remove_6, ↓fX6_remove_7, ↓fX6_remove_8, ↓fX6_remove_11, ↓fX6_remove_14, ↓fX6_remove_15, ↓fX6_remove_18, ↓fX6_remove_19, ↓fX6_remove_22, ↓fX6_remove_23, ↓fX6_remove_26, ↓fX6_remove_27, ↓fX6_remove_28, ↓fX6_remove_29, ↓fX6_remove_30, ↓fX6_remove_33, ↓fX6_remove_34, ↓fX6_remove_37, ↓fX6_remove_38, ↓fX6_remove_39, ↓fX6_remove_39n, ↓fX6_remove_40, ↓fX6_remove_41, ↓fX6_remove_43, ↓fX6_remove_44, ↓fX6_remove_47, ↓fX6_remove_48, ↓fX6_remove_49, ↓fX6_remove_52, ↓fX6_remove_53, ↓fX6_remove_56, ↓fX6_remove_57, ↓fX6_remove_58, ↓fX6_remove_61, ↓fX6_remove_62, ↓fX6_remove_63, ↓fX6_remove_64, ↓fX6_remove_65, ↓fX6_remove_66, ↓fX6_remove_69, ↓fX6_remove_73, ↓fX6_remove_76, ↓fX6_remove_77, ↓fX6_remove_80, ↓fX6_remove_81, ↓fX6_remove_82, ↓fX6_remove_82n, ↓fX6_remove_83, ↓fX6_remove_84, ↓fX6_remove_85, ↓fX6_remove_86, ↓fX6_remove_89, ↓fX6_remove_90, ↓fX6_remove_91, ↓fX6_remove_94, Int.toNat_natCast, h7, and_self, true_and, and_true, false_and, and_false, not_true_eq_false, not_false_eq_true, or_self, true_or, or_true, false_or, or_false, ite_not, Decidable.not_not, decide_eq_true_eq, Bool.not_true, Bool.not_false, Bool.false_eq_true, Bool.not_eq_true, n10, n20, n21, n30, n31, n32, n40, n41, n42, n43, ↓reduceIte]
      exact ih''
    · have e : m = n - 1 := by omega
      subst e
      have h6 : ¬ ((n - 1 : Nat) : Int) < G H 1 - 1 := by omega
      simp (disch := first | assumption | exact c2_int _ | exact c2_ref _ | exact c2_jk | exact c2_null | omega | (apply rN1; assumption) | (apply rN2; assumption) | (apply rN3; assumption) | (apply rN4; assumption) | exact bI_r _ | exact bI_01 _) only [↓fX6_remove_0, ↓fX6_remove_1, ↓fX6_remove_2, ↓fX6_remove_3, ↓fX6_remove_6, ↓fX6_remove_7, ↓fX6_remove_8, ↓fX6_remove_11, ↓fX6_remove_14, ↓fX6_remove_15, ↓fX6_remove_18, ↓fX6_remove_19, ↓fX6_remove_22, ↓fX6_remove_23, ↓fX6_remove_26, ↓fX6_remove_27, ↓fX6_remove_28, ↓fX6_remove_29, ↓fX6_remove_30, ↓fX6_remove_33, ↓fX6_remove_34, ↓fX6_remove_37, ↓fX6_remove_38, ↓fX6_remove_39, ↓fX6_remove_39n, ↓fX6_remove_40, ↓fX6_remove_41, ↓fX6_remove_42, ↓fX6_remove_43, ↓fX6_remove_44, ↓fX6_remove_47, ↓fX6_remove_48, ↓fX6_remove_49, ↓fX6_remove_52, ↓fX6_remove_53, ↓fX6_remove_56, ↓fX6_remove_57, ↓fX6_remove_58, ↓fX6_remove_61, ↓fX6_remove_62, ↓fX6_remove_63, ↓fX6_remove_64, ↓fX6_remove_65, ↓fX6_remove_66, ↓fX6_remove_69, ↓fX6_remove_73, ↓fX6_remove_76, ↓fX6_remove_77, ↓fX6_remove_80, ↓fX6_remove_81, ↓fX6_remove_82, ↓fX6_remove_82n, ↓fX6_remove_83, ↓fX6_remove_84, ↓fX6_remove_85, ↓fX6_remove_86, ↓fX6_remove_89, ↓fX6_remove_90, ↓fX6_remove_91, ↓fX6_remove_94, h6, and_self, true_and, and_true, false_and, and_false, not_true_eq_false, not_false_eq_true, or_self, true_or, or_true, false_or, or_false, ite_not, Decidable.not_not, decide_eq_true_eq, Bool.not_true, Bool.not_false, Bool.false_eq_true, Bool.not_eq_true, n10, n20, n21, n30, n31, n32, n40, n41, n42, n43, ↓reduceIte]
theorem rm_sP {sN : Nat} (hp : sP r H p) (hs : sN < n) (hn : n ≤ 4) : sP (rmR r H sN n) H (rmP p sN n) ∧ (∀ t, t < 4 → ∃ u, u < 4 ∧ rmP p sN n t = p u) := by
  refine ⟨⟨fun t ht => ?_, fun t u ht hu he => ?_⟩, fun t ht => ?_⟩
  · have e : rmR r H sN n (H + 1) t = if t = n - 1 then r (H + 1) sN else if sN ≤ t ∧ t < n - 1 then r (H + 1) (t + 1) else r (H + 1) t := by
      show (if H + 1 = H + 1 ∧ t = n - 1 then _ else if H + 1 = H + 1 ∧ sN ≤ t ∧ t < n - 1 then _ else _) = _
      simp only [true_and]
    rw [e, rmP]
    by_cases c1 : t = n - 1
    · rw [if_pos c1, if_neg (by omega), if_pos c1]
      exact hp.1 sN (by omega)
    · rw [if_neg c1]
      by_cases c2 : sN ≤ t ∧ t < n - 1
      · rw [if_pos c2, if_pos c2]
        exact hp.1 (t + 1) (by omega)
      · rw [if_neg c2, if_neg c2, if_neg c1]
        exact hp.1 t ht
  · have f : ∀ t, t < 4 → rmP p sN n t = p (if sN ≤ t ∧ t < n - 1 then t + 1 else if t = n - 1 then sN else t) := fun t ht => by
      unfold rmP
      split
      · rfl
      · split <;> rfl
    rw [f t ht, f u hu] at he
    have := hp.2 _ _ (by split <;> (try split) <;> omega) (by split <;> (try split) <;> omega) he
    revert this
    split <;> split <;> (try split) <;> (try split) <;> omega
  · unfold rmP
    split
    · exact ⟨t + 1, by omega, rfl⟩
    · split
      · exact ⟨sN, by omega, rfl⟩
      · exact ⟨t, ht, rfl⟩
theorem rmP_lt {sN t : Nat} (ht : t < n - 1) : rmP p sN n t = p (if t < sN then t else t + 1) := by
  unfold rmP
  by_cases c : t < sN
  · rw [if_neg (by omega), if_neg (by omega), if_pos c]
  · rw [if_pos (by omega), if_neg c]
theorem c6_remove {sN : Nat} (hF : SHF E r G H p q n σ a kk nn τ) (hs : sN < n) :
    ∃ (G' : Nat → Nat → Int) (r' : Nat → Nat → Option Nat) (q' : Nat → Nat), SHF E r' G' H (rmP p sN n) q' (n - 1) (rmS σ sN) (kpA a) (kpN a kk 2) (kpN a nn sN) (kpN a τ (σ sN)) ∧ frH G G' H ∧ frR r r' H ∧ ∀ Q, RK MX6_remove 0 [.ref H, .int (zi (sN : Int)), jk, jk] [] (0, 0) (E, zg G, zk L, r) Q = Q (E, zg G', zk L, r') .null := by
  have n1 := hF.2.2.2.1
  obtain ⟨h0, ⟨h1, h2, h3, h4, h5⟩, ⟨l1, l2, l3, l4, l5⟩, ⟨r0, r2, r4, r5, r6⟩, b1, b2, b3, b4⟩ := id hF.1
  obtain ⟨G1, r1, q', t1, t2, t3, t4, t5⟩ := c6_keepAct (L := L) (kd' := 2) (s := (sN : Int)) hF (Or.inl ⟨by omega, by omega⟩)
  rw [Int.toNat_natCast] at t1
  have hp1 := t1.2.1
  obtain ⟨v1, v2⟩ := rm_sP (r := r1) hp1 hs n1.2
  have ps := hp1.1 sN (by omega)
  have k14 := (b1 _ ps.2).1
  have r10 : r1 H 0 = some (H + 1) := by rw [t3 H (by omega) (by omega)]; exact r0
  have lp := fun Q => c6_rm_loop (Q := Q) (r := r1) (G := G1) (L := L) (b := H + 6 + 6 * p sN) t1.1 hp1 t4 n1.2 hs (c2_int (zi (sN : Int))) 4 sN (by omega) (by omega) (by omega)
  have e0 : shR2 r1 (H + 1) sN sN = r1 := by
    funext x j
    exact if_neg (by omega)
  have e1 : shR2 r1 (H + 1) sN (n - 1) H 0 = some (H + 1) := by
    unfold shR2
    rw [if_neg (by omega)]
    exact r10
  rw [e0] at lp
  have fR : frR r1 (rmR r1 H sN n) H := fun x x1 x2 => by
    funext j
    show (if x = H + 1 ∧ j = n - 1 then _ else if x = H + 1 ∧ sN ≤ j ∧ j < n - 1 then _ else _) = _
    rw [if_neg (by omega), if_neg (by omega)]
  have r5' : rmR r1 H sN n (H + 5) = r1 (H + 5) := by
    funext j
    show (if H + 5 = H + 1 ∧ j = n - 1 then _ else if H + 5 = H + 1 ∧ sN ≤ j ∧ j < n - 1 then _ else _) = _
    rw [if_neg (by omega), if_neg (by omega)]
  refine ⟨u2 G1 H 1 ((n : Int) - 1), rmR r1 H sN n, q', ?_, t2.trans ⟨fun x hx => u2_a _ _ _ _ (by omega), u2_i _ _ _ _ (by decide)⟩, t3.trans fR, fun Q => ?_⟩
  · refine SHF_perm t1 fR r5' v1 (fun x hx => u2_a _ _ _ _ hx) (u2_i _ _ _ _ (by decide)) ?_ (by omega) v2 (fun t ht => ?_)
    · rw [u2_s]
      omega
    · rw [rmP_lt ht]
      unfold rmS
      have := t1.2.2.2.2.2.1 (if t < sN then t else t + 1) (by split <;> omega)
      split
      · rw [if_pos (by assumption)] at this
        exact this
      · rw [if_neg (by assumption)] at this
        exact this
  · have h6 : (0 ≤ (sN : Int) ∧ (sN : Int) ≤ G H 1 - 1) = True := eq_true (by omega)
    have h7 : G H 1 ≤ (le E (H + 1) : Int) := by omega
    have e9 : (G1 H 1 - 1).toNat = n - 1 := by omega
    have ps1 : r1 (H + 1) ((sN : Int)).toNat = some (H + 6 + 6 * p sN) := ps.1
    simp (disch := first | assumption | exact c2_int _ | exact c2_ref _ | exact c2_jk | exact c2_null | omega | (apply rN1; assumption) | (apply rN2; assumption) | (apply rN3; assumption) | (apply rN4; assumption) | exact bI_r _ | exact bI_01 _) only [↓fX6_remove_0, ↓fX6_remove_1, ↓fX6_remove_2, ↓fX6_remove_3, ↓fX6_remove_6, ↓fX6_remove_7, ↓fX6_remove_8, ↓fX6_remove_11, ↓fX6_remove_14, ↓fX6_remove_15, ↓fX6_remove_18, ↓fX6_remove_19, ↓fX6_remove_22, ↓fX6_remove_23, ↓fX6_remove_26, ↓fX6_remove_27, ↓fX6_remove_28, ↓fX6_remove_29, ↓fX6_remove_30, ↓fX6_remove_33, ↓fX6_remove_34, ↓fX6_remove_37, ↓fX6_remove_38, ↓fX6_remove_39, ↓fX6_remove_39n, ↓fX6_remove_40, ↓fX6_remove_41, ↓fX6_remove_43, ↓fX6_remove_44, ↓fX6_remove_47, ↓fX6_remove_48, ↓fX6_remove_49, ↓fX6_remove_52, ↓fX6_remove_53, ↓fX6_remove_56, ↓fX6_remove_57, ↓fX6_remove_58, ↓fX6_remove_61, ↓fX6_remove_62, ↓fX6_remove_63, ↓fX6_remove_64, ↓fX6_remove_65, ↓fX6_remove_66, ↓fX6_remove_69, ↓fX6_remove_72, ↓fX6_remove_73, ↓fX6_remove_76, ↓fX6_remove_77, ↓fX6_remove_80, ↓fX6_remove_81, ↓fX6_remove_82, ↓fX6_remove_82n, ↓fX6_remove_83, ↓fX6_remove_84, ↓fX6_remove_85, ↓fX6_remove_86, ↓fX6_remove_89, ↓fX6_remove_90, ↓fX6_remove_91, ↓fX6_remove_94, ↓c9_within, ↓t5, ↓lp, bI_0, h6, h7, e9, and_self, true_and, and_true, false_and, and_false, not_true_eq_false, not_false_eq_true, or_self, true_or, or_true, false_or, or_false, ite_not, Decidable.not_not, decide_eq_true_eq, Bool.not_true, Bool.not_false, Bool.false_eq_true, Bool.not_eq_true, n10, n20, n21, n30, n31, n32, n40, n41, n42, n43, ↓reduceIte]
    rw [t4, rmR, ps.1]
theorem c6_op_loop {b : Nat} {sN : Nat} (hH : shH E r H) (hp : sP r H p) (hn4 : n < 4) (hs : sN ≤ n) : ∀ (k m : Nat), m - sN ≤ k → sN ≤ m → m ≤ n →
    RK MX6_openAt 40 [.ref H, .int (zi (sN : Int)), .ref b, .int (zi (m : Int))] [] (0, 0) (E, zg G, zk L, opR2 r (H + 1) m n) Q = RK MX6_openAt 65 [.ref H, .int (zi (sN : Int)), .ref b, .int (zi (sN : Int))] [] (0, 0) (E, zg G, zk L, opR2 r (H + 1) sN n) Q := by
  obtain ⟨h0, ⟨h1, h2, h3, h4, h5⟩, ⟨l1, l2, l3, l4, l5⟩, ⟨r0, r2, r4, r5, r6⟩, b1, b2, b3, b4⟩ := id hH
  have hl : ∀ m, opR2 r (H + 1) m n H 0 = some (H + 1) := fun m => by
    unfold opR2
    rw [if_neg (by omega)]
    assumption
  intro k
  induction k with
  | zero =>
    intro m g1 g2 g3
    have e : m = sN := by omega
    subst e
    have h6 : (m : Int) ≤ (m : Int) := Int.le_refl _
    have h6' : ¬ (m : Int) < (m : Int) := by omega
    simp (disch := first | assumption | exact c2_int _ | exact c2_ref _ | exact c2_jk | exact c2_null | omega | (apply rN1; assumption) | (apply rN2; assumption) | (apply rN3; assumption) | (apply rN4; assumption) | exact bI_r _ | exact bI_01 _) only [↓fX6_openAt_0, ↓fX6_openAt_1, ↓fX6_openAt_2, ↓fX6_openAt_3, ↓fX6_openAt_6, ↓fX6_openAt_9, ↓fX6_openAt_12, ↓fX6_openAt_13, ↓fX6_openAt_16, ↓fX6_openAt_17, ↓fX6_openAt_20, ↓fX6_openAt_21, ↓fX6_openAt_24, ↓fX6_openAt_25, ↓fX6_openAt_26, ↓fX6_openAt_29, ↓fX6_openAt_30, ↓fX6_openAt_33, ↓fX6_openAt_34, ↓fX6_openAt_34n, ↓fX6_openAt_35, ↓fX6_openAt_36, ↓fX6_openAt_39, ↓fX6_openAt_40, ↓fX6_openAt_41, ↓fX6_openAt_42, ↓fX6_openAt_45, ↓fX6_openAt_46, ↓fX6_openAt_49, ↓fX6_openAt_50, ↓fX6_openAt_51, ↓fX6_openAt_54, ↓fX6_openAt_55, ↓fX6_openAt_56, ↓fX6_openAt_57, ↓fX6_openAt_58, ↓fX6_openAt_59, ↓fX6_openAt_62, ↓fX6_openAt_66, ↓fX6_openAt_69, ↓fX6_openAt_70, ↓fX6_openAt_70n, ↓fX6_openAt_71, ↓fX6_openAt_72, ↓fX6_openAt_73, ↓fX6_openAt_74, ↓fX6_openAt_77, ↓fX6_openAt_78, ↓fX6_openAt_79, ↓fX6_openAt_82, h6, h6', and_self, true_and, and_true, false_and, and_false, not_true_eq_false, not_false_eq_true, or_self, true_or, or_true, false_or, or_false, ite_not, Decidable.not_not, decide_eq_true_eq, Bool.not_true, Bool.not_false, Bool.false_eq_true, Bool.not_eq_true, n10, n20, n21, n30, n31, n32, n40, n41, n42, n43, ↓reduceIte]
  | succ k ih =>
    intro m g1 g2 g3
    by_cases h6 : sN < m
    · have e1 := hl m
      obtain ⟨w1, w2⟩ := hp.1 (m - 1) (by omega)
      have k14 := (b1 _ w2).1
      have h7 : (sN : Int) < (m : Int) := by omega
      have h7' : ¬ (m : Int) ≤ (sN : Int) := by omega
      have f7 : opR2 r (H + 1) m n (H + 1) ((m : Int) - 1).toNat = some (H + 6 + 6 * p (m - 1)) := by
        unfold opR2
        rw [if_neg (by omega), show ((m : Int) - 1).toNat = m - 1 by omega]
        exact w1
      have f6 : u2 (opR2 r (H + 1) m n) (H + 1) m (some (H + 6 + 6 * p (m - 1))) = opR2 r (H + 1) (m - 1) n := by
        funext a j
        simp only [u2, opR2]
        by_cases a4 : a = H + 1
        · subst a4
          by_cases j1 : j = m
          · subst j1
            rw [if_pos ⟨rfl, rfl⟩, if_pos (by omega), w1]
          · rw [if_neg (by omega)]
            by_cases j2 : m < j ∧ j ≤ n
            · rw [if_pos (by omega), if_pos (by omega)]
            · rw [if_neg (by omega), if_neg (by omega)]
        · rw [if_neg (by omega), if_neg (by omega), if_neg (by omega)]
      have ih' := ih (m - 1) (by omega) (by omega) (by omega)
      rw [← f6, show ((m - 1 : Nat) : Int) = (m : Int) + -1 by omega] at ih'
      rw [fX6_openAt_40]
      simp (disch := first | assumption | exact c2_int _ | exact c2_ref _ | exact c2_jk | exact c2_null | omega | (apply rN1; assumption) | (apply rN2; assumption) | (apply rN3; assumption) | (apply rN4; assumption) | exact bI_r _ | exact bI_01 _) only [↓fX6_openAt_0, ↓fX6_openAt_1, ↓fX6_openAt_2, ↓fX6_openAt_3, ↓fX6_openAt_6, ↓fX6_openAt_9, ↓fX6_openAt_12, ↓fX6_openAt_13, ↓fX6_openAt_16, ↓fX6_openAt_17, ↓fX6_openAt_20, ↓fX6_openAt_21, ↓fX6_openAt_24, ↓fX6_openAt_25, ↓fX6_openAt_26, ↓fX6_openAt_29, ↓fX6_openAt_30, ↓fX6_openAt_33, ↓fX6_openAt_34, ↓fX6_openAt_34n, ↓fX6_openAt_35, ↓fX6_openAt_36, ↓fX6_openAt_39, ↓fX6_openAt_41, ↓fX6_openAt_42, ↓fX6_openAt_45, ↓fX6_openAt_46, ↓fX6_openAt_49, ↓fX6_openAt_50, ↓fX6_openAt_51, ↓fX6_openAt_54, ↓fX6_openAt_55, ↓fX6_openAt_56, ↓fX6_openAt_57, ↓fX6_openAt_58, ↓fX6_openAt_59, ↓fX6_openAt_62, ↓fX6_openAt_66, ↓fX6_openAt_69, ↓fX6_openAt_70, ↓fX6_openAt_70n, ↓fX6_openAt_71, ↓fX6_openAt_72, ↓fX6_openAt_73, ↓fX6_openAt_74, ↓fX6_openAt_77, ↓fX6_openAt_78, ↓fX6_openAt_79, ↓fX6_openAt_82, Int.toNat_natCast, h7, h7', and_self, true_and, and_true, false_and, and_false, not_true_eq_false, not_false_eq_true, or_self, true_or, or_true, false_or, or_false, ite_not, Decidable.not_not, decide_eq_true_eq, Bool.not_true, Bool.not_false, Bool.false_eq_true, Bool.not_eq_true, n10, n20, n21, n30, n31, n32, n40, n41, n42, n43, ↓reduceIte]
      exact ih'
    · have e : m = sN := by omega
      subst e
      have h6 : (m : Int) ≤ (m : Int) := Int.le_refl _
      have h6' : ¬ (m : Int) < (m : Int) := by omega
      simp (disch := first | assumption | exact c2_int _ | exact c2_ref _ | exact c2_jk | exact c2_null | omega | (apply rN1; assumption) | (apply rN2; assumption) | (apply rN3; assumption) | (apply rN4; assumption) | exact bI_r _ | exact bI_01 _) only [↓fX6_openAt_0, ↓fX6_openAt_1, ↓fX6_openAt_2, ↓fX6_openAt_3, ↓fX6_openAt_6, ↓fX6_openAt_9, ↓fX6_openAt_12, ↓fX6_openAt_13, ↓fX6_openAt_16, ↓fX6_openAt_17, ↓fX6_openAt_20, ↓fX6_openAt_21, ↓fX6_openAt_24, ↓fX6_openAt_25, ↓fX6_openAt_26, ↓fX6_openAt_29, ↓fX6_openAt_30, ↓fX6_openAt_33, ↓fX6_openAt_34, ↓fX6_openAt_34n, ↓fX6_openAt_35, ↓fX6_openAt_36, ↓fX6_openAt_39, ↓fX6_openAt_40, ↓fX6_openAt_41, ↓fX6_openAt_42, ↓fX6_openAt_45, ↓fX6_openAt_46, ↓fX6_openAt_49, ↓fX6_openAt_50, ↓fX6_openAt_51, ↓fX6_openAt_54, ↓fX6_openAt_55, ↓fX6_openAt_56, ↓fX6_openAt_57, ↓fX6_openAt_58, ↓fX6_openAt_59, ↓fX6_openAt_62, ↓fX6_openAt_66, ↓fX6_openAt_69, ↓fX6_openAt_70, ↓fX6_openAt_70n, ↓fX6_openAt_71, ↓fX6_openAt_72, ↓fX6_openAt_73, ↓fX6_openAt_74, ↓fX6_openAt_77, ↓fX6_openAt_78, ↓fX6_openAt_79, ↓fX6_openAt_82, h6, h6', and_self, true_and, and_true, false_and, and_false, not_true_eq_false, not_false_eq_true, or_self, true_or, or_true, false_or, or_false, ite_not, Decidable.not_not, decide_eq_true_eq, Bool.not_true, Bool.not_false, Bool.false_eq_true, Bool.not_eq_true, n10, n20, n21, n30, n31, n32, n40, n41, n42, n43, ↓reduceIte]
theorem op_sP {sN : Nat} (hp : sP r H p) (hs : sN ≤ n) (hn : n < 4) : sP (opR r H sN n) H (opP p sN n) ∧ (∀ t, t < 4 → ∃ u, u < 4 ∧ opP p sN n t = p u) := by
  refine ⟨⟨fun t ht => ?_, fun t u ht hu he => ?_⟩, fun t ht => ?_⟩
  · have e : opR r H sN n (H + 1) t = if t = sN then r (H + 1) n else if sN < t ∧ t ≤ n then r (H + 1) (t - 1) else r (H + 1) t := by
      show (if H + 1 = H + 1 ∧ t = sN then _ else if H + 1 = H + 1 ∧ sN < t ∧ t ≤ n then _ else _) = _
      simp only [true_and]
    rw [e, opP]
    by_cases c1 : t = sN
    · rw [if_pos c1, if_pos c1]
      exact hp.1 n hn
    · rw [if_neg c1, if_neg c1]
      by_cases c2 : sN < t ∧ t ≤ n
      · rw [if_pos c2, if_pos c2]
        exact hp.1 (t - 1) (by omega)
      · rw [if_neg c2, if_neg c2]
        exact hp.1 t ht
  · have f : ∀ t, t < 4 → opP p sN n t = p (if t = sN then n else if sN < t ∧ t ≤ n then t - 1 else t) := fun t ht => by
      unfold opP
      split
      · rfl
      · split <;> rfl
    rw [f t ht, f u hu] at he
    have := hp.2 _ _ (by split <;> (try split) <;> omega) (by split <;> (try split) <;> omega) he
    revert this
    split <;> split <;> (try split) <;> (try split) <;> omega
  · unfold opP
    split
    · exact ⟨n, by omega, rfl⟩
    · split
      · exact ⟨t - 1, by omega, rfl⟩
      · exact ⟨t, ht, rfl⟩
theorem c6_openAt {sN : Nat} (hH : shH E r H) (hp : sP r H p) (hn : G H 1 = n) (hn4 : n < 4) (hs : sN ≤ n) : RK MX6_openAt 0 [.ref H, .int (zi (sN : Int)), jk, jk] [] (0, 0) (E, zg G, zk L, r) Q = Q (E, zg (u2 G H 1 ((n : Int) + 1)), zk L, opR r H sN n) .null := by
  obtain ⟨h0, ⟨h1, h2, h3, h4, h5⟩, ⟨l1, l2, l3, l4, l5⟩, ⟨r0, r2, r4, r5, r6⟩, b1, b2, b3, b4⟩ := id hH
  have pn := hp.1 n hn4
  have k14 := (b1 _ pn.2).1
  have lp := c6_op_loop (Q := Q) (r := r) (G := G) (L := L) (b := H + 6 + 6 * p n) hH hp hn4 hs 4 n (by omega) (by omega) (by omega)
  have e0 : opR2 r (H + 1) n n = r := by
    funext x j
    exact if_neg (by omega)
  have e1 : opR2 r (H + 1) sN n H 0 = some (H + 1) := by
    unfold opR2
    rw [if_neg (by omega)]
    exact r0
  rw [e0, ← hn] at lp
  have h6 : (0 ≤ (sN : Int) ∧ (sN : Int) ≤ G H 1) = True := eq_true (by omega)
  have h7 : G H 1 < (le E (H + 1) : Int) := by omega
  have pn1 : r (H + 1) (G H 1).toNat = some (H + 6 + 6 * p n) := by
    rw [hn, Int.toNat_natCast]
    exact pn.1
  simp (disch := first | assumption | exact c2_int _ | exact c2_ref _ | exact c2_jk | exact c2_null | omega | (apply rN1; assumption) | (apply rN2; assumption) | (apply rN3; assumption) | (apply rN4; assumption) | exact bI_r _ | exact bI_01 _) only [↓fX6_openAt_0, ↓fX6_openAt_1, ↓fX6_openAt_2, ↓fX6_openAt_3, ↓fX6_openAt_6, ↓fX6_openAt_9, ↓fX6_openAt_12, ↓fX6_openAt_13, ↓fX6_openAt_16, ↓fX6_openAt_17, ↓fX6_openAt_20, ↓fX6_openAt_21, ↓fX6_openAt_24, ↓fX6_openAt_25, ↓fX6_openAt_26, ↓fX6_openAt_29, ↓fX6_openAt_30, ↓fX6_openAt_33, ↓fX6_openAt_34, ↓fX6_openAt_34n, ↓fX6_openAt_35, ↓fX6_openAt_36, ↓fX6_openAt_39, ↓fX6_openAt_41, ↓fX6_openAt_42, ↓fX6_openAt_45, ↓fX6_openAt_46, ↓fX6_openAt_49, ↓fX6_openAt_50, ↓fX6_openAt_51, ↓fX6_openAt_54, ↓fX6_openAt_55, ↓fX6_openAt_56, ↓fX6_openAt_57, ↓fX6_openAt_58, ↓fX6_openAt_59, ↓fX6_openAt_62, ↓fX6_openAt_65, ↓fX6_openAt_66, ↓fX6_openAt_69, ↓fX6_openAt_70, ↓fX6_openAt_70n, ↓fX6_openAt_71, ↓fX6_openAt_72, ↓fX6_openAt_73, ↓fX6_openAt_74, ↓fX6_openAt_77, ↓fX6_openAt_78, ↓fX6_openAt_79, ↓fX6_openAt_82, ↓c9_within, ↓lp, bI_0, h6, h7, Int.toNat_natCast, and_self, true_and, and_true, false_and, and_false, not_true_eq_false, not_false_eq_true, or_self, true_or, or_true, false_or, or_false, ite_not, Decidable.not_not, decide_eq_true_eq, Bool.not_true, Bool.not_false, Bool.false_eq_true, Bool.not_eq_true, n10, n20, n21, n30, n31, n32, n40, n41, n42, n43, ↓reduceIte]
  rw [hn, opR, pn.1]
end BS
