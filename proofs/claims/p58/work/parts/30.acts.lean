/-! The shelf's state as sieves (σ), the acts kept (kk, nn, τ). -/
def qrot (q : Nat → Nat) (t : Nat) : Nat := if t < 7 then q (t + 1) else q 0
theorem RS_c {G G' : Nat → Nat → Int} {S : Nat} {σ : Nat → Int} (h : eqS G G' S) (hr : RS G S σ) : RS G' S σ := by
  obtain ⟨h1, h2, h3⟩ := hr
  refine ⟨rgS_c h h1, WR_c h h2, ?_⟩
  rw [h S (by omega) (by omega), h (S + 1) (by omega) (by omega), h (S + 2) (by omega) (by omega), h (S + 3) (by omega) (by omega), h (S + 4) (by omega) (by omega)]
  exact h3
def frH (G G' : Nat → Nat → Int) (H : Nat) : Prop := (∀ x, x < H ∨ (H + 30 ≤ x ∧ x ≤ H + 35) ∨ H + 83 < x → G' x = G x) ∧ G' H 3 = G H 3
def frR (r r' : Nat → Nat → Option Nat) (H : Nat) : Prop := ∀ x, x ≠ H + 1 → x ≠ H + 5 → r' x = r x
theorem frH.rf (G : Nat → Nat → Int) (H : Nat) : frH G G H := ⟨fun _ _ => rfl, rfl⟩
theorem frR.rf (r : Nat → Nat → Option Nat) (H : Nat) : frR r r H := fun _ _ _ => rfl
theorem frH.trans {G G1 G2 : Nat → Nat → Int} {H : Nat} (h1 : frH G G1 H) (h2 : frH G1 G2 H) : frH G G2 H := ⟨fun x hx => (h2.1 x hx).trans (h1.1 x hx), h2.2.trans h1.2⟩
theorem frR.trans {r r1 r2 : Nat → Nat → Option Nat} {H : Nat} (h1 : frR r r1 H) (h2 : frR r1 r2 H) : frR r r2 H := fun x a b => (h2 x a b).trans (h1 x a b)
def SHF (E : AE) (r : Nat → Nat → Option Nat) (G : Nat → Nat → Int) (H : Nat) (p q : Nat → Nat) (n : Nat) (σ : Nat → Nat → Int) (a : Nat) (kk nn : Nat → Int) (τ : Nat → Nat → Int) : Prop :=
  shH E r H ∧ sP r H p ∧ sA r H q ∧ (G H 1 = n ∧ n ≤ 4) ∧ (∀ t, t < 4 → rgS G (H + 6 + 6 * p t)) ∧ (∀ t, t < n → RS G (H + 6 + 6 * p t) (σ t) ∧ WF (σ t)) ∧ (G H 7 = a ∧ a ≤ 8) ∧ (∀ t, t < 8 → rgS G (H + 36 + 6 * q t)) ∧ (∀ t, t < a → G (H + 3) t = kk t ∧ G (H + 4) t = nn t ∧ (kk t ≠ 1 → RS G (H + 36 + 6 * q t) (τ t) ∧ WF (τ t)))
theorem shH_c {E : AE} {r r' : Nat → Nat → Option Nat} {H : Nat} (h : frR r r' H) (hs : shH E r H) : shH E r' H := by
  obtain ⟨h0, h1, l1, ⟨r0, r2, r4, r5, r6⟩, b1, b2, b3, b4⟩ := hs
  have e : ∀ S, H + 6 ≤ S → shS E r S → shS E r' S := fun S hS q => by
    unfold shS at q ⊢
    rw [h S (by omega) (by omega)]
    exact q
  refine ⟨h0, h1, l1, ?_, fun t ht => e _ (by omega) (b1 t ht), fun t ht => ?_, fun t ht => e _ (by omega) (b3 t ht), fun t ht => ?_⟩
  · rw [h H (by omega) (by omega)]
    exact ⟨r0, r2, r4, r5, r6⟩
  · have := b2 t ht
    unfold shL at this ⊢
    rw [h _ (by omega) (by omega)]
    exact this
  · rw [h _ (by omega) (by omega)]
    exact b4 t ht
def kpA (a : Nat) : Nat := if a = 8 then 8 else a + 1
def kpN {α : Type} (a : Nat) (f : Nat → α) (v : α) : Nat → α := if a = 8 then fun t => if t = 7 then v else f (t + 1) else fun t => if t = a then v else f t
section BS
variable {E : AE} {G L : Nat → Nat → Int} {r : Nat → Nat → Option Nat} {h : AH} {Q : AH → Value → Prop} {S H n a : Nat} {p q : Nat → Nat} {σ τ : Nat → Nat → Int} {kk nn : Nat → Int} {i v x b u s kd' : Int}
theorem fg_SHF (hF : SHF E r G H p q n σ 8 kk nn τ) : SHF E (fgR r H) (fgG G H) H p (qrot q) n σ 7 (fun t => kk (t + 1)) (fun t => nn (t + 1)) (fun t => τ (t + 1)) ∧ frH G (fgG G H) H ∧ frR r (fgR r H) H := by
  obtain ⟨hH, hp, hq, ⟨n1, n2⟩, hS, hR, ⟨a1, a2⟩, hT, hA⟩ := hF
  have g1 : ∀ x, x ≠ H → x ≠ H + 3 → x ≠ H + 4 → fgG G H x = G x := fun x x1 x2 x3 => by
    funext j
    show (if x = H ∧ j = 7 then _ else if (x = H + 3 ∨ x = H + 4) ∧ j < 7 then _ else _) = _
    rw [if_neg (by omega), if_neg (by omega)]
  have g2 : ∀ j, j ≠ 7 → fgG G H H j = G H j := fun j hj => by
    show (if H = H ∧ j = 7 then _ else if (H = H + 3 ∨ H = H + 4) ∧ j < 7 then _ else _) = _
    rw [if_neg (by omega), if_neg (by omega)]
  have g3 : fgG G H H 7 = G H 7 - 1 := u2_s _ _ _ _
  have g4 : ∀ j, j < 7 → fgG G H (H + 3) j = G (H + 3) (j + 1) ∧ fgG G H (H + 4) j = G (H + 4) (j + 1) := fun j hj => by
    refine ⟨?_, ?_⟩
    · show (if H + 3 = H ∧ j = 7 then _ else if (H + 3 = H + 3 ∨ H + 3 = H + 4) ∧ j < 7 then _ else _) = _
      rw [if_neg (by omega), if_pos (by omega)]
    · show (if H + 4 = H ∧ j = 7 then _ else if (H + 4 = H + 3 ∨ H + 4 = H + 4) ∧ j < 7 then _ else _) = _
      rw [if_neg (by omega), if_pos (by omega)]
  have k1 : ∀ x, x ≠ H + 5 → fgR r H x = r x := fun x hx => by
    funext j
    show (if x = H + 5 ∧ j = 7 then _ else if x = H + 5 ∧ j < 7 then _ else _) = _
    rw [if_neg (by omega), if_neg (by omega)]
  have k2 : ∀ j, j < 8 → fgR r H (H + 5) j = if j < 7 then r (H + 5) (j + 1) else r (H + 5) 0 := fun j hj => by
    show (if H + 5 = H + 5 ∧ j = 7 then _ else if H + 5 = H + 5 ∧ j < 7 then _ else _) = _
    by_cases q : j < 7
    · rw [if_neg (by omega), if_pos (by omega), if_pos q]
    · rw [if_pos (by omega), if_neg q]
  have fR : frR r (fgR r H) H := fun x _ h2 => k1 x h2
  refine ⟨⟨shH_c fR hH, ⟨fun t ht => ?_, hp.2⟩, ⟨fun t ht => ?_, fun t u ht hu he => ?_⟩, ⟨?_, n2⟩, fun t ht => ?_, fun t ht => ?_, ⟨?_, by omega⟩, fun t ht => ?_, fun t ht => ?_⟩, ⟨fun x hx => g1 x (by omega) (by omega) (by omega), g2 3 (by decide)⟩, fR⟩
  · rw [k1 _ (by omega)]
    exact hp.1 t ht
  · rw [k2 t ht]
    by_cases z : t < 7
    · rw [if_pos z, qrot, if_pos z]
      exact hq.1 (t + 1) (by omega)
    · rw [if_neg z, qrot, if_neg z]
      exact hq.1 0 (by omega)
  · have he' := he
    unfold qrot at he'
    have := hq.2 (if t < 7 then t + 1 else 0) (if u < 7 then u + 1 else 0) (by split <;> omega) (by split <;> omega) (by split <;> split <;> simp_all)
    revert this
    split <;> split <;> omega
  · rw [g2 1 (by decide), n1]
  · exact rgS_c (fun x x1 x2 => g1 x (by omega) (by omega) (by omega)) (hS t ht)
  · exact ⟨RS_c (fun x x1 x2 => g1 x (by omega) (by omega) (by omega)) (hR t ht).1, (hR t ht).2⟩
  · rw [g3, a1]
    rfl
  · have : ∀ u, u < 8 → rgS (fgG G H) (H + 36 + 6 * q u) := fun u hu => rgS_c (fun x x1 x2 => g1 x (by omega) (by omega) (by omega)) (hT u hu)
    by_cases z : t < 7
    · rw [qrot, if_pos z]
      exact this (t + 1) (by omega)
    · rw [qrot, if_neg z]
      exact this 0 (by omega)
  · obtain ⟨c1, c2, c3⟩ := hA (t + 1) (by omega)
    rw [(g4 t ht).1, (g4 t ht).2, qrot, if_pos ht]
    exact ⟨c1, c2, fun z => ⟨RS_c (fun x x1 x2 => g1 x (by omega) (by omega) (by omega)) (c3 z).1, (c3 z).2⟩⟩
theorem SHF_keep {G' : Nat → Nat → Int} {τa : Nat → Int} (hF : SHF E r G H p q n σ a kk nn τ) (ha : a < 8)
    (h0 : ∀ x, x ≠ H → x ≠ H + 3 → x ≠ H + 4 → ¬ (H + 36 + 6 * q a ≤ x ∧ x ≤ H + 36 + 6 * q a + 5) → G' x = G x) (h1 : G' H 1 = G H 1) (h7 : G' H 7 = (a : Int) + 1)
    (h3 : ∀ t, t ≤ a → G' (H + 3) t = if t = a then kd' else G (H + 3) t) (h4 : ∀ t, t ≤ a → G' (H + 4) t = if t = a then s else G (H + 4) t) (hw : rgS G' (H + 36 + 6 * q a)) (hτ : kd' ≠ 1 → RS G' (H + 36 + 6 * q a) τa ∧ WF τa) :
    SHF E r G' H p q n σ (a + 1) (fun t => if t = a then kd' else kk t) (fun t => if t = a then s else nn t) (fun t => if t = a then τa else τ t) := by
  obtain ⟨hH, hp, hq, ⟨n1, n2⟩, hS, hR, ⟨a1, a2⟩, hT, hA⟩ := hF
  have hqa := (hq.1 a ha).2
  have hne : ∀ t, t < 8 → t ≠ a → q t ≠ q a := fun t ht h z => h (hq.2 t a ht ha z)
  have g6 : ∀ t, t < 4 → eqS G G' (H + 6 + 6 * p t) := fun t ht x x1 x2 => by
    have := (hp.1 t ht).2
    exact h0 x (by omega) (by omega) (by omega) (by omega)
  have g36 : ∀ t, t < 8 → t ≠ a → eqS G G' (H + 36 + 6 * q t) := fun t ht hta x x1 x2 => by
    have := hne t ht hta
    exact h0 x (by omega) (by omega) (by omega) (by omega)
  refine ⟨hH, hp, hq, ⟨h1.trans n1, n2⟩, fun t ht => rgS_c (g6 t ht) (hS t ht), fun t ht => ⟨RS_c (g6 t (by omega)) (hR t ht).1, (hR t ht).2⟩, ⟨h7.trans (by omega), by omega⟩, fun t ht => ?_, fun t ht => ?_⟩
  · by_cases z : t = a
    · rw [z]
      exact hw
    · exact rgS_c (g36 t ht z) (hT t ht)
  · rw [h3 t (by omega), h4 t (by omega)]
    by_cases z : t = a
    · simp only [z, if_true]
      exact ⟨trivial, trivial, hτ⟩
    · simp only [z, if_false]
      obtain ⟨c1, c2, c3⟩ := hA t (by omega)
      exact ⟨c1, c2, fun y => ⟨RS_c (g36 t (by omega) z) (c3 y).1, (c3 y).2⟩⟩
theorem c6_keep_tail (hF : SHF E r G H p q n σ a kk nn τ) (ha : a < 8) (hs : (0 ≤ s ∧ s < n) ∨ (kd' = 1 ∧ s = n)) :
    ∃ G' : Nat → Nat → Int, SHF E r G' H p q n σ (a + 1) (fun t => if t = a then kd' else kk t) (fun t => if t = a then s else nn t) (fun t => if t = a then σ s.toNat else τ t) ∧ frH G G' H ∧ G' H 1 = G H 1 ∧ ∀ Q, RK MX6_keepAct 13 [.ref H, .int (zi kd'), .int (zi s), jk, jk] [] (0, 0) (E, zg G, zk L, r) Q = Q (E, zg G', zk L, r) .null := by
  obtain ⟨hH, hp, hq, ⟨n1, n2⟩, hS, hR, ⟨a1, a2⟩, hT, hA⟩ := id hF
  obtain ⟨h0, ⟨h1, h2, h3, h4, h5⟩, ⟨l1, l2, l3, l4, l5⟩, ⟨r0, r2, r4, r5, r6⟩, b1, b2, b3, b4⟩ := id hH
  obtain ⟨qa, qa8⟩ := hq.1 a ha
  let G2 : Nat → Nat → Int := u2 (u2 G (H + 3) a kd') (H + 4) a s
  have hG2 : ∀ x, x ≠ H + 3 → x ≠ H + 4 → G2 x = G x := fun x x1 x2 => (u2_a _ _ _ _ x2).trans (u2_a _ _ _ _ x1)
  have hG3 : ∀ t, G2 (H + 3) t = if t = a then kd' else G (H + 3) t := fun t => by
    show (if H + 3 = H + 4 ∧ t = a then _ else if H + 3 = H + 3 ∧ t = a then _ else _) = _
    rw [if_neg (by omega)]
    simp only [true_and]
  have hG4 : ∀ t, G2 (H + 4) t = if t = a then s else G (H + 4) t := fun t => by
    show (if H + 4 = H + 4 ∧ t = a then _ else if H + 4 = H + 3 ∧ t = a then _ else _) = _
    rw [if_neg (show ¬ (H + 4 = H + 3 ∧ t = a) by omega)]
    simp only [true_and]
  have e7 : ∀ v, u2 G (H + 3) a v H 7 = (a : Int) := fun v => by rw [u2_a _ _ _ _ (by omega), a1]
  have e3 : ∀ Q, RK MX9_put 0 [.ref (H + 3), .int (zi (G H 7)), .int (zi kd')] [] (0, 0) (E, zg G, zk L, r) Q = Q (E, zg (u2 G (H + 3) a kd'), zk L, r) .null := fun Q => by
    rw [c9_put h3 (by omega) (by omega), if_pos (by omega), a1, Int.toNat_natCast]
  have e4 : ∀ Q, RK MX9_put 0 [.ref (H + 4), .int (zi (u2 G (H + 3) a kd' H 7)), .int (zi s)] [] (0, 0) (E, zg (u2 G (H + 3) a kd'), zk L, r) Q = Q (E, zg G2, zk L, r) .null := fun Q => by
    rw [e7, c9_put h4 (by omega) (by omega), if_pos (by omega), Int.toNat_natCast]
  have e1 : G2 H 1 = n := by rw [hG2 _ (by omega) (by omega), n1]
  have e7' : G2 H 7 = a := by rw [hG2 _ (by omega) (by omega), a1]
  have h6 : (0 ≤ G H 7 ∧ G H 7 ≤ (le E (H + 5) : Int) - 1) = True := eq_true (by omega)
  have qa' : r (H + 5) (a : Int).toNat = some (H + 36 + 6 * q a) := qa
  have hsa := fun Q => c6_sieveAt (L := L) (Q := Q) (G := G2) (s := s) hH hp (by omega) (by omega)
  have k0 := (b3 (q a) qa8).1
  by_cases c : 0 ≤ s ∧ s < n
  · have p4 := (hp.1 s.toNat (by omega))
    have q1 : 0 ≤ s ∧ s ≤ G2 H 1 - 1 := by omega
    obtain ⟨G3, f3, R3, t3⟩ := c7_takeOverS (L := L) (b3 (q a) qa8) (b1 (p s.toNat) p4.2) (rgS_c (fun x x1 x2 => hG2 x (by omega) (by omega)) (hT a ha)) (RS_c (fun x x1 x2 => hG2 x (by omega) (by omega)) (hR s.toNat (by omega)).1) (hR s.toNat (by omega)).2 (by omega)
    have f3' : ∀ x, ¬ (H + 36 + 6 * q a ≤ x ∧ x ≤ H + 36 + 6 * q a + 5) → G3 x = G2 x := fun x hx => f3 x (by omega)
    have e9 : G3 H 7 = a := by rw [f3' _ (by omega), e7']
    have cS : eqS G3 (u2 G3 H 7 ((a : Int) + 1)) (H + 36 + 6 * q a) := fun x x1 x2 => u2_a _ _ _ _ (by omega)
    refine ⟨u2 G3 H 7 ((a : Int) + 1), ?_, ⟨fun x hx => ?_, ?_⟩, ?_, fun Q => ?_⟩
    · refine SHF_keep hF ha (fun x x1 x2 x3 x4 => ?_) ?_ (u2_s _ _ _ _) (fun t ht => ?_) (fun t ht => ?_) (rgS_c cS R3.1) (fun _ => ⟨RS_c cS R3, (hR s.toNat (by omega)).2⟩)
      · rw [u2_a _ _ _ _ x1, f3' x x4, hG2 x x2 x3]
      · rw [u2_i _ _ _ _ (by decide), f3' _ (by omega), hG2 _ (by omega) (by omega)]
      · rw [u2_a _ _ _ _ (by omega), f3' _ (by omega), hG3]
      · rw [u2_a _ _ _ _ (by omega), f3' _ (by omega), hG4]
    · rw [u2_a _ _ _ _ (by omega), f3' _ (by omega), hG2 _ (by omega) (by omega)]
    · rw [u2_i _ _ _ _ (by decide), f3' _ (by omega), hG2 _ (by omega) (by omega)]
    · rw [u2_i _ _ _ _ (by decide), f3' _ (by omega), hG2 _ (by omega) (by omega)]
    · simp (disch := first | assumption | exact c2_int _ | exact c2_ref _ | exact c2_jk | exact c2_null | omega | (apply rN1; assumption) | (apply rN2; assumption) | (apply rN3; assumption) | (apply rN4; assumption) | exact bI_r _ | exact bI_01 _) only [↓fX6_keepAct_0, ↓fX6_keepAct_1, ↓fX6_keepAct_4, ↓fX6_keepAct_6, ↓fX6_keepAct_9, ↓fX6_keepAct_10, ↓fX6_keepAct_13, ↓fX6_keepAct_14, ↓fX6_keepAct_17, ↓fX6_keepAct_18, ↓fX6_keepAct_19, ↓fX6_keepAct_22, ↓fX6_keepAct_23, ↓fX6_keepAct_24, ↓fX6_keepAct_25, ↓fX6_keepAct_28, ↓fX6_keepAct_31, ↓fX6_keepAct_32, ↓fX6_keepAct_33, ↓fX6_keepAct_36, ↓fX6_keepAct_37, ↓fX6_keepAct_40, ↓fX6_keepAct_41, ↓fX6_keepAct_44, ↓fX6_keepAct_45, ↓fX6_keepAct_48, ↓fX6_keepAct_49, ↓fX6_keepAct_52, ↓fX6_keepAct_53, ↓fX6_keepAct_56, ↓fX6_keepAct_57, ↓fX6_keepAct_58, ↓fX6_keepAct_61, ↓fX6_keepAct_61n, ↓fX6_keepAct_62, ↓fX6_keepAct_63, ↓fX6_keepAct_66, ↓fX6_keepAct_67, ↓fX6_keepAct_70, ↓fX6_keepAct_71, ↓fX6_keepAct_71n, ↓fX6_keepAct_73, ↓fX6_keepAct_73n, ↓fX6_keepAct_74, ↓fX6_keepAct_74r, ↓fX6_keepAct_77, ↓fX6_keepAct_77n, ↓fX6_keepAct_79, ↓fX6_keepAct_79r, ↓fX6_keepAct_82, ↓fX6_keepAct_82n, ↓fX6_keepAct_84, ↓fX6_keepAct_84n, ↓fX6_keepAct_85, ↓fX6_keepAct_88, ↓fX6_keepAct_89, ↓fX6_keepAct_90, ↓fX6_keepAct_93, ↓fX6_keepAct_94, ↓fX6_keepAct_95, ↓fX6_keepAct_98, ↓c9_within, ↓e3, ↓e4, bI_0, h6, ↓hsa, q1, ↓t3, e7', e9, Int.toNat_natCast, and_self, true_and, and_true, false_and, and_false, not_true_eq_false, not_false_eq_true, or_self, true_or, or_true, false_or, or_false, ite_not, Decidable.not_not, decide_eq_true_eq, Bool.not_true, Bool.not_false, Bool.false_eq_true, Bool.not_eq_true, n10, n20, n21, n30, n31, n32, n40, n41, n42, n43, ↓reduceIte]
  · have q1 : ¬ (0 ≤ s ∧ s ≤ G2 H 1 - 1) := by omega
    have hk : kd' = 1 := by omega
    refine ⟨u2 G2 H 7 ((a : Int) + 1), ?_, ⟨fun x hx => ?_, ?_⟩, ?_, fun Q => ?_⟩
    · refine SHF_keep hF ha (fun x x1 x2 x3 x4 => ?_) ?_ (u2_s _ _ _ _) (fun t ht => ?_) (fun t ht => ?_) (rgS_c (fun x x1 x2 => ?_) (hT a ha)) (fun z => absurd hk z)
      · rw [u2_a _ _ _ _ x1, hG2 x x2 x3]
      · rw [u2_i _ _ _ _ (by decide), hG2 _ (by omega) (by omega)]
      · rw [u2_a _ _ _ _ (by omega), hG3]
      · rw [u2_a _ _ _ _ (by omega), hG4]
      · rw [u2_a _ _ _ _ (by omega), hG2 _ (by omega) (by omega)]
    · rw [u2_a _ _ _ _ (by omega), hG2 _ (by omega) (by omega)]
    · rw [u2_i _ _ _ _ (by decide), hG2 _ (by omega) (by omega)]
    · rw [u2_i _ _ _ _ (by decide), hG2 _ (by omega) (by omega)]
    · simp (disch := first | assumption | exact c2_int _ | exact c2_ref _ | exact c2_jk | exact c2_null | omega | (apply rN1; assumption) | (apply rN2; assumption) | (apply rN3; assumption) | (apply rN4; assumption) | exact bI_r _ | exact bI_01 _) only [↓fX6_keepAct_0, ↓fX6_keepAct_1, ↓fX6_keepAct_4, ↓fX6_keepAct_6, ↓fX6_keepAct_9, ↓fX6_keepAct_10, ↓fX6_keepAct_13, ↓fX6_keepAct_14, ↓fX6_keepAct_17, ↓fX6_keepAct_18, ↓fX6_keepAct_19, ↓fX6_keepAct_22, ↓fX6_keepAct_23, ↓fX6_keepAct_24, ↓fX6_keepAct_25, ↓fX6_keepAct_28, ↓fX6_keepAct_31, ↓fX6_keepAct_32, ↓fX6_keepAct_33, ↓fX6_keepAct_36, ↓fX6_keepAct_37, ↓fX6_keepAct_40, ↓fX6_keepAct_41, ↓fX6_keepAct_44, ↓fX6_keepAct_45, ↓fX6_keepAct_48, ↓fX6_keepAct_49, ↓fX6_keepAct_52, ↓fX6_keepAct_53, ↓fX6_keepAct_56, ↓fX6_keepAct_57, ↓fX6_keepAct_58, ↓fX6_keepAct_61, ↓fX6_keepAct_61n, ↓fX6_keepAct_62, ↓fX6_keepAct_63, ↓fX6_keepAct_66, ↓fX6_keepAct_67, ↓fX6_keepAct_70, ↓fX6_keepAct_71, ↓fX6_keepAct_71n, ↓fX6_keepAct_73, ↓fX6_keepAct_73n, ↓fX6_keepAct_74, ↓fX6_keepAct_74r, ↓fX6_keepAct_77, ↓fX6_keepAct_77n, ↓fX6_keepAct_79, ↓fX6_keepAct_79r, ↓fX6_keepAct_82, ↓fX6_keepAct_82n, ↓fX6_keepAct_84, ↓fX6_keepAct_84n, ↓fX6_keepAct_85, ↓fX6_keepAct_88, ↓fX6_keepAct_89, ↓fX6_keepAct_90, ↓fX6_keepAct_93, ↓fX6_keepAct_94, ↓fX6_keepAct_95, ↓fX6_keepAct_98, ↓c9_within, ↓e3, ↓e4, bI_0, h6, ↓hsa, q1, e7', Int.toNat_natCast, and_self, true_and, and_true, false_and, and_false, not_true_eq_false, not_false_eq_true, or_self, true_or, or_true, false_or, or_false, ite_not, Decidable.not_not, decide_eq_true_eq, Bool.not_true, Bool.not_false, Bool.false_eq_true, Bool.not_eq_true, n10, n20, n21, n30, n31, n32, n40, n41, n42, n43, ↓reduceIte]
theorem c6_keepAct (hF : SHF E r G H p q n σ a kk nn τ) (hs : (0 ≤ s ∧ s < n) ∨ (kd' = 1 ∧ s = n)) :
    ∃ (G' : Nat → Nat → Int) (r' : Nat → Nat → Option Nat) (q' : Nat → Nat), SHF E r' G' H p q' n σ (kpA a) (kpN a kk kd') (kpN a nn s) (kpN a τ (σ s.toNat)) ∧ frH G G' H ∧ frR r r' H ∧ G' H 1 = n ∧ ∀ Q, RK MX6_keepAct 0 [.ref H, .int (zi kd'), .int (zi s), jk, jk] [] (0, 0) (E, zg G, zk L, r) Q = Q (E, zg G', zk L, r') .null := by
  have n1 := hF.2.2.2.1.1
  have a1 := hF.2.2.2.2.2.2.1
  have h0 := hF.1.1
  unfold kpA kpN
  by_cases ha : a = 8
  · subst ha
    obtain ⟨f1, f2, f3⟩ := fg_SHF hF
    obtain ⟨G', t1, t2, t3, t4⟩ := c6_keep_tail (L := L) (kd' := kd') (s := s) f1 (by omega) hs
    have e := fun Q => c6_forgetOldest (G := G) (L := L) (Q := Q) hF.1 hF.2.2.1
    refine ⟨G', fgR r H, qrot q, ?_, f2.trans t2, f3, ?_, fun Q => ?_⟩
    · simp only [if_true]
      exact t1
    · rw [t3]
      exact f1.2.2.2.1.1
    · have h8 : G H 7 = 8 := a1.1
      simp (disch := first | assumption | exact c2_int _ | exact c2_ref _ | exact c2_jk | exact c2_null | omega | (apply rN1; assumption) | (apply rN2; assumption) | (apply rN3; assumption) | (apply rN4; assumption) | exact bI_r _ | exact bI_01 _) only [↓fX6_keepAct_0, ↓fX6_keepAct_1, ↓fX6_keepAct_4, ↓fX6_keepAct_6, ↓fX6_keepAct_9, ↓fX6_keepAct_10, ↓fX6_keepAct_14, ↓fX6_keepAct_17, ↓fX6_keepAct_18, ↓fX6_keepAct_19, ↓fX6_keepAct_22, ↓fX6_keepAct_23, ↓fX6_keepAct_24, ↓fX6_keepAct_25, ↓fX6_keepAct_28, ↓fX6_keepAct_31, ↓fX6_keepAct_32, ↓fX6_keepAct_33, ↓fX6_keepAct_36, ↓fX6_keepAct_37, ↓fX6_keepAct_40, ↓fX6_keepAct_41, ↓fX6_keepAct_44, ↓fX6_keepAct_45, ↓fX6_keepAct_48, ↓fX6_keepAct_49, ↓fX6_keepAct_52, ↓fX6_keepAct_53, ↓fX6_keepAct_56, ↓fX6_keepAct_57, ↓fX6_keepAct_58, ↓fX6_keepAct_61, ↓fX6_keepAct_61n, ↓fX6_keepAct_62, ↓fX6_keepAct_63, ↓fX6_keepAct_66, ↓fX6_keepAct_67, ↓fX6_keepAct_70, ↓fX6_keepAct_71, ↓fX6_keepAct_71n, ↓fX6_keepAct_73, ↓fX6_keepAct_73n, ↓fX6_keepAct_74, ↓fX6_keepAct_74r, ↓fX6_keepAct_77, ↓fX6_keepAct_77n, ↓fX6_keepAct_79, ↓fX6_keepAct_79r, ↓fX6_keepAct_82, ↓fX6_keepAct_82n, ↓fX6_keepAct_84, ↓fX6_keepAct_84n, ↓fX6_keepAct_85, ↓fX6_keepAct_88, ↓fX6_keepAct_89, ↓fX6_keepAct_90, ↓fX6_keepAct_93, ↓fX6_keepAct_94, ↓fX6_keepAct_95, ↓fX6_keepAct_98, ↓e, h8, and_self, true_and, and_true, false_and, and_false, not_true_eq_false, not_false_eq_true, or_self, true_or, or_true, false_or, or_false, ite_not, Decidable.not_not, decide_eq_true_eq, Bool.not_true, Bool.not_false, Bool.false_eq_true, Bool.not_eq_true, n10, n20, n21, n30, n31, n32, n40, n41, n42, n43, ↓reduceIte]
      exact t4 Q
  · obtain ⟨G', t1, t2, t3, t4⟩ := c6_keep_tail (L := L) (kd' := kd') (s := s) hF (by omega) hs
    refine ⟨G', r, q, ?_, t2, frR.rf r H, t3.trans n1, fun Q => ?_⟩
    · simp only [ha, if_false]
      exact t1
    · have h8 : ¬ G H 7 = 8 := by omega
      simp (disch := first | assumption | exact c2_int _ | exact c2_ref _ | exact c2_jk | exact c2_null | omega | (apply rN1; assumption) | (apply rN2; assumption) | (apply rN3; assumption) | (apply rN4; assumption) | exact bI_r _ | exact bI_01 _) only [↓fX6_keepAct_0, ↓fX6_keepAct_1, ↓fX6_keepAct_4, ↓fX6_keepAct_6, ↓fX6_keepAct_9, ↓fX6_keepAct_10, ↓fX6_keepAct_14, ↓fX6_keepAct_17, ↓fX6_keepAct_18, ↓fX6_keepAct_19, ↓fX6_keepAct_22, ↓fX6_keepAct_23, ↓fX6_keepAct_24, ↓fX6_keepAct_25, ↓fX6_keepAct_28, ↓fX6_keepAct_31, ↓fX6_keepAct_32, ↓fX6_keepAct_33, ↓fX6_keepAct_36, ↓fX6_keepAct_37, ↓fX6_keepAct_40, ↓fX6_keepAct_41, ↓fX6_keepAct_44, ↓fX6_keepAct_45, ↓fX6_keepAct_48, ↓fX6_keepAct_49, ↓fX6_keepAct_52, ↓fX6_keepAct_53, ↓fX6_keepAct_56, ↓fX6_keepAct_57, ↓fX6_keepAct_58, ↓fX6_keepAct_61, ↓fX6_keepAct_61n, ↓fX6_keepAct_62, ↓fX6_keepAct_63, ↓fX6_keepAct_66, ↓fX6_keepAct_67, ↓fX6_keepAct_70, ↓fX6_keepAct_71, ↓fX6_keepAct_71n, ↓fX6_keepAct_73, ↓fX6_keepAct_73n, ↓fX6_keepAct_74, ↓fX6_keepAct_74r, ↓fX6_keepAct_77, ↓fX6_keepAct_77n, ↓fX6_keepAct_79, ↓fX6_keepAct_79r, ↓fX6_keepAct_82, ↓fX6_keepAct_82n, ↓fX6_keepAct_84, ↓fX6_keepAct_84n, ↓fX6_keepAct_85, ↓fX6_keepAct_88, ↓fX6_keepAct_89, ↓fX6_keepAct_90, ↓fX6_keepAct_93, ↓fX6_keepAct_94, ↓fX6_keepAct_95, ↓fX6_keepAct_98, h8, and_self, true_and, and_true, false_and, and_false, not_true_eq_false, not_false_eq_true, or_self, true_or, or_true, false_or, or_false, ite_not, Decidable.not_not, decide_eq_true_eq, Bool.not_true, Bool.not_false, Bool.false_eq_true, Bool.not_eq_true, n10, n20, n21, n30, n31, n32, n40, n41, n42, n43, ↓reduceIte]
      exact t4 Q
end BS
