/-! The reference's reader: words, what must be. -/
theorem wvS_0 (B : Int → Int) (s : Int) : ∀ a : Nat, (∀ j : Nat, j < a → 97 ≤ B (s + j) ∧ B (s + j) ≤ 122) → 0 ≤ wvS B s a ∧ (0 < a → 1 ≤ wvS B s a) := by
  intro a
  induction a with
  | zero => intro _; exact ⟨Int.le_refl _, fun h => absurd h (by decide)⟩
  | succ a ih =>
    intro h
    have h1 := ih fun j hj => h j (by omega)
    have h2 := h a (by omega)
    unfold wvS
    omega
theorem wv_inj (B B' : Int → Int) (s s' : Int) : ∀ a b : Nat, (∀ j : Nat, j < a → 97 ≤ B (s + j) ∧ B (s + j) ≤ 122) → (∀ j : Nat, j < b → 97 ≤ B' (s' + j) ∧ B' (s' + j) ≤ 122) → wvS B s a = wvS B' s' b → a = b ∧ ∀ j : Nat, j < a → B (s + j) = B' (s' + j) := by
  intro a
  induction a with
  | zero =>
    intro b h1 h2 h
    have := wvS_0 B' s' b h2
    have e : wvS B s 0 = 0 := rfl
    refine ⟨?_, fun j hj => absurd hj (by omega)⟩
    rcases Nat.eq_zero_or_pos b with z | z
    · exact z.symm
    · have := this.2 z
      omega
  | succ a ih =>
    intro b h1 h2 h
    cases b with
    | zero =>
      have := (wvS_0 B s (a + 1) h1).2 (by omega)
      have e : wvS B' s' 0 = 0 := rfl
      omega
    | succ b =>
      have x1 := h1 a (by omega)
      have x2 := h2 b (by omega)
      unfold wvS at h
      obtain ⟨e1, e2⟩ := ih b (fun j hj => h1 j (by omega)) (fun j hj => h2 j (by omega)) (by omega)
      subst e1
      refine ⟨rfl, fun j hj => ?_⟩
      by_cases z : j = a
      · rw [z]
        omega
      · exact e2 j (by omega)
theorem wvS_cg (B B' : Int → Int) (s s' : Int) : ∀ a : Nat, (∀ j : Nat, j < a → B (s + j) = B' (s' + j)) → wvS B s a = wvS B' s' a := by
  intro a
  induction a with
  | zero => intro _; rfl
  | succ a ih =>
    intro h
    unfold wvS
    rw [ih fun j hj => h j (by omega), h a (by omega)]
def wvF (w : List Int) : Int := wvS (fun j => w.getD j.toNat 0) 0 w.length
/-- the words that the reference keeps, in its order -/
def wix : Nat → Nat
  | 0 => 75
  | 1 => 104
  | 2 => 113
  | 3 => 115
  | 4 => 135
  | 5 => 137
  | 6 => 139
  | 7 => 141
  | 8 => 143
  | 9 => 147
  | 10 => 145
  | _ => 85
def kWd (L : Nat → Nat → Int) (m : Nat) : Prop := ∀ i, i < 12 → L (m + 13) i = wvF (wdL (wix i))
theorem wd_l (i : Nat) (hi : i < 12) : ∀ j, j < (wdL (wix i)).length → 97 ≤ (wdL (wix i)).getD j 0 ∧ (wdL (wix i)).getD j 0 ≤ 122 := by
  have hx : i = 0 ∨ i = 1 ∨ i = 2 ∨ i = 3 ∨ i = 4 ∨ i = 5 ∨ i = 6 ∨ i = 7 ∨ i = 8 ∨ i = 9 ∨ i = 10 ∨ i = 11 := by omega
  rcases hx with rfl | rfl | rfl | rfl | rfl | rfl | rfl | rfl | rfl | rfl | rfl | rfl <;> decide
abbrev TkT : Type := Int × Int × Int × Int
/-- a word that stands in the text, with its value -/
def wrdB (B : Int → Int) (s e : Int) : Prop := (∀ j, s ≤ j → j < e → ltr (B j) = true) ∧ s < e ∧ e - s ≤ 8
theorem wrdB_l {B : Int → Int} {s e : Int} (h : wrdB B s e) : ∀ j : Nat, j < (e - s).toNat → 97 ≤ B (s + j) ∧ B (s + j) ≤ 122 := fun j hj => by
  have := h.1 (s + j) (by omega) (by omega)
  unfold ltr at this
  exact of_decide_eq_true this
theorem isT_wv {B : Int → Int} {T : TkT} (h2 : T.1 = 2) (hw : wrdB B T.2.1 T.2.2.1) (i : Nat) (hi : i < 12) : (wvS B T.2.1 (T.2.2.1 - T.2.1).toNat = wvF (wdL (wix i))) ↔ isT B T (wdL (wix i)) = true := by
  have hl := wrdB_l hw
  have hs := hw.2.1
  have hwl : ∀ j : Nat, j < (wdL (wix i)).length → 97 ≤ (fun j : Int => (wdL (wix i)).getD j.toNat 0) (0 + (j : Int)) ∧ (fun j : Int => (wdL (wix i)).getD j.toNat 0) (0 + (j : Int)) ≤ 122 := fun j hj => by
    have := wd_l i hi j hj
    simpa using this
  unfold isT
  rw [decide_eq_true_eq]
  constructor
  · intro h
    obtain ⟨a, b⟩ := wv_inj B (fun j => (wdL (wix i)).getD j.toNat 0) T.2.1 0 _ _ hl hwl h
    refine ⟨h2, by omega, fun j hj => ?_⟩
    have := b j (by omega)
    simpa using this
  · rintro ⟨-, a, b⟩
    have e : (T.2.2.1 - T.2.1).toNat = (wdL (wix i)).length := by omega
    unfold wvF
    rw [e]
    refine wvS_cg _ _ _ _ _ fun j hj => ?_
    rw [b j hj]
    simp
theorem smT_wv {B : Int → Int} {T : TkT} {s e : Int} (hw : wrdB B T.2.1 T.2.2.1) (hv : wrdB B s e) : (wvS B T.2.1 (T.2.2.1 - T.2.1).toNat = wvS B s (e - s).toNat) ↔ smT B T s e = true := by
  have h1 := hw.2.1
  have h2 := hv.2.1
  unfold smT
  rw [decide_eq_true_eq]
  constructor
  · intro h
    obtain ⟨a, b⟩ := wv_inj B B T.2.1 s _ _ (wrdB_l hw) (wrdB_l hv) h
    exact ⟨by omega, b⟩
  · rintro ⟨a, b⟩
    rw [show e - s = T.2.2.1 - T.2.1 by omega]
    exact wvS_cg _ _ _ _ _ b
/-- where the reading is: a token that stands, or the first fault -/
abbrev StT : Type := Except ER TkT
def rdS (G L : Nat → Nat → Int) (m : Nat) (B : Int → Int) (n : Int) (st : StT) : Prop := tpR G m B n ∧ G m 27 = n ∧ (0 ≤ G m 26 ∧ G m 26 ≤ 9999) ∧ (0 ≤ L m 30 ∧ L m 30 < 1000000000000000) ∧ (0 ≤ G m 25 ∧ G m 25 ≤ 4) ∧ match st with
  | .ok T => G m 21 = 0 ∧ tkM G L m B T ∧ TR n T
  | .error (k, T) => (0 < k ∧ k ≤ 5) ∧ G m 21 = k ∧ G m 22 = T.2.1
def prW (G L G' L' : Nat → Nat → Int) (m : Nat) : Prop := (∀ x, x ≠ m → G' x = G x) ∧ (∀ j, ¬ (21 ≤ j ∧ j ≤ 26) → G' m j = G m j) ∧ (∀ x, x ≠ m → L' x = L x) ∧ ∀ j, j ≠ 30 → L' m j = L m j
def mustS (st : StT) (b why : Int) : StT := match st with
  | .error e => .error e
  | .ok T => if b = 1 then .ok T else .error (if why = 2 then unK T else why, T)
def gdI (st : StT) : Int := match st with
  | .error _ => 0
  | .ok _ => 1
def nxS (B : Int → Int) (n : Int) (st : StT) : StT := match st with
  | .error e => .error e
  | .ok T => .ok (nxT B n T.2.2.1)
def wdI (B : Int → Int) (st : StT) (i : Nat) : Int := match st with
  | .error _ => 0
  | .ok T => bI (isT B T (wdL (wix i)) = true)
def soI (st : StT) (t : Int) : Int := match st with
  | .error _ => 0
  | .ok T => bI (T.1 = t)
def nbS (B : Int → Int) (n : Int) (st : StT) (lo hi : Int) : StT := match st with
  | .error e => .error e
  | .ok T => match rdNum B n lo hi T with
    | .error e => .error e
    | .ok (_, T') => .ok T'
def nbV (B : Int → Int) (n : Int) (st : StT) (lo hi : Int) : Int := match st with
  | .error _ => lo
  | .ok T => match rdNum B n lo hi T with
    | .error _ => lo
    | .ok (v, _) => v
section BM
variable {E : AE} {G G1 G2 G' L L' L1 L2 : Nat → Nat → Int} {r : Nat → Nat → Option Nat} {h : AH} {Q : AH → Value → Prop} {m M : Nat} {B : Int → Int} {T : TkT} {st : StT} {s e y x w i p v lo hi t b d c n : Int}
theorem prW.rf (G L : Nat → Nat → Int) (m : Nat) : prW G L G L m := ⟨fun _ _ => rfl, fun _ _ => rfl, fun _ _ => rfl, fun _ _ => rfl⟩
theorem prW.trans (h1 : prW G L G1 L1 m) (h2 : prW G1 L1 G2 L2 m) : prW G L G2 L2 m := ⟨fun x a => (h2.1 x a).trans (h1.1 x a), fun j a => (h2.2.1 j a).trans (h1.2.1 j a), fun x a => (h2.2.2.1 x a).trans (h1.2.2.1 x a), fun j a => (h2.2.2.2 j a).trans (h1.2.2.2 j a)⟩
theorem prW_F (h : prF G L G1 L1 m) : prW G L G1 L1 m := ⟨h.1, fun j a => h.2.1 j (by omega), h.2.2.1, h.2.2.2⟩
theorem prW_u {j : Nat} (hj : 21 ≤ j ∧ j ≤ 26) : prW G L (u2 G m j v) L m := ⟨fun x a => u2_a _ _ _ _ a, fun i a => u2_i _ _ _ _ (by omega), fun _ _ => rfl, fun _ _ => rfl⟩
theorem kWd_c (h : kWd L m) (h2 : prW G L G1 L1 m) : kWd L1 m := fun i hi => by rw [h2.2.2.1 _ (by omega)]; exact h i hi
theorem srM_b (h : 0 ≤ t ∧ t ≤ 4) : (0 ≤ srM t ∧ srM t ≤ 4) ∧ (srM t = 0 ↔ t = 1) ∧ (srM t = 1 ↔ t = 2) ∧ (srM t = 2 ↔ t = 3) ∧ (srM t = 3 ↔ t = 4) ∧ (srM t = 4 ↔ t = 0) := by
  have hx : t = 0 ∨ t = 1 ∨ t = 2 ∨ t = 3 ∨ t = 4 := by omega
  rcases hx with rfl | rfl | rfl | rfl | rfl <;> decide
theorem m_good (hm : shM E r m) (hS : rdS G L m B n st) : RK MX10_good 0 [.ref m] [] (0, 0) (E, zg G, zk L, r) Q = Q (E, zg G, zk L, r) (.int (zi (gdI st))) := by
  have m0 := hm.1
  obtain ⟨-, -, -, -, -, h5⟩ := hS
  cases st with
  | error e =>
    obtain ⟨k, T⟩ := e
    obtain ⟨h6, h7, -⟩ := h5
    have h8 : ¬ k = 0 := by omega
    simp (disch := first | assumption | exact c2_int _ | exact c2_ref _ | exact c2_jk | exact c2_null | omega | exact bI_r _ | exact bI_01 _) only [↓fX10_good_0, ↓fX10_good_1, ↓fX10_good_4, ↓fX10_good_7, ↓fX10_good_8, ↓fX10_good_11, ↓fX10_good_12, h7, h8, gdI, and_self, true_and, and_true, false_and, and_false, not_true_eq_false, not_false_eq_true, or_self, true_or, or_true, false_or, or_false, ite_not, Decidable.not_not, decide_eq_true_eq, Bool.not_true, Bool.not_false, Bool.false_eq_true, Bool.not_eq_true, n10, n20, n21, n30, n31, n32, n40, n41, n42, n43, ↓reduceIte]
  | ok T =>
    obtain ⟨h6, -⟩ := h5
    simp (disch := first | assumption | exact c2_int _ | exact c2_ref _ | exact c2_jk | exact c2_null | omega | exact bI_r _ | exact bI_01 _) only [↓fX10_good_0, ↓fX10_good_1, ↓fX10_good_4, ↓fX10_good_7, ↓fX10_good_8, ↓fX10_good_11, ↓fX10_good_12, h6, gdI, and_self, true_and, and_true, false_and, and_false, not_true_eq_false, not_false_eq_true, or_self, true_or, or_true, false_or, or_false, ite_not, Decidable.not_not, decide_eq_true_eq, Bool.not_true, Bool.not_false, Bool.false_eq_true, Bool.not_eq_true, n10, n20, n21, n30, n31, n32, n40, n41, n42, n43, ↓reduceIte]
theorem m_must (hm : shM E r m) (hS : rdS G L m B n st) (hb : b = 0 ∨ b = 1) (hy : 1 ≤ y ∧ y ≤ 5) : ∃ G', prW G L G' L m ∧ rdS G' L m B n (mustS st b y) ∧ (∀ j, j ≠ 21 → j ≠ 22 → G' m j = G m j) ∧ ∀ Q, RK MX10_must 0 [.ref m, .int (zi b), .int (zi y)] [] (0, 0) (E, zg G, zk L, r) Q = Q (E, zg G', zk L, r) .null := by
  have m0 := hm.1
  obtain ⟨h1, h2, h3, h4, h4b, h5⟩ := id hS
  cases st with
  | error e =>
    obtain ⟨k, T⟩ := e
    obtain ⟨h6, h7, -⟩ := h5
    have h8 : ¬ k ≤ 0 := by omega
    refine ⟨G, prW.rf _ _ _, hS, fun _ _ _ => rfl, fun Q => ?_⟩
    rcases hb with rfl | rfl
    · simp (disch := first | assumption | exact c2_int _ | exact c2_ref _ | exact c2_jk | exact c2_null | omega | exact bI_r _ | exact bI_01 _) only [↓fX10_must_0, ↓fX10_must_1, ↓fX10_must_4, ↓fX10_must_5, ↓fX10_must_8, ↓fX10_must_11, ↓fX10_must_12, ↓fX10_must_13, ↓fX10_must_14, ↓fX10_must_15, ↓fX10_must_18, ↓fX10_must_19, ↓fX10_must_22, ↓fX10_must_23, ↓fX10_must_26, ↓fX10_must_27, ↓fX10_must_30, ↓fX10_must_31, ↓fX10_must_34, ↓fX10_must_35, ↓fX10_must_36, ↓fX10_must_39, ↓fX10_must_42, h7, h8, and_self, true_and, and_true, false_and, and_false, not_true_eq_false, not_false_eq_true, or_self, true_or, or_true, false_or, or_false, ite_not, Decidable.not_not, decide_eq_true_eq, Bool.not_true, Bool.not_false, Bool.false_eq_true, Bool.not_eq_true, n10, n20, n21, n30, n31, n32, n40, n41, n42, n43, ↓reduceIte]
    · simp (disch := first | assumption | exact c2_int _ | exact c2_ref _ | exact c2_jk | exact c2_null | omega | exact bI_r _ | exact bI_01 _) only [↓fX10_must_0, ↓fX10_must_1, ↓fX10_must_4, ↓fX10_must_5, ↓fX10_must_8, ↓fX10_must_11, ↓fX10_must_12, ↓fX10_must_13, ↓fX10_must_14, ↓fX10_must_15, ↓fX10_must_18, ↓fX10_must_19, ↓fX10_must_22, ↓fX10_must_23, ↓fX10_must_26, ↓fX10_must_27, ↓fX10_must_30, ↓fX10_must_31, ↓fX10_must_34, ↓fX10_must_35, ↓fX10_must_36, ↓fX10_must_39, ↓fX10_must_42, and_self, true_and, and_true, false_and, and_false, not_true_eq_false, not_false_eq_true, or_self, true_or, or_true, false_or, or_false, ite_not, Decidable.not_not, decide_eq_true_eq, Bool.not_true, Bool.not_false, Bool.false_eq_true, Bool.not_eq_true, n10, n20, n21, n30, n31, n32, n40, n41, n42, n43, ↓reduceIte]
  | ok T =>
    obtain ⟨h6, ht, hr⟩ := h5
    have z00 : (0 : Int) ≤ 0 := Int.le_refl 0
    rcases hb with rfl | rfl
    · have sb := srM_b hr.1
      have e23 := ht.1
      have e25 := ht.2.1
      have go : ∀ yy, 0 < yy ∧ yy ≤ 5 → rdS (u2 (u2 G m 21 yy) m 22 T.2.1) L m B n (.error (yy, T)) := fun yy hyy => by
        have q : ∀ j, j ≠ 21 → j ≠ 22 → u2 (u2 G m 21 yy) m 22 T.2.1 m j = G m j := fun j a b => (u2_i _ _ _ _ b).trans (u2_i _ _ _ _ a)
        refine ⟨tpR_c h1 ?_, ?_, ?_, h4, ?_, hyy, ?_, u2_s _ _ _ _⟩
        · rw [u2_a _ _ _ _ (by omega), u2_a _ _ _ _ (by omega)]
        · rw [q 27 (by decide) (by decide)]
          exact h2
        · rw [q 26 (by decide) (by decide)]
          exact h3
        · rw [q 25 (by decide) (by decide)]
          exact h4b
        · rw [u2_i _ _ _ _ (by decide), u2_s]
      have q23 : ∀ yy, u2 G m 21 yy m 23 = T.2.1 := fun yy => (u2_i _ _ _ _ (by decide)).trans e23
      have fr : ∀ yy, prW G L (u2 (u2 G m 21 yy) m 22 T.2.1) L m := fun yy => (prW_u (by decide)).trans (prW_u (by decide))
      have fj : ∀ yy j, j ≠ 21 → j ≠ 22 → u2 (u2 G m 21 yy) m 22 T.2.1 m j = G m j := fun yy j a b => (u2_i _ _ _ _ b).trans (u2_i _ _ _ _ a)
      by_cases c : y = 2
      · subst c
        by_cases c4 : T.1 = 0
        · have e4 : G m 25 = 4 := by rw [e25]; exact sb.2.2.2.2.2.mpr c4
          have em : mustS (.ok T) 0 2 = .error (1, T) := by
            unfold mustS unK
            dsimp only
            rw [if_neg (by decide), if_pos rfl, if_pos c4]
          rw [em]
          refine ⟨u2 (u2 G m 21 1) m 22 T.2.1, fr 1, go 1 (by decide), fj 1, fun Q => ?_⟩
          simp (disch := first | assumption | exact c2_int _ | exact c2_ref _ | exact c2_jk | exact c2_null | omega | exact bI_r _ | exact bI_01 _) only [↓fX10_must_0, ↓fX10_must_1, ↓fX10_must_4, ↓fX10_must_5, ↓fX10_must_8, ↓fX10_must_11, ↓fX10_must_12, ↓fX10_must_13, ↓fX10_must_14, ↓fX10_must_15, ↓fX10_must_18, ↓fX10_must_19, ↓fX10_must_22, ↓fX10_must_23, ↓fX10_must_26, ↓fX10_must_27, ↓fX10_must_30, ↓fX10_must_31, ↓fX10_must_34, ↓fX10_must_35, ↓fX10_must_36, ↓fX10_must_39, ↓fX10_must_42, h6, z00, e4, q23, and_self, true_and, and_true, false_and, and_false, not_true_eq_false, not_false_eq_true, or_self, true_or, or_true, false_or, or_false, ite_not, Decidable.not_not, decide_eq_true_eq, Bool.not_true, Bool.not_false, Bool.false_eq_true, Bool.not_eq_true, n10, n20, n21, n30, n31, n32, n40, n41, n42, n43, ↓reduceIte]
        · have e4 : ¬ G m 25 = 4 := by rw [e25]; exact fun z => c4 (sb.2.2.2.2.2.mp z)
          have em : mustS (.ok T) 0 2 = .error (2, T) := by
            unfold mustS unK
            dsimp only
            rw [if_neg (by decide), if_pos rfl, if_neg c4]
          rw [em]
          refine ⟨u2 (u2 G m 21 2) m 22 T.2.1, fr 2, go 2 (by decide), fj 2, fun Q => ?_⟩
          simp (disch := first | assumption | exact c2_int _ | exact c2_ref _ | exact c2_jk | exact c2_null | omega | exact bI_r _ | exact bI_01 _) only [↓fX10_must_0, ↓fX10_must_1, ↓fX10_must_4, ↓fX10_must_5, ↓fX10_must_8, ↓fX10_must_11, ↓fX10_must_12, ↓fX10_must_13, ↓fX10_must_14, ↓fX10_must_15, ↓fX10_must_18, ↓fX10_must_19, ↓fX10_must_22, ↓fX10_must_23, ↓fX10_must_26, ↓fX10_must_27, ↓fX10_must_30, ↓fX10_must_31, ↓fX10_must_34, ↓fX10_must_35, ↓fX10_must_36, ↓fX10_must_39, ↓fX10_must_42, h6, z00, e4, q23, and_self, true_and, and_true, false_and, and_false, not_true_eq_false, not_false_eq_true, or_self, true_or, or_true, false_or, or_false, ite_not, Decidable.not_not, decide_eq_true_eq, Bool.not_true, Bool.not_false, Bool.false_eq_true, Bool.not_eq_true, n10, n20, n21, n30, n31, n32, n40, n41, n42, n43, ↓reduceIte]
      · have em : mustS (.ok T) 0 y = .error (y, T) := by
          unfold mustS
          dsimp only
          rw [if_neg (by decide), if_neg c]
        rw [em]
        refine ⟨u2 (u2 G m 21 y) m 22 T.2.1, fr y, go y (by omega), fj y, fun Q => ?_⟩
        simp (disch := first | assumption | exact c2_int _ | exact c2_ref _ | exact c2_jk | exact c2_null | omega | exact bI_r _ | exact bI_01 _) only [↓fX10_must_0, ↓fX10_must_1, ↓fX10_must_4, ↓fX10_must_5, ↓fX10_must_8, ↓fX10_must_11, ↓fX10_must_12, ↓fX10_must_13, ↓fX10_must_14, ↓fX10_must_15, ↓fX10_must_18, ↓fX10_must_19, ↓fX10_must_22, ↓fX10_must_23, ↓fX10_must_26, ↓fX10_must_27, ↓fX10_must_30, ↓fX10_must_31, ↓fX10_must_34, ↓fX10_must_35, ↓fX10_must_36, ↓fX10_must_39, ↓fX10_must_42, h6, z00, c, q23, and_self, true_and, and_true, false_and, and_false, not_true_eq_false, not_false_eq_true, or_self, true_or, or_true, false_or, or_false, ite_not, Decidable.not_not, decide_eq_true_eq, Bool.not_true, Bool.not_false, Bool.false_eq_true, Bool.not_eq_true, n10, n20, n21, n30, n31, n32, n40, n41, n42, n43, ↓reduceIte]
    · refine ⟨G, prW.rf _ _ _, hS, fun _ _ _ => rfl, fun Q => ?_⟩
      simp (disch := first | assumption | exact c2_int _ | exact c2_ref _ | exact c2_jk | exact c2_null | omega | exact bI_r _ | exact bI_01 _) only [↓fX10_must_0, ↓fX10_must_1, ↓fX10_must_4, ↓fX10_must_5, ↓fX10_must_8, ↓fX10_must_11, ↓fX10_must_12, ↓fX10_must_13, ↓fX10_must_14, ↓fX10_must_15, ↓fX10_must_18, ↓fX10_must_19, ↓fX10_must_22, ↓fX10_must_23, ↓fX10_must_26, ↓fX10_must_27, ↓fX10_must_30, ↓fX10_must_31, ↓fX10_must_34, ↓fX10_must_35, ↓fX10_must_36, ↓fX10_must_39, ↓fX10_must_42, and_self, true_and, and_true, false_and, and_false, not_true_eq_false, not_false_eq_true, or_self, true_or, or_true, false_or, or_false, ite_not, Decidable.not_not, decide_eq_true_eq, Bool.not_true, Bool.not_false, Bool.false_eq_true, Bool.not_eq_true, n10, n20, n21, n30, n31, n32, n40, n41, n42, n43, ↓reduceIte]
theorem nxT_TR0 (hT : tpR G m B n) (he : 0 ≤ e ∧ e ≤ n) : TR n (nxT B n e) := by
  have hn := hT.1
  have hp := bgT_b B n e he
  have eT : nxT B n e = ((tkT B n (bgT B n e)).1, bgT B n e, (tkT B n (bgT B n e)).2.1, (tkT B n (bgT B n e)).2.2) := rfl
  rw [eT]
  generalize bgT B n e = p at hp
  have b1 := spL_b (fun i => ltr (B i)) n 600 p
  have b2 := spL_b (fun i => dgt (B i)) n 600 p
  have b3 := nmL_b B n p 600 p 0 (Int.le_refl _) (by decide) (by rw [if_pos rfl]; decide)
  unfold TR tkT
  by_cases c0 : B p = -1
  · rw [if_pos c0]
    dsimp only
    omega
  · have hpn : p < n := by
      rcases Int.lt_or_le p n with z | z
      · exact z
      · exact absurd (hT.2.2 p (by omega)) c0
    rw [if_neg c0]
    by_cases c1 : B p = 59
    · rw [if_pos c1]
      dsimp only
      omega
    · rw [if_neg c1]
      by_cases c2 : ltr (B p) = true
      · rw [if_pos c2]
        dsimp only
        split <;> omega
      · rw [if_neg c2]
        by_cases c3 : dgt (B p) = true
        · rw [if_pos c3]
          dsimp only
          split <;> omega
        · rw [if_neg c3]
          dsimp only
          omega
theorem m_next (hm : shM E r m) (hS : rdS G L m B n (.ok T)) (ht : T.1 = 2 ∨ T.1 = 3 ∨ T.1 = 4) : ∃ G' L', prF G L G' L' m ∧ rdS G' L' m B n (.ok (nxT B n T.2.2.1)) ∧ ∀ Q, RK MX10_reads 0 [.ref m] [] (0, 0) (E, zg G, zk L, r) Q = Q (E, zg G', zk L', r) .null := by
  obtain ⟨h1, h2, h3, h4, h4b, h6, h7, h8⟩ := hS
  have he := h8.2.2.1
  obtain ⟨G', L', f, tk, e⟩ := m_reads (L := L) hm h1 h2 (h7.2.2.1 ht) he h3 h4
  have hr := nxT_TR0 h1 he
  refine ⟨G', L', f, ⟨tpR_c h1 (f.1 _ (by omega)), (f.2.1 27 (by decide)).trans h2, tk.2.2.2.2.1, tk.2.2.2.2.2.1, ?_, (f.2.1 21 (by decide)).trans h6, tk, hr⟩, e⟩
  rw [tk.2.1]
  exact (srM_b hr.1).1
theorem m_goesOn (hm : shM E r m) (hS : rdS G L m B n st) (ht : ∀ T, st = .ok T → T.1 = 2 ∨ T.1 = 3 ∨ T.1 = 4) : ∃ G' L', prF G L G' L' m ∧ rdS G' L' m B n (nxS B n st) ∧ ∀ Q, RK MX10_goesOn 0 [.ref m] [] (0, 0) (E, zg G, zk L, r) Q = Q (E, zg G', zk L', r) .null := by
  have m0 := hm.1
  have eg := fun Q => m_good (Q := Q) hm hS
  cases st with
  | error e =>
    refine ⟨G, L, prF.rf _ _ _, hS, fun Q => ?_⟩
    have eg' : ∀ Q, RK MX10_good 0 [.ref m] [] (0, 0) (E, zg G, zk L, r) Q = Q (E, zg G, zk L, r) (.int (zi 0)) := eg
    simp (disch := first | assumption | exact c2_int _ | exact c2_ref _ | exact c2_jk | exact c2_null | omega | exact bI_r _ | exact bI_01 _) only [↓fX10_goesOn_0, ↓fX10_goesOn_1, ↓fX10_goesOn_4, ↓fX10_goesOn_7, ↓fX10_goesOn_8, ↓fX10_goesOn_11, ↓eg', and_self, true_and, and_true, false_and, and_false, not_true_eq_false, not_false_eq_true, or_self, true_or, or_true, false_or, or_false, ite_not, Decidable.not_not, decide_eq_true_eq, Bool.not_true, Bool.not_false, Bool.false_eq_true, Bool.not_eq_true, n10, n20, n21, n30, n31, n32, n40, n41, n42, n43, ↓reduceIte]
  | ok T =>
    obtain ⟨G', L', f, s1, e⟩ := m_next hm hS (ht T rfl)
    have eg' : ∀ Q, RK MX10_good 0 [.ref m] [] (0, 0) (E, zg G, zk L, r) Q = Q (E, zg G, zk L, r) (.int (zi 1)) := eg
    refine ⟨G', L', f, s1, fun Q => ?_⟩
    simp (disch := first | assumption | exact c2_int _ | exact c2_ref _ | exact c2_jk | exact c2_null | omega | exact bI_r _ | exact bI_01 _) only [↓fX10_goesOn_0, ↓fX10_goesOn_1, ↓fX10_goesOn_4, ↓fX10_goesOn_7, ↓fX10_goesOn_8, ↓fX10_goesOn_11, ↓eg', ↓e, and_self, true_and, and_true, false_and, and_false, not_true_eq_false, not_false_eq_true, or_self, true_or, or_true, false_or, or_false, ite_not, Decidable.not_not, decide_eq_true_eq, Bool.not_true, Bool.not_false, Bool.false_eq_true, Bool.not_eq_true, n10, n20, n21, n30, n31, n32, n40, n41, n42, n43, ↓reduceIte]
theorem m_takes (hm : shM E r m) (hS : rdS G L m B n st) (hb : b = 0 ∨ b = 1) (ht : b = 1 → ∀ T, st = .ok T → T.1 = 2 ∨ T.1 = 3 ∨ T.1 = 4) : ∃ G' L', prW G L G' L' m ∧ rdS G' L' m B n (nxS B n (mustS st b 2)) ∧ ∀ Q, RK MX10_takes 0 [.ref m, .int (zi b)] [] (0, 0) (E, zg G, zk L, r) Q = Q (E, zg G', zk L', r) .null := by
  have m0 := hm.1
  obtain ⟨G1, f1, s1, -, e1⟩ := m_must (y := 2) hm hS hb (by decide)
  obtain ⟨G2, L2, f2, s2, e2⟩ := m_goesOn hm s1 (fun T h => by
    cases st with
    | error e => exact absurd h (by unfold mustS; exact fun z => by cases z)
    | ok T' =>
      unfold mustS at h
      dsimp only at h
      rcases hb with hb | hb
      · rw [if_neg (by omega)] at h
        cases h
      · rw [if_pos hb] at h
        cases h
        exact ht hb _ rfl)
  refine ⟨G2, L2, f1.trans (prW_F f2), s2, fun Q => ?_⟩
  simp (disch := first | assumption | exact c2_int _ | exact c2_ref _ | exact c2_jk | exact c2_null | omega | exact bI_r _ | exact bI_01 _) only [↓fX10_takes_0, ↓fX10_takes_1, ↓fX10_takes_2, ↓fX10_takes_3, ↓fX10_takes_6, ↓fX10_takes_7, ↓fX10_takes_10, ↓e1, ↓e2, and_self, true_and, and_true, false_and, and_false, not_true_eq_false, not_false_eq_true, or_self, true_or, or_true, false_or, or_false, ite_not, Decidable.not_not, decide_eq_true_eq, Bool.not_true, Bool.not_false, Bool.false_eq_true, Bool.not_eq_true, n10, n20, n21, n30, n31, n32, n40, n41, n42, n43, ↓reduceIte]
theorem tk_wrd (hS : rdS G L m B n (.ok T)) (h2 : T.1 = 2) : wrdB B T.2.1 T.2.2.1 ∧ L m 30 = wvS B T.2.1 (T.2.2.1 - T.2.1).toNat := by
  obtain ⟨h1, -, -, -, -, h6, h7, h8⟩ := hS
  obtain ⟨a, b, c⟩ := h7.2.2.2.2.2.2 h2
  exact ⟨⟨a, b.1, b.2⟩, c⟩
theorem wvF_b (i : Nat) (hi : i < 12) : 0 ≤ wvF (wdL (wix i)) ∧ wvF (wdL (wix i)) < 1000000000000000 := by
  have hx : i = 0 ∨ i = 1 ∨ i = 2 ∨ i = 3 ∨ i = 4 ∨ i = 5 ∨ i = 6 ∨ i = 7 ∨ i = 8 ∨ i = 9 ∨ i = 10 ∨ i = 11 := by omega
  rcases hx with rfl | rfl | rfl | rfl | rfl | rfl | rfl | rfl | rfl | rfl | rfl | rfl <;> decide
theorem m_isWord (hm : shM E r m) (hK : kWd L m) (hS : rdS G L m B n st) {i : Nat} (hi : i < 12) : RK MX10_isWord 0 [.ref m, .int (zi (i : Int))] [] (0, 0) (E, zg G, zk L, r) Q = Q (E, zg G, zk L, r) (.int (zi (wdI B st i))) := by
  have m0 := hm.1
  obtain ⟨k13, l13, r13⟩ := hm.2.2.2.2.2.2.2.2.2.2.2.2.2
  have eg := fun Q => m_good (Q := Q) hm hS
  have hw := wvF_b i hi
  have ek : L (m + 13) (i : Int).toNat = wvF (wdL (wix i)) := by rw [Int.toNat_natCast]; exact hK i hi
  cases st with
  | error e =>
    have eg' : ∀ Q, RK MX10_good 0 [.ref m] [] (0, 0) (E, zg G, zk L, r) Q = Q (E, zg G, zk L, r) (.int (zi 0)) := eg
    simp (disch := first | assumption | exact c2_int _ | exact c2_ref _ | exact c2_jk | exact c2_null | omega | exact bI_r _ | exact bI_01 _) only [↓fX10_isWord_0, ↓fX10_isWord_1, ↓fX10_isWord_4, ↓fX10_isWord_7, ↓fX10_isWord_8, ↓fX10_isWord_11, ↓fX10_isWord_12, ↓fX10_isWord_15, ↓fX10_isWord_16, ↓fX10_isWord_19, ↓fX10_isWord_20, ↓fX10_isWord_23, ↓fX10_isWord_24, ↓fX10_isWord_25, ↓fX10_isWord_29, ↓fX10_isWord_30, ↓fX10_isWord_33, ↓fX10_isWord_34, ↓eg', wdI, and_self, true_and, and_true, false_and, and_false, not_true_eq_false, not_false_eq_true, or_self, true_or, or_true, false_or, or_false, ite_not, Decidable.not_not, decide_eq_true_eq, Bool.not_true, Bool.not_false, Bool.false_eq_true, Bool.not_eq_true, n10, n20, n21, n30, n31, n32, n40, n41, n42, n43, ↓reduceIte]
  | ok T =>
    have eg' : ∀ Q, RK MX10_good 0 [.ref m] [] (0, 0) (E, zg G, zk L, r) Q = Q (E, zg G, zk L, r) (.int (zi 1)) := eg
    obtain ⟨h1, h2, h3, h4, h4b, h6, h7, h8⟩ := id hS
    have sb := srM_b h8.1
    have e25 := h7.2.1
    by_cases c : T.1 = 2
    · obtain ⟨w1, w2⟩ := tk_wrd hS c
      have e1 : G m 25 = 1 := by rw [e25]; exact sb.2.2.1.mpr c
      have iw := isT_wv c w1 i hi
      rw [← w2] at iw
      by_cases q : L m 30 = wvF (wdL (wix i))
      · have ev : wdI B (.ok T) i = 1 := bI_p (iw.mp q)
        rw [ev]
        simp (disch := first | assumption | exact c2_int _ | exact c2_ref _ | exact c2_jk | exact c2_null | omega | exact bI_r _ | exact bI_01 _) only [↓fX10_isWord_0, ↓fX10_isWord_1, ↓fX10_isWord_4, ↓fX10_isWord_7, ↓fX10_isWord_8, ↓fX10_isWord_11, ↓fX10_isWord_12, ↓fX10_isWord_15, ↓fX10_isWord_16, ↓fX10_isWord_19, ↓fX10_isWord_20, ↓fX10_isWord_23, ↓fX10_isWord_24, ↓fX10_isWord_25, ↓fX10_isWord_29, ↓fX10_isWord_30, ↓fX10_isWord_33, ↓fX10_isWord_34, ↓eg', e1, ek, q, and_self, true_and, and_true, false_and, and_false, not_true_eq_false, not_false_eq_true, or_self, true_or, or_true, false_or, or_false, ite_not, Decidable.not_not, decide_eq_true_eq, Bool.not_true, Bool.not_false, Bool.false_eq_true, Bool.not_eq_true, n10, n20, n21, n30, n31, n32, n40, n41, n42, n43, ↓reduceIte]
      · have ev : wdI B (.ok T) i = 0 := bI_n (fun z => q (iw.mpr z))
        rw [ev]
        simp (disch := first | assumption | exact c2_int _ | exact c2_ref _ | exact c2_jk | exact c2_null | omega | exact bI_r _ | exact bI_01 _) only [↓fX10_isWord_0, ↓fX10_isWord_1, ↓fX10_isWord_4, ↓fX10_isWord_7, ↓fX10_isWord_8, ↓fX10_isWord_11, ↓fX10_isWord_12, ↓fX10_isWord_15, ↓fX10_isWord_16, ↓fX10_isWord_19, ↓fX10_isWord_20, ↓fX10_isWord_23, ↓fX10_isWord_24, ↓fX10_isWord_25, ↓fX10_isWord_29, ↓fX10_isWord_30, ↓fX10_isWord_33, ↓fX10_isWord_34, ↓eg', e1, ek, q, and_self, true_and, and_true, false_and, and_false, not_true_eq_false, not_false_eq_true, or_self, true_or, or_true, false_or, or_false, ite_not, Decidable.not_not, decide_eq_true_eq, Bool.not_true, Bool.not_false, Bool.false_eq_true, Bool.not_eq_true, n10, n20, n21, n30, n31, n32, n40, n41, n42, n43, ↓reduceIte]
    · have e1 : ¬ G m 25 = 1 := by rw [e25]; exact fun z => c (sb.2.2.1.mp z)
      have ev : wdI B (.ok T) i = 0 := bI_n (fun z => by
        unfold isT at z
        rw [decide_eq_true_eq] at z
        exact c z.1)
      rw [ev]
      simp (disch := first | assumption | exact c2_int _ | exact c2_ref _ | exact c2_jk | exact c2_null | omega | exact bI_r _ | exact bI_01 _) only [↓fX10_isWord_0, ↓fX10_isWord_1, ↓fX10_isWord_4, ↓fX10_isWord_7, ↓fX10_isWord_8, ↓fX10_isWord_11, ↓fX10_isWord_12, ↓fX10_isWord_15, ↓fX10_isWord_16, ↓fX10_isWord_19, ↓fX10_isWord_20, ↓fX10_isWord_23, ↓fX10_isWord_24, ↓fX10_isWord_25, ↓fX10_isWord_29, ↓fX10_isWord_30, ↓fX10_isWord_33, ↓fX10_isWord_34, ↓eg', e1, and_self, true_and, and_true, false_and, and_false, not_true_eq_false, not_false_eq_true, or_self, true_or, or_true, false_or, or_false, ite_not, Decidable.not_not, decide_eq_true_eq, Bool.not_true, Bool.not_false, Bool.false_eq_true, Bool.not_eq_true, n10, n20, n21, n30, n31, n32, n40, n41, n42, n43, ↓reduceIte]
end BM
