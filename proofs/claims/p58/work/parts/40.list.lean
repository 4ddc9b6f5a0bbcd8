/-! readName (pure), readList. -/
def rdName (B : Int → Int) (n : Int) (f g : Nat → Int) (c : Nat) (T : Int × Int × Int × Int) : Except ER (Int × Int × Int × Int) := if T.1 = 2 ∧ resT B T = false then (if hasN B T f g c = true then .error (4, T) else .ok (nxT B n T.2.2.1)) else .error (unK T, T)
def rdLL (B : Int → Int) (n : Int) : Nat → Nat → (Nat → Int) → Int → Int × Int × Int × Int → Except ER (Nat × (Nat → Int) × Int × Int × Int × Int)
  | 0, i, g, _, T => .ok (i, g, T)
  | k + 1, i, g, le_, T => if 0 < i ∧ ¬ T.1 = 3 then .ok (i, g, T) else if i = 10 then .error (if le_ ≤ T.2.2.2 ∧ T.2.2.2 ≤ 9999 then 5 else 3, T) else
    match rdNum B n le_ 9999 T with
    | .error e => .error e
    | .ok (v, T1) => rdLL B n k (i + 1) (upN g i v) (v + 1) T1
def lsG (G : Nat → Nat → Int) (l i : Nat) (g : Nat → Int) : Nat → Nat → Int := fun a j => if a = l + 1 ∧ j < i then g j else if a = l ∧ j = 1 then i else G a j
def RW (G : Nat → Nat → Int) (D : Nat) : Prop := (∀ t, t < 4 → rgS G (D + 6 + 6 * t)) ∧ ∀ t, t < 3 → rgL G (D + 30 + 2 * t)
def RF (G H : Nat → Nat → Int) (D : Nat) : Prop := (∀ x, x < D ∨ D + 35 < x → H x = G x) ∧ H (D + 1) = G (D + 1) ∧ H D 1 = G D 1 ∧ H D 2 = G D 2 ∧ RW H D
section BS
variable {E : AE} {G G' L : Nat → Nat → Int} {r : Nat → Nat → Option Nat} {h : AH} {Q : AH → Value → Prop} {D S a c l : Nat} {w : List Int} {i v x b u s e t n lo hi : Int} {B : Int → Int} {T T' : Int × Int × Int × Int}
theorem RF.trans {G H K : Nat → Nat → Int} (h1 : RF G H D) (h2 : RF H K D) : RF G K D := ⟨fun x hx => (h2.1 x hx).trans (h1.1 x hx), h2.2.1.trans h1.2.1, h2.2.2.1.trans h1.2.2.1, h2.2.2.2.1.trans h1.2.2.2.1, h2.2.2.2.2⟩
theorem rgL_c {G H : Nat → Nat → Int} (h : H l = G l) (h1 : H (l + 1) = G (l + 1)) (hr : rgL G l) : rgL H l := by
  unfold rgL at hr ⊢
  rw [h, h1]
  exact hr
theorem RW_c {H : Nat → Nat → Int} (hw : RW G D) (h : ∀ x, D + 5 < x → H x = G x) : RW H D := ⟨fun t ht => rgS_c (fun x x1 x2 => h x (by omega)) (hw.1 t ht), fun t ht => rgL_c (h _ (by omega)) (h _ (by omega)) (hw.2 t ht)⟩
theorem RF_se (hw : RW G D) : RF G (seT G D T) D := ⟨fun x hx => seT_q (by omega), seT_q (by omega), seT_j (by omega), seT_j (by omega), RW_c hw fun x hx => seT_q (by omega)⟩
theorem RF_nm {s e : Int} (hw : RW G D) : RF G (nmG G D c s e) D := ⟨fun x hx => nmG_q (by omega) (by omega), nmG_q (by omega) (by omega), by rw [nmG_q (by omega) (by omega)], by rw [nmG_q (by omega) (by omega)], RW_c hw fun x hx => nmG_q (by omega) (by omega)⟩
theorem PS_name (h : PS E r G D B n T) (hc : G D 10 + G D 12 = c) (hc7 : c ≤ 6) (hN : ∀ i, i < c → (0 ≤ G (D + 4) i ∧ G (D + 4) i ≤ 1000) ∧ (0 ≤ G (D + 5) i ∧ G (D + 5) i ≤ 1000)) :
    (∃ T1, rdName B n (G (D + 4)) (G (D + 5)) c T = .ok T1 ∧ PS E r (seT (nmG G D c T.2.1 T.2.2.1) D T1) D B n T1 ∧ ∀ Q, RK MX5_readName 0 [.ref D, jk] [] (0, 0) (E, zg G, zk L, r) Q = Q (E, zg (seT (nmG G D c T.2.1 T.2.2.1) D T1), zk L, r) (.int (zi 1))) ∨ (∃ k T', rdName B n (G (D + 4)) (G (D + 5)) c T = .error (k, T') ∧ ∀ Q, RK MX5_readName 0 [.ref D, jk] [] (0, 0) (E, zg G, zk L, r) Q = Q (E, zg (faG (seT G D T') D k T'.2.1), zk L, r) (.int (zi 0))) := by
  unfold rdName
  by_cases c1 : T.1 = 2 ∧ resT B T = false
  · rw [if_pos c1]
    by_cases c2 : hasN B T (G (D + 4)) (G (D + 5)) c = true
    · rw [if_pos c2]
      exact Or.inr ⟨_, _, rfl, fun Q => by rw [PS_readName h hc hc7 hN, if_pos c1, if_pos c2, seT_id h]⟩
    · rw [if_neg c2]
      exact Or.inl ⟨_, rfl, PS_se (PS_nm h) (PS_nx h), fun Q => by rw [PS_readName h hc hc7 hN, if_pos c1, if_neg c2]⟩
  · rw [if_neg c1]
    exact Or.inr ⟨_, _, rfl, fun Q => by rw [PS_readName h hc hc7 hN, if_neg c1, seT_id h]⟩
theorem lsG_q {q i : Nat} {g : Nat → Int} (h : q ≠ l) (h2 : q ≠ l + 1) : lsG G l i g q = G q := by
  funext j
  unfold lsG
  rw [if_neg (by omega), if_neg (by omega)]
theorem lsG_0 {g : Nat → Int} : u2 G l 1 0 = lsG G l 0 g := by
  funext a j
  simp only [u2, lsG]
  by_cases h : a = l ∧ j = 1
  · rw [if_pos h, if_neg (by omega), if_pos h]
    rfl
  · rw [if_neg h, if_neg (by omega), if_neg h]
theorem lsG_s {i : Nat} {g : Nat → Int} : lsG G l i g l 1 = i := by
  unfold lsG
  rw [if_neg (by omega), if_pos ⟨rfl, rfl⟩]
theorem seT_lsG {i : Nat} {g : Nat → Int} (hS : D + 1 < l) : seT (lsG G l i g) D T = lsG (seT G D T) l i g := by
  funext a j
  by_cases h1 : a = D
  · subst h1
    rw [lsG_q (by omega) (by omega)]
    simp only [seT, fD, if_true]
    rw [lsG_q (by omega) (by omega)]
  · rw [seT_q h1]
    simp only [lsG, seT_q h1]
theorem PS_ls {i : Nat} {g : Nat → Int} (hS : D + 5 < l) (h : PS E r G D B n T) : PS E r (lsG G l i g) D B n T := PS_c h (fun x x1 x2 => lsG_q (by omega) (by omega)) (by rw [lsG_q (by omega) (by omega)]; exact ⟨rfl, rfl, rfl, rfl, rfl⟩)
theorem c2_append {i : Nat} {g : Nat → Int} {v : Int} (hl : shL E r l) (hi : i < 10) : RK MX2_append 0 [.ref l, .int (zi v)] [] (0, 0) (E, zg (lsG G l i g), zk L, r) Q = Q (E, zg (lsG G l (i + 1) (upN g i v)), zk L, r) .null := by
  obtain ⟨m0, m1, m2, m3⟩ := id hl
  have e1 : u2 (lsG G l i g) (l + 1) i v l 1 = i := (congrFun (u2_a _ _ _ _ (by omega)) 1).trans lsG_s
  have pp : ∀ Q, RK MX9_put 0 [.ref (l + 1), .int (zi (lsG G l i g l 1)), .int (zi v)] [] (0, 0) (E, zg (lsG G l i g), zk L, r) Q = Q (E, zg (u2 (lsG G l i g) (l + 1) i v), zk L, r) .null := fun Q => by
    rw [lsG_s, c9_put m1 (by omega) (by omega), if_pos (by omega), Int.toNat_natCast]
  have e2 : u2 (u2 (lsG G l i g) (l + 1) i v) l 1 ((i : Int) + 1) = lsG G l (i + 1) (upN g i v) := by
    funext a j
    simp only [u2, lsG, upN]
    by_cases h1 : a = l
    · subst h1
      by_cases h4 : j = 1
      · rw [if_pos ⟨rfl, h4⟩, if_neg (by omega), if_pos ⟨rfl, h4⟩]
        rfl
      · rw [if_neg (by omega), if_neg (by omega), if_neg (by omega), if_neg (by omega), if_neg (by omega), if_neg (by omega)]
    · by_cases h2 : a = l + 1
      · subst h2
        rw [if_neg (by omega)]
        by_cases h3 : j = i
        · rw [if_pos ⟨rfl, h3⟩, if_pos ⟨rfl, by omega⟩, if_pos h3]
        · rw [if_neg (by omega), if_neg h3]
          by_cases h5 : j < i
          · rw [if_pos ⟨rfl, h5⟩, if_pos ⟨rfl, by omega⟩]
          · rw [if_neg (by omega), if_neg (by omega), if_neg (by omega), if_neg (by omega)]
      · rw [if_neg (by omega), if_neg (by omega), if_neg (by omega), if_neg (by omega), if_neg (by omega), if_neg (by omega)]
  rw [← e2]
  simp (disch := first | assumption | exact c2_int _ | exact c2_ref _ | exact c2_jk | exact c2_null | omega | (apply rN1; assumption) | (apply rN2; assumption) | (apply rN3; assumption) | (apply rN4; assumption) | exact bI_r _ | exact bI_01 _) only [↓fX2_append_0, ↓fX2_append_1, ↓fX2_append_4, ↓fX2_append_5, ↓fX2_append_8, ↓fX2_append_9, ↓fX2_append_12, ↓fX2_append_13, ↓fX2_append_14, ↓fX2_append_17, ↓fX2_append_18, ↓fX2_append_19, ↓fX2_append_22, ↓pp, e1, and_self, true_and, and_true, false_and, and_false, not_true_eq_false, not_false_eq_true, or_self, true_or, or_true, false_or, or_false, ite_not, Decidable.not_not, decide_eq_true_eq, Bool.not_true, Bool.not_false, Bool.false_eq_true, Bool.not_eq_true, n10, n20, n21, n30, n31, n32, n40, n41, n42, n43, ↓reduceIte]
end BS
