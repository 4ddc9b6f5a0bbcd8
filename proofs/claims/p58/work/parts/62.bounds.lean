/-! How great the answers are; the frame of a call that only looks. -/
theorem fdL_b (P : Int → Bool) (e : Int) : ∀ (k : Nat) (i : Int), i ≤ e → i ≤ fdL P e k i ∧ fdL P e k i ≤ e := by
  intro k
  induction k with
  | zero => intro i h; exact ⟨h, Int.le_refl _⟩
  | succ k ih =>
    intro i h
    unfold fdL
    by_cases q : i < e
    · rw [if_pos q]
      have := ih (i + 1) (by omega)
      split <;> omega
    · rw [if_neg q]
      omega
theorem snL_b (P : Int → Bool) (e kk : Int) : ∀ (k : Nat) (a i : Int), i ≤ e → i ≤ snL P e kk k a i ∧ snL P e kk k a i ≤ e := by
  intro k
  induction k with
  | zero => intro a i h; exact ⟨h, Int.le_refl _⟩
  | succ k ih =>
    intro a i h
    unfold snL
    by_cases q : i < e
    · rw [if_pos q]
      have h1 := ih (a + 1) (i + 1) (by omega)
      have h2 := ih a (i + 1) (by omega)
      repeat' split
      all_goals omega
    · rw [if_neg q]
      omega
theorem rcL_b (g : Int → Int) (e kk : Int) : ∀ (k : Nat) (i gr c : Int), 0 ≤ i → 0 ≤ c → -1 ≤ rcL g e kk k i gr c ∧ rcL g e kk k i gr c ≤ c + i + 2 * k := by
  intro k
  induction k with
  | zero => intro i gr c h1 h2; unfold rcL; split <;> omega
  | succ k ih =>
    intro i gr c h1 h2
    unfold rcL
    have a1 := ih (i + 1) gr c (by omega) h2
    have a2 := ih (i + 1) (g i) (c + 1) (by omega) (by omega)
    repeat' split
    all_goals omega
theorem fiL_b (H : Int → Bool) (A : Int → Int) (z e st : Int) : ∀ (k : Nat) (p n : Int), -1 ≤ n → 0 ≤ st → fiL H A z e st k p n = -1 ∨ (-1 ≤ fiL H A z e st k p n ∧ fiL H A z e st k p n ≤ e) := by
  intro k
  induction k with
  | zero => intro p n h h2; exact Or.inl rfl
  | succ k ih =>
    intro p n h h2
    unfold fiL
    have := ih (mdL A z n 600 p) (n + st) (by omega) h2
    repeat' split
    all_goals omega
theorem prL_b (A : Int → Int) (P : Int → Bool) (e : Int) (hA : ∀ p, -1 ≤ A p ∧ A p ≤ 100000) : ∀ (k : Nat) (i c f la : Int), (-1 ≤ f ∧ f ≤ 100000) → (-1 ≤ la ∧ la ≤ 100000) → (c ≤ (prL A P e k i c f la).1 ∧ (prL A P e k i c f la).1 ≤ c + k) ∧ (-1 ≤ (prL A P e k i c f la).2.1 ∧ (prL A P e k i c f la).2.1 ≤ 100000) ∧ (-1 ≤ (prL A P e k i c f la).2.2 ∧ (prL A P e k i c f la).2.2 ≤ 100000) := by
  intro k
  induction k with
  | zero => intro i c f la h1 h2; exact ⟨by show c ≤ c ∧ c ≤ c + 0; omega, h1, h2⟩
  | succ k ih =>
    intro i c f la h1 h2
    unfold prL
    have hi := hA i
    have a1 := ih (i + 1) (c + 1) (if f = -1 then A i else f) (A i) (by split <;> omega) hi
    have a2 := ih (i + 1) c f la h1 h2
    by_cases q : i < e
    · rw [if_pos q]
      by_cases q2 : P (A i) = true
      · rw [if_pos q2]
        exact ⟨⟨by omega, by omega⟩, a1.2⟩
      · rw [if_neg q2]
        exact ⟨⟨by omega, by omega⟩, a2.2⟩
    · rw [if_neg q]
      exact ⟨⟨by show c ≤ c; omega, by show c ≤ _; omega⟩, h1, h2⟩
theorem rnL_b (g : Int) : ∀ (k : Nat) (f : Int → Int) (cnt pos : Int), (∀ j, -1 ≤ f j ∧ f j ≤ 100000) → -1 ≤ rnL g k f cnt pos ∧ rnL g k f cnt pos ≤ 100000 := by
  intro k
  induction k with
  | zero => intro f cnt pos h; exact h _
  | succ k ih =>
    intro f cnt pos h
    unfold rnL
    refine ih _ _ _ fun j => ?_
    unfold rgF
    split
    · exact h _
    · exact h _
theorem chL_b (A : Int → Int) (n : Int) (hA : ∀ p, -1 ≤ A p ∧ A p ≤ 100000) : ∀ (k : Nat) (p la le_ : Int) (v : Int → Bool), I32 la → 0 ≤ le_ → I32 (chL A n k p la le_ v).2.1 ∧ (0 ≤ (chL A n k p la le_ v).2.2 ∧ (chL A n k p la le_ v).2.2 ≤ le_ + k) := by
  intro k
  induction k with
  | zero => intro p la le_ v h1 h2; exact ⟨h1, by show 0 ≤ le_ ∧ le_ ≤ le_ + 0; omega⟩
  | succ k ih =>
    intro p la le_ v h1 h2
    unfold chL
    have hp := hA p
    have a1 := ih (A p) (A p) (le_ + 1) (fun q => decide (q = p) || v q) ⟨by omega, by omega⟩ (by omega)
    by_cases q : 1 ≤ p ∧ p ≤ n ∧ v p = false ∧ le_ < n
    · rw [if_pos q]
      exact ⟨a1.1, by omega, by omega⟩
    · rw [if_neg q]
      exact ⟨h1, by show 0 ≤ le_; omega, by show le_ ≤ _; omega⟩
theorem mmL_b (g : Int → Int) (n : Int) (hn : n ≤ 600) : ∀ (k : Nat) (i : Int) (s : Int × Int), 1 ≤ i → (-10000 ≤ s.1 ∧ s.1 ≤ 10000) → (-10000 ≤ s.2 ∧ s.2 ≤ 10000) → (-10000 ≤ (mmL g n k i s).1 ∧ (mmL g n k i s).1 ≤ 10000) ∧ (-10000 ≤ (mmL g n k i s).2 ∧ (mmL g n k i s).2 ≤ 10000) := by
  intro k
  induction k with
  | zero => intro i s h0 h1 h2; exact ⟨h1, h2⟩
  | succ k ih =>
    intro i s h0 h1 h2
    unfold mmL
    by_cases q : i < n
    · rw [if_pos q]
      obtain ⟨b1, b2⟩ := mmS_b g n (m := i) (ev := 0) h1 h2 (Or.inl rfl) ⟨h0, by omega⟩
      obtain ⟨d1, d2⟩ := mmS_b g n (m := i) (ev := 1) b1 b2 (Or.inr rfl) ⟨h0, by omega⟩
      exact ih _ _ (by omega) d1 d2
    · rw [if_neg q]
      exact ⟨h1, h2⟩
theorem pkL_b (A : Int → Int) (P : Int → Bool) (e kk : Int) (hA : ∀ p, -1 ≤ A p ∧ A p ≤ 100000) : ∀ (k : Nat) (c i : Int), 0 ≤ c → c + k ≤ 100000 → -1 ≤ pkL A P e kk k c i ∧ pkL A P e kk k c i ≤ 100000 := by
  intro k
  induction k with
  | zero => intro c i h1 h2; unfold pkL; split <;> omega
  | succ k ih =>
    intro c i h1 h2
    unfold pkL
    have hi := hA i
    have a1 := ih (c + 1) (i + 1) (by omega) (by omega)
    have a2 := ih c (i + 1) (by omega) (by omega)
    repeat' split
    all_goals omega
theorem pgL_b2 (P : Int → Bool) (n d : Int) (k : Nat) (l x : Int) : l ≤ pgL P n d k l x ∧ pgL P n d k l x ≤ l + k := pgL_b P n d k l x
section SG
variable {σ τ : Nat → Int} {p d e f n m x k g w : Int}
theorem szS_b (w : WF σ) : 1 ≤ szS σ ∧ szS σ ≤ 600 := by
  obtain ⟨-, -, -, w3, w4, w5, -⟩ := w
  omega
theorem lin_b (w : WF σ) {i : Int} (hi : 0 ≤ i ∧ i < σ 3) : 0 ≤ σ 1 + σ 2 * i ∧ σ 1 + σ 2 * i ≤ 100000 := by
  obtain ⟨-, w1, w2, w3, -⟩ := w
  have b1 : 0 ≤ σ 2 * i := Int.mul_nonneg (by omega) hi.1
  have b2 : σ 2 * i ≤ 99 * i := Int.mul_le_mul_of_nonneg_right (by omega) hi.1
  omega
theorem gAS_b (w : WF σ) (p : Int) : -200000 ≤ gAS σ p ∧ gAS σ p ≤ 200000 := by
  have h1 := nAS_b w p
  have h2 := nAS_b w (p + 1)
  unfold gAS
  split <;> omega
theorem paZ_b (σ : Nat → Int) (x e : Int) : 0 ≤ paZ σ x e ∧ paZ σ x e ≤ (x + 1).toNat := ctN_b _ _
theorem fsZ_b (w : WF σ) : -1 ≤ fsZ σ e ∧ fsZ σ e ≤ 100000 := by
  have w3 := w.2.2.2.1
  have b := fdL_b (fun i => decide (skZ σ i = e)) (σ 3) 600 0 (by omega)
  unfold fsZ
  split
  · have := lin_b w (i := fdL (fun i => decide (skZ σ i = e)) (σ 3) 600 0) (by omega)
    omega
  · omega
theorem roZ_b (w : WF σ) : 0 ≤ roZ σ e ∧ roZ σ e ≤ 700 := by
  have w5 := WF_5 w
  have w4 := w.2.2.2.2.1
  have b := fdL_b (fun i => decide (whZ σ i = e)) (σ 4 + 1) 601 1 (by omega)
  unfold roZ
  split <;> omega
theorem snZ_b (w : WF σ) : -1 ≤ snZ σ k ∧ snZ σ k ≤ 100000 := by
  have w3 := w.2.2.2.1
  have b := snL_b (fun i => !hbS σ i) (σ 3) k 600 0 0 (by omega)
  unfold snZ
  split
  · have := lin_b w (i := snL (fun i => !hbS σ i) (σ 3) k 600 0 0) (by omega)
    omega
  · omega
theorem orZ_b (w' : WF σ) : -1000 ≤ orZ σ p w ∧ orZ σ p w ≤ 100000 := by
  have w3 := w'.2.2.2.1
  have w5 := WF_5 w'
  unfold orZ
  by_cases q : 1 ≤ p ∧ p ≤ σ 4
  · have a1 := w'.2.2.2.2.2.2.2.2.2.2.1 p.toNat (by omega) (by omega)
    have a2 := paZ_b σ (σ 3 - 1) (whZ σ p)
    have a3 := paZ_b σ (σ 3 - 1) (whZ σ p + 1)
    have a4 := fsZ_b (e := whZ σ p) w'
    rw [if_pos q]
    repeat' split
    all_goals omega
  · rw [if_neg q]
    omega
theorem osZ_b (w' : WF σ) : -1 ≤ osZ σ x w ∧ osZ σ x w ≤ 100000 := by
  have w3 := w'.2.2.2.1
  have b := iXS_b w' x
  have a1 := roZ_b (e := skZ σ (iXS σ x)) w'
  have a2 := paZ_b σ (iXS σ x) (skZ σ (iXS σ x))
  unfold osZ
  repeat' split
  all_goals omega
theorem lbZ_b (w : WF σ) : -1 ≤ lbZ σ f e p ∧ lbZ σ f e p ≤ 100000 := by
  have w3 := w.2.2.2.1
  have b := iaZ_b (p := p) (e := whZ σ e + 1) w
  have a2 := paZ_b σ (iaZ σ p (whZ σ e + 1)) (whZ σ f)
  unfold lbZ
  repeat' split
  all_goals omega
theorem lnoZ_b (w : WF σ) : -1 ≤ lnoZ σ e p ∧ lnoZ σ e p ≤ 100000 := by
  have w3 := w.2.2.2.1
  have b := iaZ_b (p := p) (e := whZ σ e) w
  have a2 := paZ_b σ (iaZ σ p (whZ σ e)) (whZ σ e + 1)
  unfold lnoZ
  repeat' split
  all_goals omega
theorem poZ_b (w : WF σ) : -1 ≤ poZ σ x ∧ poZ σ x ≤ 600 := by
  have h := szS_b w
  have a1 := cuL_n (A := nAS σ) (n := szS σ) (x := x) (by omega) 600 0 (by omega)
  have a2 := cuL_b (nAS σ) (szS σ) x 600 0
  unfold poZ
  split <;> omega
theorem tlS_b (left : Int) : ∀ (k : Nat) (σ : Nat → Int), -1 ≤ tlS left k σ ∧ tlS left k σ ≤ k := by
  intro k
  induction k with
  | zero => intro σ; unfold tlS; omega
  | succ k ih =>
    intro σ
    unfold tlS
    have := ih (swS σ (ngS σ))
    repeat' split
    all_goals omega
theorem pbZ_b (w' : WF σ) : -1 ≤ pbZ σ d w ∧ pbZ σ d w ≤ 100000 := by
  obtain ⟨a1, a2, a3⟩ := prL_b (nAS σ) (fun x => hasS σ (x + d)) (szS σ + 1) (nAS_b w') 601 1 0 (-1) (-1) (by omega) (by omega)
  unfold pbZ prZ
  split
  · omega
  · split
    · exact a2
    · exact a3
theorem fnZ_b (w : WF σ) (hm : 0 ≤ m) : -1 ≤ fnZ σ m ∧ fnZ σ m ≤ 200000 := by
  have h := szS_b w
  have a1 := nAS_b w (szS σ)
  obtain ⟨i, -, -, -, -, i5, -⟩ := nAS_ix w (p := 1) ⟨by omega, h.1⟩
  have := fiL_b (hasS σ) (nAS σ) (szS σ) (2 * nAS σ (szS σ)) m 300000 1 (2 * nAS σ 1) (by omega) hm
  unfold fnZ
  omega
theorem rgZ_b (w : WF σ) {t : Int} : -1 ≤ rgZ σ g t ∧ rgZ σ g t ≤ 100000 := by
  unfold rgZ
  split
  · exact rnL_b g _ _ _ _ fun j => nAS_b w _
  · omega
theorem chZ_b (w' : WF σ) (hx : I32 x) : I32 (chZ σ x w) := by
  obtain ⟨a1, a2⟩ := chL_b (nAS σ) (szS σ) (nAS_b w') 600 (poZ σ x) x 0 (fun _ => false) hx (by omega)
  have b1 := bI_r (1 ≤ (chZ0 σ x).1 ∧ (chZ0 σ x).1 ≤ szS σ)
  unfold chZ
  split
  · exact ⟨by decide, by decide⟩
  · split
    · unfold chZ0
      exact ⟨by omega, by omega⟩
    · split
      · exact a1
      · exact b1
theorem mrZ_b (w' : WF σ) : I32 (mrZ σ w) := by
  have h := szS_b w'
  obtain ⟨a1, a2⟩ := mmL_b (gAS σ) (szS σ) h.2 600 1 (0, -1) (by omega) (by show -10000 ≤ (0 : Int) ∧ (0 : Int) ≤ 10000; omega) (by show -10000 ≤ (-1 : Int) ∧ (-1 : Int) ≤ 10000; omega)
  unfold mrZ mrA
  split
  · exact ⟨by omega, by omega⟩
  · exact ⟨by omega, by omega⟩
theorem cmZ_b (w : WF σ) : I32 (cmZ σ) := by
  obtain ⟨-, -, w2, -⟩ := w
  have h := bsL_b (fun i b => decide (tgZ σ b < tgZ σ i)) 600 600 2 1 (by omega) (by omega)
  unfold cmZ
  split
  · exact ⟨by decide, by decide⟩
  · have b1 : 0 ≤ bsL (fun i b => decide (tgZ σ b < tgZ σ i)) 600 600 2 1 * σ 2 := Int.mul_nonneg (by omega) (by omega)
    have b2 : bsL (fun i b => decide (tgZ σ b < tgZ σ i)) 600 600 2 1 * σ 2 ≤ bsL (fun i b => decide (tgZ σ b < tgZ σ i)) 600 600 2 1 * 99 := Int.mul_le_mul_of_nonneg_left (by omega) (by omega)
    exact ⟨by omega, by omega⟩
theorem loZ_b (w : WF σ) (w2 : WF τ) : -1 ≤ loZ σ τ ∧ loZ σ τ ≤ 100000 := by
  have a1 := nAS_b w (fdL (fun p => !hasS τ (nAS σ p)) (szS σ + 1) 601 1)
  have a2 := nAS_b w2 (fdL (fun p => !hasS σ (nAS τ p)) (szS τ + 1) 601 1)
  unfold loZ lnZ
  repeat' split
  all_goals omega
theorem pkZ_b (w : WF σ) : -1 ≤ pkZ σ τ k ∧ pkZ σ τ k ≤ 100000 := pkL_b _ _ _ _ (nAS_b w) 601 0 1 (by omega) (by omega)
theorem fuZ_b (w : WF σ) (w2 : WF τ) : -1 ≤ fuZ σ τ ∧ fuZ σ τ ≤ 1000 := by
  have h := szS_b w
  have h2 := szS_b w2
  have b := fdL_b (fun p => !decide (nAS σ p = nAS τ p)) (max (szS σ) (szS τ) + 1) 601 1 (by omega)
  unfold fuZ
  split <;> omega
theorem rcZ_b (σ : Nat → Int) (k : Int) : -1 ≤ rcZ σ k ∧ rcZ σ k ≤ 10000 := by
  have := rcL_b (gAS σ) (szS σ) k 600 1 0 0 (by omega) (by omega)
  unfold rcZ
  omega
end SG
/-- nothing that lasts is changed but the status -/
def lkX (G G' : Nat → Nat → Int) (X : Nat) : Prop := (∀ x, x ≠ X → ¬ (X + 123 ≤ x ∧ x ≤ X + 129) → G' x = G x) ∧ (∀ j, j ≠ 5 → G' X j = G X j) ∧ rgS G' (X + 123)
def onS2 (bad : Bool) (n : Nat) (s o : Int) (f : Int × Int) : Int × Int := if bad = true then (1, -1) else if (0 ≤ s ∧ s < n) ∧ (0 ≤ o ∧ o < n) then f else (2, -1)
def onL (bad : Bool) (n cl : Nat) (s l : Int) (f : Int × Int) : Int × Int := if bad = true then (1, -1) else if (0 ≤ s ∧ s < n) ∧ (0 ≤ l ∧ l < cl) then f else (2, -1)
section BS
variable {E : AE} {G G' G1 L : Nat → Nat → Int} {r : Nat → Nat → Option Nat} {h : AH} {Q : AH → Value → Prop} {X H S n a cl l : Nat} {v y s x d e b c w k o : Int} {p q : Nat → Nat} {σ τ : Nat → Nat → Int} {kk nn : Nat → Int} {ln : Nat → Nat} {lv : Nat → Nat → Int}
theorem lkX_st (hg : rgS G (X + 123)) (y : Int) : lkX G (u2 G X 5 y) X := ⟨fun x hx _ => u2_a _ _ _ _ hx, fun j hj => u2_i _ _ _ _ hj, rgS_c (fun x x1 x2 => u2_a _ _ _ _ (by omega)) hg⟩
theorem lkX_fr (f : fr6 G G1 (X + 123)) (hg : rgS G1 (X + 123)) (y : Int) : lkX G (u2 G1 X 5 y) X := ⟨fun x hx h2 => (u2_a _ _ _ _ hx).trans (f x (by omega)), fun j hj => (u2_i _ _ _ _ hj).trans (by rw [f X (by omega)]), rgS_c (fun x x1 x2 => u2_a _ _ _ _ (by omega)) hg⟩
theorem lkX_sc (f : ∀ q, q ≠ X + 129 → G1 q = G q) (hg : rgS G (X + 123)) (y : Int) : lkX G (u2 G1 X 5 y) X := ⟨fun x hx h2 => (u2_a _ _ _ _ hx).trans (f x (by omega)), fun j hj => (u2_i _ _ _ _ hj).trans (by rw [f X (by omega)]), rgS_c (fun x x1 x2 => (u2_a _ _ _ _ (by omega)).trans (f x (by omega))) hg⟩
theorem lkX_HXS (hx : HXS E r G X p q n σ a kk nn τ) (h : lkX G G' X) : HXS E r G' X p q n σ a kk nn τ := ⟨hx.1, SHF_c hx.2.1 fun x x1 x2 => h.1 x (by omega) (by omega), h.2.2⟩
theorem lkX_HXR (hk : kd E X = 15) (hr : HXR E G X cl ln lv) (h : lkX G G' X) : HXR E G' X cl ln lv := by
  obtain ⟨h1, h2, h3, h4, h5⟩ := hr
  refine ⟨LH_c h1 fun x x1 x2 => h.1 x (by omega) (by omega), kStr_c h2 fun x x1 x2 => ?_, ?_, ?_, ⟨fun t ht => rgS_c (fun x y1 y2 => h.1 x (by omega) (by omega)) (h5.1 t ht), fun t ht => rgL_c (h.1 _ (by omega) (by omega)) (h.1 _ (by omega) (by omega)) (h5.2 t ht)⟩⟩
  · by_cases z : x = X
    · rw [z, hk] at x2
      exact absurd x2 (by decide)
    · exact h.1 x z (by omega)
  · rw [h.1 (X + 1 + 1) (by omega) (by omega)]
    exact h3
  · rw [h.1 (X + 1) (by omega) (by omega)]
    exact h4
theorem HXS_li (hx : HXS E r G X p q n σ a kk nn τ) (hr : HXR E G X cl ln lv) (c : 0 ≤ s ∧ s < cl) : shL E r (X + 67 + 2 * s.toNat) ∧ rgL G (X + 67 + 2 * s.toNat) ∧ G (X + 67 + 2 * s.toNat) 1 = ln s.toNat ∧ (1 ≤ ln s.toNat ∧ ln s.toNat ≤ 10) ∧ (∀ j, j < ln s.toNat → 0 ≤ lv s.toNat j ∧ lv s.toNat j ≤ 9999) ∧ liN G (X + 67 + 2 * s.toNat) = liZ (ln s.toNat) (lv s.toNat) ∧ ∀ Q, RK MX6_listAt 0 [.ref (X + 37), .int (zi s)] [] (0, 0) (E, zg G, zk L, r) Q = Q (E, zg G, zk L, r) (.ref (X + 67 + 2 * s.toNat)) := by
  obtain ⟨⟨c1, c2⟩, c3, c4⟩ := hr.1
  obtain ⟨d1, d2, d3⟩ := c4 s.toNat (by omega)
  have ea : X + 37 + 30 + 2 * s.toNat = X + 67 + 2 * s.toNat := by omega
  rw [ea] at d1 d3
  refine ⟨?_, ?_, d1, d2, fun j hj => (d3 j hj).2, ?_, fun Q => ?_⟩
  · have := hx.2.1.1.2.2.2.2.2.1 s.toNat (by omega)
    rw [ea] at this
    exact this
  · have := c3 s.toNat (by omega)
    rw [ea] at this
    exact this
  · funext i
    unfold liN liZ
    rw [d1]
    by_cases z : 0 ≤ i ∧ i ≤ (ln s.toNat : Int) - 1
    · rw [if_pos z, if_pos z, (d3 i.toNat (by omega)).1]
    · rw [if_neg z, if_neg z]
  · rw [c6_listAt hx.2.1.1 (by omega) (by omega), if_pos (by omega), ea]
theorem HXS_li0 (hx : HXS E r G X p q n σ a kk nn τ) (hr : HXR E G X cl ln lv) (hs : I32 s) (c : ¬ (0 ≤ s ∧ s < cl)) : ∀ Q, RK MX6_listAt 0 [.ref (X + 37), .int (zi s)] [] (0, 0) (E, zg G, zk L, r) Q = Q (E, zg G, zk L, r) .null := fun Q => by
  have c1 := hr.1.1
  rw [c6_listAt hx.2.1.1 (by omega) hs, if_neg (by omega)]
end BS
