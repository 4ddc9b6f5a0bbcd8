/-! What stands between two calls, on both sides. -/
def CI (E : AE) (r : Nat → Nat → Option Nat) (G : Nat → Nat → Int) (X n : Nat) (σ : Nat → Nat → Int) (a : Nat) (kk nn : Nat → Int) (τ : Nat → Nat → Int) (cl : Nat) (ln : Nat → Nat) (lv : Nat → Nat → Int) (ys : List Int) (st fl : Int) (tb : Nat → Int) (f1 f2 : Int) : Prop := (∃ p q, HXS E r G X p q n σ a kk nn τ) ∧ HXR E G X cl ln lv ∧ OUC G X ys ∧ G X 5 = st ∧ G (X + 1) 1 = fl ∧ (∀ j : Nat, (j : Int) < fl → G (X + 1 + 1) j = tb j) ∧ G (X + 1) 3 = f1 ∧ G (X + 1) 4 = f2
def RI (E : AE) (r : Nat → Nat → Option Nat) (G L : Nat → Nat → Int) (m n : Nat) (σ : Nat → Nat → Int) (a : Nat) (N : Nat → Nat) (Sg : Nat → Nat → Nat → Int) (cl : Nat) (ln : Nat → Nat) (lv : Nat → Nat → Int) (ys : List Int) (st fl : Int) (tb : Nat → Int) (f1 f2 : Int) : Prop := MD E r G m n σ ∧ PM G m a N Sg ∧ LM G m cl ln lv ∧ OUT G m ys ∧ (G m 0 = st ∧ G m 18 = fl ∧ (∀ j : Nat, (j : Int) < fl → G (m + 11) j = sg8 (tb j)) ∧ G m 19 = f1 ∧ G m 20 = f2) ∧ (0 ≤ G m 26 ∧ G m 26 ≤ 9999) ∧ (0 ≤ L m 30 ∧ L m 30 < 1000000000000000) ∧ kWd L m
/-- one act: what stood before it and what stands behind it -/
def AC1 (k s : Int) (t : Nat → Int) (n1 : Nat) (S1 : Nat → Nat → Int) (n2 : Nat) (S2 : Nat → Nat → Int) : Prop := (k = 1 ∧ n2 = n1 + 1 ∧ ∀ u, u < n1 → S2 u = S1 u) ∨ (k = 0 ∧ ∃ i : Nat, s = i ∧ i < n1 ∧ n2 = n1 ∧ S1 i = t ∧ ∀ u, u < n1 → u ≠ i → S2 u = S1 u) ∨ (k = 2 ∧ ∃ i : Nat, s = i ∧ i < n1 ∧ n1 = n2 + 1 ∧ ∀ u, u < n1 → S1 u = inS S2 i t u)
def ACR (a : Nat) (kk nn : Nat → Int) (τ : Nat → Nat → Int) (N : Nat → Nat) (Sg : Nat → Nat → Nat → Int) : Prop := ∀ c, c < a → AC1 (kk c) (nn c) (τ c) (N c) (Sg c) (N (c + 1)) (Sg (c + 1))
section IV
variable {E : AE} {G G' G1 G2 L L' L1 : Nat → Nat → Int} {r r' r1 : Nat → Nat → Option Nat} {Q : AH → Value → Prop} {X m n a cl : Nat} {p q : Nat → Nat} {σ τ σ' : Nat → Nat → Int} {kk nn : Nat → Int} {ln : Nat → Nat} {lv : Nat → Nat → Int} {N : Nat → Nat} {Sg : Nat → Nat → Nat → Int} {ys : List Int} {st st' fl f1 f2 : Int} {tb : Nat → Int}
theorem HXS_d (hx : HXS E r G X p q n σ a kk nn τ) (h : ∀ x, (X + 37 ≤ x ∧ x ≤ X + 120) ∨ (X + 123 ≤ x ∧ x ≤ X + 128) → G' x = G x) : HXS E r G' X p q n σ a kk nn τ := ⟨hx.1, SHF_c hx.2.1 fun x x1 x2 => h x (by omega), rgS_c (fun x x1 x2 => h x (by omega)) hx.2.2⟩
theorem HXR_d (hk : kd E X = 15) (hr : HXR E G X cl ln lv) (h : ∀ x, x < X ∨ (X + 1 ≤ x ∧ x ≤ X + 120) → G' x = G x) : HXR E G' X cl ln lv := by
  obtain ⟨h1, h2, h3, h4, h5⟩ := hr
  refine ⟨LH_c h1 fun x x1 x2 => h x (by omega), kStr_c h2 fun x x1 x2 => h x ?_, ?_, ?_, fun t ht => rgS_c (fun x x1 x2 => h x (by omega)) (h5.1 t ht), fun t ht => rgL_c (h _ (by omega)) (h _ (by omega)) (h5.2 t ht)⟩
  · have : x ≠ X := fun z => by
      rw [z, hk] at x2
      exact absurd x2 (by decide)
    omega
  · rw [h _ (by omega)]
    exact h3
  · rw [h _ (by omega)]
    exact h4
theorem HXS_sg (hx : HXS E r G X p q n σ a kk nn τ) (h : ∀ t, t < n → σ' t = σ t) : HXS E r G X p q n σ' a kk nn τ := by
  obtain ⟨h1, ⟨b1, b2, b3, b4, b5, b6, b7, b8, b9⟩, h3⟩ := hx
  exact ⟨h1, ⟨b1, b2, b3, b4, b5, fun t ht => by rw [h t ht]; exact b6 t ht, b7, b8, b9⟩, h3⟩
theorem CI_k (h : CI E r G X n σ a kk nn τ cl ln lv ys st fl tb f1 f2) : kd E X = 15 := by
  obtain ⟨⟨p, q, hx⟩, -⟩ := h
  exact hx.1.1
theorem CI_fl (h : CI E r G X n σ a kk nn τ cl ln lv ys st fl tb f1 f2) : 0 ≤ fl ∧ fl ≤ 600 := by
  obtain ⟨-, hr, -, -, e, -⟩ := h
  have := hr.2.2.2.1
  rw [e] at this
  exact this
/-- a call of the reference leaves the class as it is -/
theorem CI_c (h : CI E r G X n σ a kk nn τ cl ln lv ys st fl tb f1 f2) (hG : ∀ x, x < X + 130 → G' x = G x) : CI E r G' X n σ a kk nn τ cl ln lv ys st fl tb f1 f2 := by
  have hk := CI_k h
  obtain ⟨⟨p, q, hx⟩, hr, ⟨o1, o2, o3⟩, a1, a2, a3, a4, a5⟩ := h
  refine ⟨⟨p, q, HXS_d hx fun x hxx => hG x (by omega)⟩, HXR_d hk hr fun x hxx => hG x (by omega), ⟨?_, o2, fun j hj => ?_⟩, ?_, ?_, fun j hj => ?_, ?_, ?_⟩
  · rw [hG _ (by omega)]
    exact o1
  · rw [hG _ (by omega)]
    exact o3 j hj
  · rw [hG _ (by omega)]
    exact a1
  · rw [hG _ (by omega)]
    exact a2
  · rw [hG _ (by omega)]
    exact a3 j hj
  · rw [hG _ (by omega)]
    exact a4
  · rw [hG _ (by omega)]
    exact a5
theorem shM_r (h : shM E r m) (hr : r1 m = r m) : shM E r1 m := by
  unfold shM at h ⊢
  rw [hr]
  exact h
/-- a call of the class leaves the reference as it is -/
theorem RI_c (h : RI E r G L m n σ a N Sg cl ln lv ys st fl tb f1 f2) (hG : ∀ x, m ≤ x → G' x = G x) (hr : r1 m = r m) : RI E r1 G' L m n σ a N Sg cl ln lv ys st fl tb f1 f2 := by
  obtain ⟨⟨d1, d2, d3⟩, hP, ⟨l1, l2⟩, ⟨o1, o2, o3⟩, ⟨a1, a2, a3, a4, a5⟩, b1, b2, b3⟩ := h
  have em := hG m (Nat.le_refl _)
  refine ⟨⟨shM_r d1 hr, by rw [em]; exact d2, fun s hs => ⟨fun k hk => ?_, (d3 s hs).2⟩⟩, PM_c hP (hG _ (by omega)) (hG _ (by omega)) (by rw [em]), ⟨by rw [em]; exact l1, fun t ht => ?_⟩, ⟨by rw [em]; exact o1, o2, fun j hj => ?_⟩, ⟨by rw [em]; exact a1, by rw [em]; exact a2, fun j hj => ?_, by rw [em]; exact a4, by rw [em]; exact a5⟩, by rw [em]; exact b1, b2, b3⟩
  · rw [hG _ (by omega)]
    exact (d3 s hs).1 k hk
  · rw [hG _ (by omega)]
    exact l2 t ht
  · rw [hG _ (by omega)]
    exact o3 j hj
  · rw [hG _ (by omega)]
    exact a3 j hj
/-- a call of the class that only looks -/
theorem CI_lk (h : CI E r G X n σ a kk nn τ cl ln lv ys st fl tb f1 f2) (hl : lkX G G' X) (hs : G' X 5 = st') : CI E r G' X n σ a kk nn τ cl ln lv ys st' fl tb f1 f2 ∧ ∀ x, x < X ∨ X + 130 ≤ x → G' x = G x := by
  have hk := CI_k h
  obtain ⟨⟨p, q, hx⟩, hr, ⟨o1, o2, o3⟩, a1, a2, a3, a4, a5⟩ := h
  refine ⟨⟨⟨p, q, lkX_HXS hx hl⟩, lkX_HXR hk hr hl, ⟨?_, o2, fun j hj => ?_⟩, hs, ?_, fun j hj => ?_, ?_, ?_⟩, fun x hxx => hl.1 x (by omega) (by omega)⟩
  · rw [hl.1 _ (by omega) (by omega)]
    exact o1
  · rw [hl.1 _ (by omega) (by omega)]
    exact o3 j hj
  · rw [hl.1 _ (by omega) (by omega)]
    exact a2
  · rw [hl.1 _ (by omega) (by omega)]
    exact a3 j hj
  · rw [hl.1 _ (by omega) (by omega)]
    exact a4
  · rw [hl.1 _ (by omega) (by omega)]
    exact a5
theorem RI_lk (h : RI E r G L m n σ a N Sg cl ln lv ys st fl tb f1 f2) (hl : lkM G G' m) (hs : G' m 0 = st') : RI E r G' L m n σ a N Sg cl ln lv ys st' fl tb f1 f2 ∧ ∀ x, x < m → G' x = G x := by
  obtain ⟨hM, hP, ⟨l1, l2⟩, ⟨o1, o2, o3⟩, ⟨a1, a2, a3, a4, a5⟩, b1, b2, b3⟩ := h
  have j : ∀ j, j ≠ 0 → j ≠ 1 → j ≠ 12 → G' m j = G m j := hl.2.1
  have q : ∀ x, x ≠ m → x ≠ m + 1 → x ≠ m + 7 → x ≠ m + 8 → x ≠ m + 9 → G' x = G x := hl.1
  refine ⟨⟨MD_lk hM hl, PM_lk hP hl, ⟨by rw [j 8 (by decide) (by decide) (by decide)]; exact l1, fun t ht => ?_⟩, ⟨by rw [j 16 (by decide) (by decide) (by decide)]; exact o1, o2, fun i hi => ?_⟩, ⟨hs, by rw [j 18 (by decide) (by decide) (by decide)]; exact a2, fun i hi => ?_, by rw [j 19 (by decide) (by decide) (by decide)]; exact a4, by rw [j 20 (by decide) (by decide) (by decide)]; exact a5⟩, by rw [j 26 (by decide) (by decide) (by decide)]; exact b1, b2, b3⟩, fun x hx => q x (by omega) (by omega) (by omega) (by omega) (by omega)⟩
  · rw [q _ (by omega) (by omega) (by omega) (by omega) (by omega)]
    exact l2 t ht
  · rw [q _ (by omega) (by omega) (by omega) (by omega) (by omega)]
    exact o3 i hi
  · rw [q _ (by omega) (by omega) (by omega) (by omega) (by omega)]
    exact a3 i hi
/-- a call of the reference that changes sieves and keeps an act -/
theorem RI_fr {n' a' : Nat} {N' : Nat → Nat} {Sg' : Nat → Nat → Nat → Int} (h : RI E r G L m n σ a N Sg cl ln lv ys st fl tb f1 f2) (hM : MD E r G' m n' σ') (hP : PM G' m a' N' Sg') (h0 : G' m 0 = st') (hf : frM G G' m) : RI E r G' L m n' σ' a' N' Sg' cl ln lv ys st' fl tb f1 f2 ∧ ∀ x, x < m → G' x = G x := by
  obtain ⟨-, -, ⟨l1, l2⟩, ⟨o1, o2, o3⟩, ⟨a1, a2, a3, a4, a5⟩, b1, b2, b3⟩ := h
  have j : ∀ j, j ≠ 0 → j ≠ 1 → j ≠ 6 → j ≠ 7 → j ≠ 12 → G' m j = G m j := hf.2
  have q : ∀ x, x ≠ m → x ≠ m + 1 → x ≠ m + 3 → x ≠ m + 4 → x ≠ m + 7 → x ≠ m + 8 → x ≠ m + 9 → G' x = G x := hf.1
  refine ⟨⟨hM, hP, ⟨by rw [j 8 (by decide) (by decide) (by decide) (by decide) (by decide)]; exact l1, fun t ht => ?_⟩, ⟨by rw [j 16 (by decide) (by decide) (by decide) (by decide) (by decide)]; exact o1, o2, fun i hi => ?_⟩, ⟨h0, by rw [j 18 (by decide) (by decide) (by decide) (by decide) (by decide)]; exact a2, fun i hi => ?_, by rw [j 19 (by decide) (by decide) (by decide) (by decide) (by decide)]; exact a4, by rw [j 20 (by decide) (by decide) (by decide) (by decide) (by decide)]; exact a5⟩, by rw [j 26 (by decide) (by decide) (by decide) (by decide) (by decide)]; exact b1, b2, b3⟩, fun x hx => q x (by omega) (by omega) (by omega) (by omega) (by omega) (by omega) (by omega)⟩
  · rw [q _ (by omega) (by omega) (by omega) (by omega) (by omega) (by omega) (by omega)]
    exact l2 t ht
  · rw [q _ (by omega) (by omega) (by omega) (by omega) (by omega) (by omega) (by omega)]
    exact o3 i hi
  · rw [q _ (by omega) (by omega) (by omega) (by omega) (by omega) (by omega) (by omega)]
    exact a3 i hi
/-- a call of the class that changes sieves and keeps an act -/
theorem CI_fr {p' q' : Nat → Nat} {n' a' : Nat} {kk' nn' : Nat → Int} {τ' : Nat → Nat → Int} (h : CI E r G X n σ a kk nn τ cl ln lv ys st fl tb f1 f2) (hx : HXS E r' G' X p' q' n' σ' a' kk' nn' τ') (hr : HXR E G' X cl ln lv) (hR : frR r r' (X + 37)) (h5 : G' X 5 = st') (hf : ∀ x, x < X ∨ (X < x ∧ x < X + 37) ∨ X + 120 < x → G' x = G x) : CI E r' G' X n' σ' a' kk' nn' τ' cl ln lv ys st' fl tb f1 f2 ∧ ∀ x, x < X ∨ X + 130 ≤ x → G' x = G x ∧ r' x = r x := by
  obtain ⟨-, -, ⟨o1, o2, o3⟩, a1, a2, a3, a4, a5⟩ := h
  refine ⟨⟨⟨p', q', hx⟩, hr, ⟨by rw [hf _ (by omega)]; exact o1, o2, fun j hj => ?_⟩, h5, by rw [hf _ (by omega)]; exact a2, fun j hj => ?_, by rw [hf _ (by omega)]; exact a4, by rw [hf _ (by omega)]; exact a5⟩, fun x hxx => ⟨hf x (by omega), hR x (by omega) (by omega)⟩⟩
  · rw [hf _ (by omega)]
    exact o3 j hj
  · rw [hf _ (by omega)]
    exact a3 j hj
theorem PM_n {N' : Nat → Nat} {Sg' : Nat → Nat → Nat → Int} (hP : PM G m a N Sg) (h : ∀ c, c < a → N' c = N c ∧ Sg' c = Sg c) : PM G m a N' Sg' := ⟨hP.1, fun c hc => by rw [(h c hc).1, (h c hc).2]; exact hP.2 c hc⟩
/-- the past behind one more act -/
def puN {α : Type} (a : Nat) (f : Nat → α) (v w : α) : Nat → α := fun c => if c = kpA a then w else kpN a f v c
theorem puN_t {α : Type} {f : Nat → α} {v w : α} : puN a f v w (kpA a) = w := if_pos rfl
theorem puN_l {α : Type} {f : Nat → α} {v w : α} {c : Nat} (h : c < kpA a) : puN a f v w c = kpN a f v c := if_neg (by omega)
theorem ACR_push {n' : Nat} {k0 s0 : Int} {t0 : Nat → Int} (ha : a ≤ 8) (hN : N a = n) (hS : Sg a = σ) (h : ACR a kk nn τ N Sg) (h1 : AC1 k0 s0 t0 n σ n' σ') : ACR (kpA a) (kpN a kk k0) (kpN a nn s0) (kpN a τ t0) (puN a N n n') (puN a Sg σ σ') := by
  intro c hc
  rw [puN_l hc, puN_l hc]
  by_cases h8 : a = 8
  · subst h8
    have hc8 : c < 8 := hc
    have e8 : kpA 8 = 8 := rfl
    by_cases c7 : c = 7
    · subst c7
      have e1 : puN 8 N n n' (7 + 1) = n' := if_pos rfl
      have e2 : puN 8 Sg σ σ' (7 + 1) = σ' := if_pos rfl
      rw [e1, e2]
      exact h1
    · have e1 : ∀ {α : Type} (f : Nat → α) (v : α), kpN 8 f v c = f (c + 1) := fun f v => if_neg c7
      have e2 : ∀ {α : Type} (f : Nat → α) (v : α), kpN 8 f v (c + 1) = if c + 1 = 7 then v else f (c + 1 + 1) := fun f v => rfl
      rw [puN_l (by rw [e8]; omega), puN_l (by rw [e8]; omega), e1, e1, e1, e1, e1, e2, e2]
      have q := h (c + 1) (by omega)
      by_cases c6 : c + 1 = 7
      · rw [if_pos c6, if_pos c6]
        have e3 : c + 1 + 1 = 8 := by omega
        rw [e3, hN, hS] at q
        exact q
      · rw [if_neg c6, if_neg c6]
        exact q
  · have eA : kpA a = a + 1 := if_neg h8
    rw [eA] at hc
    have e1 : ∀ {α : Type} (f : Nat → α) (v : α) (c : Nat), kpN a f v c = if c = a then v else f c := fun f v c => by
      unfold kpN
      rw [if_neg h8]
    by_cases ca : c = a
    · subst ca
      have e2 : puN c N n n' (c + 1) = n' := by rw [← eA]; exact puN_t
      have e3 : puN c Sg σ σ' (c + 1) = σ' := by rw [← eA]; exact puN_t
      rw [e2, e3, e1, e1, e1, e1, e1, if_pos rfl, if_pos rfl, if_pos rfl, if_pos rfl, if_pos rfl]
      exact h1
    · rw [puN_l (by omega), puN_l (by omega), e1, e1, e1, e1, e1, e1, e1, if_neg ca, if_neg ca, if_neg ca, if_neg ca, if_neg ca]
      have q := h c (by omega)
      by_cases c1 : c + 1 = a
      · rw [if_pos c1, if_pos c1]
        rw [c1, hN, hS] at q
        exact q
      · rw [if_neg c1, if_neg c1]
        exact q
theorem PM_push {n' : Nat} (hP : PM G m (kpA a) (kpN a N n) (kpN a Sg σ)) : PM G m (kpA a) (puN a N n n') (puN a Sg σ σ') := PM_n hP fun c hc => ⟨puN_l hc, puN_l hc⟩
theorem AC1_set {i : Nat} {v : Nat → Int} {s : Int} (hs : 0 ≤ s ∧ s < n) : AC1 0 s (σ s.toNat) n σ n (fun t => if t = s.toNat then v else σ t) := Or.inr (Or.inl ⟨rfl, s.toNat, by omega, by omega, rfl, rfl, fun u _ hu => if_neg hu⟩)
theorem AC1_make {v : Nat → Int} {s : Int} {t0 : Nat → Int} : AC1 1 s t0 n σ (n + 1) (fun t => if t = n then v else σ t) := Or.inl ⟨rfl, rfl, fun u hu => if_neg (by omega)⟩
theorem AC1_drop {s : Int} (hs : 0 ≤ s ∧ s < n) : AC1 2 s (σ s.toNat) n σ (n - 1) (rmS σ s.toNat) := by
  refine Or.inr (Or.inr ⟨rfl, s.toNat, by omega, by omega, by omega, fun u hu => ?_⟩)
  unfold inS rmS
  by_cases h1 : u = s.toNat
  · rw [if_pos h1, h1]
  · rw [if_neg h1]
    by_cases h2 : u < s.toNat
    · rw [if_pos h2, if_pos h2]
    · rw [if_neg h2, if_neg (by omega), show u - 1 + 1 = u by omega]
end IV
/-- all between two calls -/
def IV (E : AE) (r : Nat → Nat → Option Nat) (G L : Nat → Nat → Int) (X m : Nat) : Prop := ∃ (n : Nat) (σ : Nat → Nat → Int) (a : Nat) (kk nn : Nat → Int) (τ : Nat → Nat → Int) (cl : Nat) (ln : Nat → Nat) (lv : Nat → Nat → Int) (ys : List Int) (st fl : Int) (tb : Nat → Int) (f1 f2 : Int) (N : Nat → Nat) (Sg : Nat → Nat → Nat → Int), CI E r G X n σ a kk nn τ cl ln lv ys st fl tb f1 f2 ∧ RI E r G L m n σ a N Sg cl ln lv ys st fl tb f1 f2 ∧ N a = n ∧ Sg a = σ ∧ ACR a kk nn τ N Sg ∧ (∀ j, j < ys.length → 0 ≤ ys.getD j 0 ∧ ys.getD j 0 ≤ 1000)
