/-! The house while the law makes rows; its state; a feed. -/
section BS
variable {E E' : AE} {G G' L L' : Nat → Nat → Int} {r r' : Nat → Nat → Option Nat} {h : AH} {Q : AH → Value → Prop} {X n a cl : Nat} {p q : Nat → Nat} {σ τ : Nat → Nat → Int} {kk nn : Nat → Int} {ln : Nat → Nat} {lv : Nat → Nat → Int} {st fl f1 f2 v1 v2 v3 v4 v5 : Int} {tb : Nat → Int}
theorem shX_x (hx : shX E r X) (xt : XT E E') (hX : X + 130 ≤ E.1) (hf : ∀ x, x < X + 130 → r' x = r x) : shX E' r' X := by
  obtain ⟨k0, ⟨r0, r1, r2, r3, r4⟩, hD, hP, hS, hT⟩ := hx
  have kr := hD.2.2.2.2.2.2
  have e := hf X (by omega)
  refine ⟨(xt.kd (by omega)).1.trans k0, ⟨by rw [e]; exact r0, by rw [e]; exact r1, by rw [e]; exact r2, by rw [e]; exact r3, by rw [e]; exact r4⟩, shD_m hD (fun x a b => ⟨xt.2.2 x (by omega), hf x (by omega)⟩) xt.2.1 (fun i hi => hf _ (by have := (kr i hi).1; omega)), shP_m hP (fun x a b => ⟨xt.2.2 x (by omega), hf x (by omega)⟩), shS_m hS (fun x a b => xt.2.2 x (by omega)) (hf _ (by omega)), ?_⟩
  have kw := xt.kd (x := X + 129) (by omega)
  exact ⟨kw.1.trans hT.1, kw.2.trans hT.2⟩
theorem HXS_x (hx : HXS E r G X p q n σ a kk nn τ) (xt : XT E E') (hX : X + 130 ≤ E.1) (hf : ∀ x, x < X + 130 → G' x = G x ∧ r' x = r x) : HXS E' r' G' X p q n σ a kk nn τ := by
  obtain ⟨h1, h2, h3⟩ := hx
  refine ⟨shX_x h1 xt hX fun x hx => (hf x hx).2, ?_, rgS_c (fun x x1 x2 => (hf x (by omega)).1) h3⟩
  have h4 : SHF E' r' G (X + 37) p q n σ a kk nn τ := by
    obtain ⟨hH, hp, hq, rest⟩ := h2
    refine ⟨shH_m hH fun x x1 x2 => ⟨xt.2.2 x (by omega), (hf x (by omega)).2⟩, ⟨fun t ht => ?_, hp.2⟩, ⟨fun t ht => ?_, hq.2⟩, rest⟩
    · rw [(hf (X + 37 + 1) (by omega)).2]
      exact hp.1 t ht
    · rw [(hf (X + 37 + 5) (by omega)).2]
      exact hq.1 t ht
  exact SHF_c h4 fun x x1 x2 => (hf x (by omega)).1
theorem HXR_x (hr : HXR E G X cl ln lv) (xt : XT E E') (hX : X + 130 ≤ E.1) (hf : ∀ x, x < X + 130 → G' x = G x) : HXR E' G' X cl ln lv := by
  obtain ⟨h1, h2, h3, h4, h5⟩ := hr
  refine ⟨LH_c h1 fun x x1 x2 => hf x (by omega), fun i hi => ?_, ?_, ?_, ⟨fun t ht => rgS_c (fun x y1 y2 => hf x (by omega)) (h5.1 t ht), fun t ht => rgL_c (hf _ (by omega)) (hf _ (by omega)) (h5.2 t ht)⟩⟩
  · obtain ⟨⟨⟨a1, a2⟩, a3, a4, a5, a6⟩, b, c⟩ := h2 i hi
    have k1 := xt.kd (x := E.2.2 i) (by omega)
    have k2 := xt.kd (x := E.2.2 (3000 + i)) (by omega)
    rw [xt.2.1]
    refine ⟨⟨⟨k1.1.trans a1, by rw [hf _ (by omega)]; exact a2⟩, k2.1.trans a3, k2.2.trans a4, a5, fun j hj => ?_⟩, b, c⟩
    rw [hf _ (by omega)]
    exact a6 j hj
  · rw [hf _ (by omega)]
    exact h3
  · rw [hf _ (by omega)]
    exact h4
/-- the house's state -/
def HI (E : AE) (r : Nat → Nat → Option Nat) (G : Nat → Nat → Int) (X n : Nat) (σ : Nat → Nat → Int) (a : Nat) (kk nn : Nat → Int) (τ : Nat → Nat → Int) (cl : Nat) (ln : Nat → Nat) (lv : Nat → Nat → Int) (st fl : Int) (tb : Nat → Int) (f1 f2 : Int) : Prop := ((∃ p q, HXS E r G X p q n σ a kk nn τ) ∧ HXR E G X cl ln lv) ∧ X + 130 ≤ E.1 ∧ G X 5 = st ∧ G (X + 1) 1 = fl ∧ (∀ j : Nat, (j : Int) < fl → G (X + 1 + 1) j = tb j) ∧ G (X + 1) 3 = f1 ∧ G (X + 1) 4 = f2
theorem HI_x (h : HI E r G X n σ a kk nn τ cl ln lv st fl tb f1 f2) (xt : XT E E') (hf : ∀ x, x < X + 130 → G' x = G x ∧ r' x = r x) : HI E' r' G' X n σ a kk nn τ cl ln lv st fl tb f1 f2 := by
  obtain ⟨⟨⟨p, q, h1⟩, h2⟩, h3, h4, h5, h6, h7, h8⟩ := h
  have q := xt.1
  rw [← (hf X (by omega)).1] at h4
  rw [← (hf (X + 1) (by omega)).1] at h5 h7 h8
  rw [← (hf (X + 1 + 1) (by omega)).1] at h6
  exact ⟨⟨⟨p, _, HXS_x h1 xt h3 hf⟩, HXR_x h2 xt h3 fun x hx => (hf x hx).1⟩, by omega, h4, h5, h6, h7, h8⟩
theorem btS_bb (y n : Int) (h : y ∈ btS n) : 0 ≤ y ∧ y ≤ 255 := by
  have h1 : y ∈ [n / 2 ^ 24 % 256, n / 2 ^ 16 % 256, n / 2 ^ 8 % 256, n / 2 ^ 0 % 256] := h
  simp only [List.mem_cons, List.not_mem_nil, or_false] at h1
  rcases h1 with h | h | h | h <;> subst h <;> omega
theorem getD_bb {l : List Int} (h : ∀ y, y ∈ l → 0 ≤ y ∧ y ≤ 255) (j : Nat) : 0 ≤ l.getD j 0 ∧ l.getD j 0 ≤ 255 := by
  by_cases c : j < l.length
  · rw [List.getD_eq_getElem?_getD, List.getElem?_eq_getElem c]
    exact h _ (List.getElem_mem c)
  · rw [List.getD_eq_getElem?_getD, List.getElem?_eq_none (by omega)]
    decide
theorem h_feed (h : HI E r G X n σ a kk nn τ cl ln lv st fl tb f1 f2) (hz : fl + 20 ≤ 600) : ∃ G', (∀ x, x < X ∨ X + 130 ≤ x → G' x = G x) ∧ HI E r G' X n σ a kk nn τ cl ln lv st (fl + 20) (fun j => if (j : Int) < fl then tb j else (btS v1 ++ btS v2 ++ btS v3 ++ btS v4 ++ btS v5).getD (j - fl.toNat) 0) f1 f2 ∧ ∀ Q, RK MX9_feed 0 [.ref X, .int (zi v1), .int (zi v2), .int (zi v3), .int (zi v4), .int (zi v5)] [] (0, 0) (E, zg G, zk L, r) Q = Q (E, zg G', zk L, r) (.int (zi (fl + 20))) := by
  obtain ⟨⟨⟨p, q, h1⟩, h2⟩, h3, h4, h5, h6, h7, h8⟩ := h
  have e1 := fun Q => o_feed (L := L) (Q := Q) (v := v1) (b := v2) (c := v3) (d := v4) (e := v5) h1 h2
  obtain ⟨g0, g1, g2, g3, g5⟩ := id h2
  rw [h5] at e1 g3
  obtain ⟨bs, hbs⟩ : ∃ bs, bs = btS v1 ++ btS v2 ++ btS v3 ++ btS v4 ++ btS v5 := ⟨_, rfl⟩
  have hl : bs.length = 20 := by
    rw [hbs]
    rfl
  have hb : ∀ y, y ∈ bs → 0 ≤ y ∧ y ≤ 255 := fun y hy => by
    rw [hbs] at hy
    simp only [List.mem_append] at hy
    rcases hy with (((k | k) | k) | k) | k <;> exact btS_bb _ _ k
  rw [← hbs] at e1 ⊢
  obtain ⟨G1, hG1⟩ : ∃ g, g = wrL G (X + 1) 1 (X + 1 + 1) 600 bs := ⟨_, rfl⟩
  rw [← hG1] at e1
  have w1 : ∀ x, x ≠ X + 1 → x ≠ X + 1 + 1 → G1 x = G x := fun x b c => by
    rw [hG1]
    funext j
    show (if x = X + 1 ∧ j = 1 then _ else if x = X + 1 + 1 ∧ _ then _ else G x j) = G x j
    rw [if_neg (fun k => b k.1), if_neg (fun k => c k.1)]
  have wd : ∀ j, j ≠ 1 → G1 (X + 1) j = G (X + 1) j := fun j hj => by
    rw [hG1]
    show (if X + 1 = X + 1 ∧ j = 1 then _ else if X + 1 = X + 1 + 1 ∧ _ then _ else G (X + 1) j) = _
    rw [if_neg (fun k => hj k.2), if_neg (fun k => absurd k.1 (by omega))]
  have gf : G1 (X + 1) 1 = fl + 20 := by
    rw [hG1]
    show (if X + 1 = X + 1 ∧ 1 = 1 then G (X + 1) 1 + (bs.length : Int) else _) = _
    rw [if_pos ⟨rfl, rfl⟩, h5, hl]
    rfl
  have gt : ∀ j : Nat, G1 (X + 1 + 1) j = if fl ≤ j ∧ (j : Int) < fl + 20 ∧ j < 600 then bs.getD (j - fl.toNat) 0 else G (X + 1 + 1) j := fun j => by
    rw [hG1]
    show (if X + 1 + 1 = X + 1 ∧ j = 1 then _ else if X + 1 + 1 = X + 1 + 1 ∧ G (X + 1) 1 ≤ j ∧ (j : Int) < G (X + 1) 1 + bs.length ∧ j < 600 then bs.getD (j - (G (X + 1) 1).toNat) 0 else G (X + 1 + 1) j) = _
    rw [if_neg (by omega), h5, hl]
    simp only [true_and]
    rfl
  refine ⟨G1, fun x hx => w1 x (by omega) (by omega), ⟨⟨⟨p, q, HXS_c h1 fun x hx => w1 x (by omega) (by omega)⟩, ⟨LH_c g0 fun x x1 x2 => w1 x (by omega) (by omega), kStr_c g1 fun x x1 x2 => w1 x (by omega) (by omega), fun i => ?_, by rw [gf]; omega, ⟨fun t ht => rgS_c (fun x y1 y2 => w1 x (by omega) (by omega)) (g5.1 t ht), fun t ht => rgL_c (w1 _ (by omega) (by omega)) (w1 _ (by omega) (by omega)) (g5.2 t ht)⟩⟩⟩, h3, by rw [w1 X (by omega) (by omega)]; exact h4, gf, fun j hj => ?_, by rw [wd 3 (by decide)]; exact h7, by rw [wd 4 (by decide)]; exact h8⟩, fun Q => ?_⟩
  · rw [gt]
    split
    · exact getD_bb hb _
    · exact g2 i
  · rw [gt]
    show _ = if (j : Int) < fl then tb j else bs.getD (j - fl.toNat) 0
    by_cases c : (j : Int) < fl
    · rw [if_neg (by omega), if_pos c]
      exact h6 j c
    · rw [if_pos (by omega), if_neg c]
  · rw [e1, if_pos hz]
end BS
