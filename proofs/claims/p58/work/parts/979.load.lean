/-! The law's load. -/
/-- the text as the reader sees it -/
def tx (u : List Int) (i : Int) : Int := if 0 ≤ i ∧ i < u.length then u.getD i.toNat 0 else -1
section BS
variable {E E' : AE} {G G' L L' : Nat → Nat → Int} {r r' : Nat → Nat → Option Nat} {h : AH} {Q : AH → Value → Prop} {X n a b s w cl cs cl' : Nat} {p q : Nat → Nat} {σ σ' τ : Nat → Nat → Int} {kk nn : Nat → Int} {ln ln' : Nat → Nat} {lv lv' : Nat → Nat → Int} {st fl f1 f2 x c : Int} {tb tb' : Nat → Int} {u : List Int}
theorem h_load (h : HI E r G X n σ a kk nn τ cl ln lv st fl (bt u) f1 f2) (hl : (u.length : Int) ≤ fl) (hu : u.length ≤ 200) (hR : ∀ f g, rdAll (tx u) u.length f g = .ok (cs, cl', σ', ln', lv')) : ∃ G', (∀ x, x < X ∨ X + 130 ≤ x → G' x = G x) ∧ HI E r G' X cs σ' 0 kk nn τ cl' ln' lv' 0 0 (fun _ => 0) 0 (-1) ∧ ∀ Q, RK MX9_load 0 [.ref X, .int (zi (u.length : Int))] [] (0, 0) (E, zg G, zk L, r) Q = Q (E, zg G', zk L, r) (.int (zi (cs : Int))) := by
  obtain ⟨⟨⟨p, q, h1⟩, h2⟩, h3, h4, h5, h6, h7, h8⟩ := h
  have eB : tpB G (X + 1) u.length = tx u := by
    funext i
    unfold tpB tx
    by_cases c : 0 ≤ i ∧ i < (u.length : Int)
    · rw [if_pos ⟨c.1, c.2, by omega⟩, if_pos c, h6 _ (by omega)]
      exact if_pos (by omega)
    · rw [if_neg (fun k => c ⟨k.1, k.2.1⟩), if_neg c]
  rcases o_load (L := L) h1 h2 (k := (u.length : Int)) (by rw [h5]; omega) with ⟨cs2, cl2, σ2, ln2, lv2, G1, c1, x1, x2, ⟨s1, s2, s3, s4, s5⟩, fr, e1⟩ | ⟨kf, T', G1, c1, -⟩
  · rw [eB, hR] at c1
    have c2 := Except.ok.inj c1
    have d1 := congrArg Prod.fst c2
    have d2 := congrArg (fun z => z.2.1) c2
    have d3 := congrArg (fun z => z.2.2.1) c2
    have d4 := congrArg (fun z => z.2.2.2.1) c2
    have d5 := congrArg (fun z => z.2.2.2.2) c2
    have d1 : cs = cs2 := d1
    have d2 : cl' = cl2 := d2
    have d3 : σ' = σ2 := d3
    have d4 : ln' = ln2 := d4
    have d5 : lv' = lv2 := d5
    subst d1 d2 d3 d4 d5
    exact ⟨G1, fun x hx => fr x (by omega), ⟨⟨⟨p, q, x1⟩, x2⟩, h3, s1, s2, fun j hj => absurd hj (by omega), s3, s4⟩, e1⟩
  · rw [eB, hR] at c1
    exact absurd c1 (by intro k; cases k)
theorem load_ok (h : HI E r G X n σ a kk nn τ cl ln lv st 0 tb f1 f2) (hs : STR E r G s w) (ht : TXT E G w u) (hX : X + 130 ≤ s ∧ X + 130 ≤ w) (hsE : s < E.1) (hwE : w < E.1) (hu : u.length ≤ 180) (hR : ∀ f g, rdAll (tx u) u.length f g = .ok (cs, cl', σ', ln', lv')) : ∃ E' G' L' r', HI E' r' G' X cs σ' 0 kk nn τ cl' ln' lv' 0 0 (fun _ => 0) 0 (-1) ∧ XT E E' ∧ (∀ x, x < E.1 → (x < X ∨ X + 130 ≤ x) → G' x = G x ∧ r' x = r x) ∧ ∀ Q, RK ML_load 0 [.ref X, .ref s] [] (0, 0) (E, zg G, zk L, r) Q = Q (E', zg G', zk L', r') (.int (zi (cs : Int))) := by
  have h0 : HI E r G X n σ a kk nn τ cl ln lv st ((20 * 0 : Nat) : Int) (bt u) f1 f2 := HI_t h fun j hj => absurd hj (by omega)
  obtain ⟨E1, G1, L1, r1, fl1, y1, y2, y3, y4, y5⟩ := fd_all hu hX 9 0 E G L r jk jk c2_jk c2_jk (by omega) (by decide) hs ht hsE hwE h0
  obtain ⟨g1, g2⟩ := y4 s hsE (Or.inr hX.1)
  obtain ⟨g3, g4⟩ := y4 w hwE (Or.inr hX.2)
  have hs1 : STR E1 r1 G1 s w := STR_x hs y3 ⟨hsE, hwE⟩ g2 g1
  have ht1 : TXT E1 G1 w u := ⟨(y3.kd hwE).2.trans ht.1, fun j hj => by rw [g3]; exact ht.2 j hj⟩
  have eL := fun Q => cJ_length (L := L1) (Q := Q) hs1
  obtain ⟨G2, e2, hH, e3⟩ := h_load (L := L1) y1 y2.1 (by omega) hR
  refine ⟨E1, G2, L1, r1, hH, y3, fun x hx hc => ⟨(e2 x hc).trans (y4 x hx hc).1, (y4 x hx hc).2⟩, fun Q => ?_⟩
  have eF : ∀ Q, RK ML_feed 0 [.ref X, .ref s, jk, jk, jk] [] (0, 0) (E, zg G, zk L, r) Q = Q (E1, zg G1, zk L1, r1) .null := fun Q => by
    rw [fL_feed_0, fL_feed_1 (c2_ref _)]
    exact y5 Q
  rw [fL_load_0, fL_load_1, fL_load_2 (by decide) (by decide), eF, fL_load_5, fL_load_6, fL_load_7 (by decide) (by decide) hs1.1, eL, ht1.1, fL_load_10 (by decide) (by decide) (HI_h y1), e3, fL_load_13]
end BS
