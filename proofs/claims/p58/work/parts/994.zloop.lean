/-! The law's loop over cells: rounds, strikes by hand. -/
section PU
variable {σ : Nat → Int} {v : Int}
theorem smS_end : ∀ (k : Nat) (σ : Nat → Int), WF σ → WF (smS k σ).1 ∧ (ngS (smS k σ).1 = -1 ∨ (smS k σ).1 4 = σ 4 + k) ∧ (0 ≤ (smS k σ).2 ∧ (smS k σ).2 ≤ k) ∧ (1 ≤ k → ngS σ ≠ -1 → 1 ≤ (smS k σ).2) ∧ (ngS σ = -1 → (smS k σ).1 = σ) := by
  intro k
  induction k with
  | zero => exact fun σ w => ⟨w, Or.inr (Int.add_zero _).symm, ⟨Int.le_refl _, Int.le_refl _⟩, fun h => by omega, fun _ => rfl⟩
  | succ k ih =>
    intro σ w
    rw [smS]
    by_cases q : ngS σ = -1
    · rw [if_pos q]
      exact ⟨w, Or.inl q, ⟨Int.le_refl _, by show (0 : Int) ≤ _; omega⟩, fun _ h => absurd q h, fun _ => rfl⟩
    · rw [if_neg q]
      obtain ⟨a1, a2, a3, -, -⟩ := ih (swS σ (ngS σ)) (swS_WF w q)
      have e4 : swS σ (ngS σ) 4 = σ 4 + 1 := rfl
      refine ⟨a1, ?_, ?_, fun _ _ => ?_, fun h => absurd h q⟩
      · rcases a2 with a2 | a2
        · exact Or.inl a2
        · right
          show (smS k (swS σ (ngS σ))).1 4 = _
          rw [a2, e4]
          omega
      · show 0 ≤ (smS k (swS σ (ngS σ))).2 + 1 ∧ (smS k (swS σ (ngS σ))).2 + 1 ≤ ((k + 1 : Nat) : Int)
        omega
      · show 1 ≤ (smS k (swS σ (ngS σ))).2 + 1
        omega
theorem smS_600 (w : WF σ) : WF (smS 600 σ).1 ∧ ngS (smS 600 σ).1 = -1 ∧ (0 ≤ (smS 600 σ).2 ∧ (smS 600 σ).2 ≤ 600) ∧ (ngS σ ≠ -1 → 1 ≤ (smS 600 σ).2) ∧ (ngS σ = -1 → (smS 600 σ).1 = σ) := by
  obtain ⟨a1, a2, a3, a4, a5⟩ := smS_end 600 σ w
  have h4 := (WF_5 a1).2.2
  have h0 := w.2.2.2.2.1.1
  refine ⟨a1, ?_, a3, a4 (by decide), a5⟩
  rcases a2 with a2 | a2
  · exact a2
  · omega
theorem q_st {k c d N : Nat} (h : k + c * (d + 1) ≤ N) : k + c ≤ N ∧ k + c + c * d ≤ N := by
  rw [Nat.mul_succ] at h
  have e : k + c + c * d = k + (c * d + c) := by rw [Nat.add_assoc, Nat.add_comm c (c * d)]
  refine ⟨Nat.le_trans ?_ h, by rw [e]; exact h⟩
  exact Nat.add_le_add_left (Nat.le_add_left _ _) _
theorem q_st2 {k k' c d : Nat} (h : k' ≤ k + c + c * d) : k' ≤ k + c * (d + 1) := by
  rw [Nat.mul_succ, Nat.add_comm (c * d) c, ← Nat.add_assoc]
  exact h
/-- a sieve's law is still the cell's -/
def LKS (σ : Nat → Int) (v : Int) : Prop := σ 0 = pt v 6 ∧ CR σ v
theorem LKS_eq {τ : Nat → Int} (h : LKS σ v) (e : ∀ k, k = 0 ∨ (7 ≤ k ∧ k ≤ 10) → τ k = σ k) : LKS τ v := by
  obtain ⟨h1, h2, h3⟩ := h
  unfold LKS CR
  rw [e 0 (Or.inl rfl), e 7 (by omega), e 8 (by omega), e 9 (by omega), e 10 (by omega)]
  exact ⟨h1, h2, h3⟩
theorem LKS_sw (w : WF σ) (h : LKS σ v) : LKS (sw1 σ) v := LKS_eq h fun k hk => swS_lo σ _ (by omega) (by omega) (by omega) w
theorem LKS_hd (h : LKS σ v) (i : Nat) : LKS (hdS σ i) v := LKS_eq h fun k hk => by
  unfold hdS
  rw [if_neg (by omega), if_neg (by omega), if_neg (by omega)]
theorem LKS_sm : ∀ (k : Nat) (σ : Nat → Int), WF σ → LKS σ v → LKS (smS k σ).1 v := by
  intro k
  induction k with
  | zero => exact fun σ _ h => h
  | succ k ih =>
    intro σ w h
    rw [smS]
    by_cases q : ngS σ = -1
    · rw [if_pos q]
      exact h
    · rw [if_neg q]
      exact ih _ (swS_WF w q) (LKS_sw w h)
end PU
section BS
variable {E E' : AE} {G G' L L' : Nat → Nat → Int} {r r' : Nat → Nat → Option Nat} {h : AH} {Q : AH → Value → Prop} {X n a b w m k1 k2 : Nat} {σ σ' : Nat → Nat → Int} {st st' s x y k g p c v : Int} {l2 l6 l7 l8 : Value}
/-- the frame of a stretch of the law that works at sieve s -/
def FRM (E : AE) (G : Nat → Nat → Int) (r : Nat → Nat → Option Nat) (E' : AE) (G' : Nat → Nat → Int) (r' : Nat → Nat → Option Nat) (X : Nat) (σ σ' : Nat → Nat → Int) (s : Int) : Prop := XT E E' ∧ (∀ x, x < E.1 → (x < X ∨ X + 130 ≤ x) → G' x = G x ∧ r' x = r x) ∧ ∀ t, t ≠ s.toNat → σ' t = σ t
theorem FRM.rf (E : AE) (G : Nat → Nat → Int) (r : Nat → Nat → Option Nat) (X : Nat) (σ : Nat → Nat → Int) (s : Int) : FRM E G r E G r X σ σ s := ⟨XT.rf E, fun _ _ _ => ⟨rfl, rfl⟩, fun _ _ => rfl⟩
theorem FRM.trans {E1 : AE} {G1 : Nat → Nat → Int} {r1 : Nat → Nat → Option Nat} {σ1 : Nat → Nat → Int} (h1 : FRM E G r E1 G1 r1 X σ σ1 s) (h2 : FRM E1 G1 r1 E' G' r' X σ1 σ' s) : FRM E G r E' G' r' X σ σ' s :=
  ⟨h1.1.trans h2.1, fun x hx hc => ⟨(h2.2.1 x (Nat.lt_of_lt_of_le hx h1.1.1) hc).1.trans (h1.2.1 x hx hc).1, (h2.2.1 x (Nat.lt_of_lt_of_le hx h1.1.1) hc).2.trans (h1.2.1 x hx hc).2⟩, fun t ht => (h2.2.2 t ht).trans (h1.2.2 t ht)⟩
theorem FRM_f (hf : FX X G G') : FRM E G r E G' r X σ σ s := ⟨XT.rf E, fun x _ hc => ⟨hf x hc, rfl⟩, fun _ _ => rfl⟩
theorem FRM_c {ρ : Nat → Int} (hf : FX X G G') (hr : FR X r r') : FRM E G r E G' r' X σ (chS σ s ρ) s := ⟨XT.rf E, fun x _ hc => ⟨hf x hc, hr x hc⟩, fun t ht => if_neg ht⟩
theorem FRM_s (hs : SCR E G b) (hb : b < X) (hX : X + 130 ≤ E.1) (hF : FRM E G r E' G' r' X σ σ' s) : SCR E' G' b := (SCR_x hs hF.1 (hF.2.1 b (by omega) (Or.inl hb)).1).1
theorem law_hand (hW : WK E r G X n σ st) (hs : 0 ≤ s ∧ s < n) (hS : SCR E G b) (hb : b < X) (hL : LKS (σ s.toNat) v) {z : Nat} (hz : z < le E b) (hz9 : z < 9) (g1 : k1 ≤ 600000) (g2 : k2 ≤ 7302250) : ∃ G' r' σ' st', WK E r' G' X n σ' st' ∧ LKS (σ' s.toNat) v ∧ FRM E G r E G' r' X σ σ' s ∧ ∀ Q, RK ML_law 151 [.ref b, .ref X, l2, .int (zi s), .int (zi v), .ref w, .int (zi (z : Int)), l7, l8] [] (k1, k2) (E, zg G, zk L, r) Q = RK ML_law 204 [.ref b, .ref X, l2, .int (zi s), .int (zi v), .ref w, .int (zi (z : Int)), l7, l8] [] (k1, k2) (E, zg G', zk L, r') Q := by
  obtain ⟨hk, hX, hn4, hWF⟩ := WK_k hW
  have wf := hWF s.toNat (by omega)
  have sb := szS_b wf
  have kb : kd E b = 1 ∨ kd E b = 7 := Or.inr hS.1.1
  have hlb := hS.1.2.2
  have hi : inr (zi (z : Int)) (le E b) = true := zi_inr ⟨by omega, by omega⟩ (by omega)
  have hcl : (zi (z : Int)).toNatClampNeg = z := by
    rw [zi_cl ⟨by omega, by omega⟩]
    exact Int.toNat_natCast z
  obtain ⟨t, ht, et⟩ := zi_ex (zi (G b z) &&& zi 7)
  by_cases q : t = 0
  · obtain ⟨G1, f1, hW1, e1⟩ := W_sieve (L := L) (w := 4) hW hs (by decide)
    have p4 : prpZ (σ s.toNat) 4 = szS (σ s.toNat) := rfl
    rw [p4] at e1
    by_cases q1 : szS (σ s.toNat) ≤ 1
    · refine ⟨G1, r, σ, 0, hW1, hL, FRM_f f1, fun Q => ?_⟩
      rw [fL_law_151, fL_law_152, fL_law_154 kb hi, hcl, fL_law_155, fL_law_157, et, fL_law_158 ht, if_pos q, fL_law_161, fL_law_162, fL_law_163, fL_law_164 g1 g2 hk, e1, fL_law_167, fL_law_168 (by omega) (by decide), if_pos q1]
    · obtain ⟨y, hy⟩ : ∃ y, y = 1 + pt (G b z / 8) (szS (σ s.toNat)) := ⟨_, rfl⟩
      have pb := pt_b (G b z / 8) (szS (σ s.toNat)) (by omega)
      have yb : 1 ≤ y ∧ y ≤ szS (σ s.toNat) := by omega
      have G1b : G1 b = G b := f1 b (Or.inl hb)
      obtain ⟨G2, f2, hW2, e2⟩ := W_sieve (L := L) (w := 4) hW1 hs (by decide)
      rw [p4] at e2
      obtain ⟨G3, f3, hW3, e3⟩ := W_number (L := L) (y := y) hW2 hs (by omega)
      obtain ⟨i, i1, i2, i3, i4, i5, i6⟩ := nAS_ix wf yb
      have ix : iXS (σ s.toNat) (nAS (σ s.toNat) y) = i := by
        rw [i4]
        exact iXS_of wf i1
      obtain ⟨G4, r4, ⟨f4, fr4⟩, hW4, e4⟩ := W_strike (L := L) (x := nAS (σ s.toNat) y) hW3 hs ⟨by omega, by omega⟩ ix i2 (by omega)
      rw [poZ_at wf yb] at e4
      have eP := fun Q => c_part (x := G b z / 8) (n := szS (σ s.toNat)) (h := (E, zg G2, zk L, r)) (Q := Q) (by omega)
      have F := f1.trans (f2.trans (f3.trans f4))
      refine ⟨G4, r4, _, 0, hW4, by rw [chS_at]; exact LKS_hd hL i, FRM_c F fr4, fun Q => ?_⟩
      rw [fL_law_151, fL_law_152, fL_law_154 kb hi, hcl, fL_law_155, fL_law_157, et, fL_law_158 ht, if_pos q, fL_law_161, fL_law_162, fL_law_163, fL_law_164 g1 g2 hk, e1, fL_law_167, fL_law_168 (by omega) (by decide), if_neg q1]
      rw [fL_law_171, fL_law_172, fL_law_173, fL_law_174, fL_law_175, fL_law_176, fL_law_177, fL_law_179 kb hi, hcl, fL_law_180, fL_law_181, G1b, sh3 (hS.2 z), fL_law_182, fL_law_183, fL_law_184, fL_law_185 g1 g2 hk, e2, fL_law_188 g1 g2, eP, fL_law_191, ← hy, fL_law_192 g1 g2 hk, e3, fL_law_195 g1 g2 hk, e4, fL_law_198, fL_law_199 (by omega) (by decide), if_neg (by omega)]
  · refine ⟨G, r, σ, st, hW, hL, FRM.rf E G r X σ s, fun Q => ?_⟩
    rw [fL_law_151, fL_law_152, fL_law_154 kb hi, hcl, fL_law_155, fL_law_157, et, fL_law_158 ht, if_neg q]
theorem law_z (hs : 0 ≤ s ∧ s < n) (hb : b < X) (hv : I32 v) : ∀ (d z : Nat) (E : AE) (G L : Nat → Nat → Int) (r : Nat → Nat → Option Nat) (σ : Nat → Nat → Int) (st : Int) (k1 k2 : Nat), z + d = 9 → WK E r G X n σ st → SCR E G b → LKS (σ s.toNat) v → k1 + 3 * d ≤ 600000 → k2 + 1800 * d ≤ 7302250 →
    ∃ E' G' L' r' σ' st' k1' k2' zz, WK E' r' G' X n σ' st' ∧ LKS (σ' s.toNat) v ∧ FRM E G r E' G' r' X σ σ' s ∧ (k1' ≤ k1 + 3 * d ∧ k2' ≤ k2 + 1800 * d) ∧ ∀ Q, RK ML_law 125 [.ref b, .ref X, l2, .int (zi s), .int (zi v), .ref w, .int (zi (z : Int)), l7, l8] [] (k1, k2) (E, zg G, zk L, r) Q = RK ML_law 210 [.ref b, .ref X, l2, .int (zi s), .int (zi v), .ref w, .int (zi zz), l7, l8] [] (k1', k2') (E', zg G', zk L', r') Q := by
  intro d
  induction d with
  | zero =>
    intro z E G L r σ st k1 k2 hd hW hS hL g1 g2
    have k9 : (1 ≤ kd E b ∧ kd E b ≤ 9) ∧ kd E b ≠ 3 ∧ kd E b ≠ 4 := by have := hS.1.1; omega
    have hlb := hS.1.2.2
    refine ⟨E, G, L, r, σ, st, k1, k2, (z : Int), hW, hL, FRM.rf E G r X σ s, ⟨by omega, by omega⟩, fun Q => ?_⟩
    rw [fL_law_125, fL_law_127, fL_law_128 k9, fL_law_129 (by omega) (by omega)]
    by_cases q : (z : Int) < (le E b : Int)
    · rw [if_pos q, fL_law_132, fL_law_134, fL_law_136 (by omega) (by decide), if_neg (by omega)]
    · rw [if_neg q]
  | succ d ih =>
    intro z E G L r σ st k1 k2 hd hW hS hL g1 g2
    have k9 : (1 ≤ kd E b ∧ kd E b ≤ 9) ∧ kd E b ≠ 3 ∧ kd E b ≠ 4 := by have := hS.1.1; omega
    have hlb := hS.1.2.2
    obtain ⟨hk, hX, hn4, hWF⟩ := WK_k hW
    have wf := hWF s.toNat (by omega)
    by_cases q : (z : Int) < (le E b : Int)
    · obtain ⟨E1, G1, L1, r1, st1, ρ, hρ, hW1, x1, fr1, e1⟩ := isRound_ok (L := L) hW hs hL.2 hv
      have F1 : FRM E G r E1 G1 r1 X σ (chS σ s ρ) s := ⟨x1, fr1, fun t ht => if_neg ht⟩
      have hS1 := FRM_s hS hb hX F1
      have hL1 : LKS (chS σ s ρ s.toNat) v := by
        rw [chS_at]
        rcases hρ with h | ⟨-, h⟩
        · rw [h]
          exact hL
        · rw [h]
          exact LKS_sw wf hL
      obtain ⟨hk1, hX1, -, -⟩ := WK_k hW1
      have lb1 : le E1 b = le E b := (x1.kd hS.1.2.1).2
      obtain ⟨G2, r2, σ2, st2, hW2, hL2, F2, e2⟩ := law_hand (L := L1) (k1 := k1 + 3) (k2 := k2 + 1800) (l2 := l2) (l7 := l7) (l8 := l8) (w := w) hW1 hs hS1 hb hL1 (z := z) (by omega) (by omega) (q_st g1).1 (q_st g2).1
      have hS2 := FRM_s hS1 hb hX1 F2
      obtain ⟨E3, G3, L3, r3, σ3, st3, k1', k2', zz, hW3, hL3, F3, ⟨u1', u2'⟩, e3⟩ := ih (z + 1) E1 G2 L1 r2 σ2 st2 (k1 + 3) (k2 + 1800) (by omega) hW2 hS2 hL2 (q_st g1).2 (q_st g2).2
      refine ⟨E3, G3, L3, r3, σ3, st3, k1', k2', zz, hW3, hL3, F1.trans (F2.trans F3), ⟨q_st2 u1', q_st2 u2'⟩, fun Q => ?_⟩
      rw [fL_law_125, fL_law_127, fL_law_128 k9, fL_law_129 (by omega) (by omega), if_pos q, fL_law_132, fL_law_134, fL_law_136 (by omega) (by decide), if_pos (by omega), fL_law_139, fL_law_140, fL_law_141, fL_law_143 (q_st g1).1 (q_st g2).1, e1, fL_law_146 (by decide), if_neg (by decide), e2, fL_law_204 (c2_ref _), fL_law_207]
      exact e3 Q
    · refine ⟨E, G, L, r, σ, st, k1, k2, (z : Int), hW, hL, FRM.rf E G r X σ s, ⟨by omega, by omega⟩, fun Q => ?_⟩
      rw [fL_law_125, fL_law_127, fL_law_128 k9, fL_law_129 (by omega) (by omega), if_neg q]
theorem law_w {f : Int → Int} (hs : 0 ≤ s ∧ s < n) (hw : X + 130 ≤ w) (kw : kd E w = 1 ∧ le E w = 8) (hf : ∀ p, f p = nAS (smS 600 (σ s.toNat)).1 p) (g1 : k1 ≤ 600000) (g2 : k2 ≤ 7302250) : ∀ (d p : Nat) (G : Nat → Nat → Int) (st : Int), p + d = 8 → 1 ≤ p → WK E r G X n σ st → (∀ j : Nat, 1 ≤ j → j < p → G w j = f j) → ∃ G' st', WK E r G' X n σ st' ∧ (∀ x, (x < X ∨ X + 130 ≤ x) → x ≠ w → G' x = G x) ∧ (∀ j : Nat, 1 ≤ j → j < 8 → G' w j = f j) ∧ ∀ Q, RK ML_law 223 [.ref b, .ref X, l2, .int (zi s), .int (zi v), .ref w, .int (zi (p : Int)), l7, l8] [] (k1, k2) (E, zg G, zk L, r) Q = RK ML_law 248 [.ref b, .ref X, l2, .int (zi s), .int (zi v), .ref w, .int (zi 8), l7, l8] [] (k1, k2) (E, zg G', zk L, r) Q := by
  intro d
  induction d with
  | zero =>
    intro p G st hd hp hW hj
    have e : p = 8 := by omega
    subst e
    refine ⟨G, st, hW, fun x _ _ => rfl, hj, fun Q => ?_⟩
    rw [fL_law_223, fL_law_225, fL_law_227 (by decide) (by decide), if_neg (by decide)]
    rfl
  | succ d ih =>
    intro p G st hd hp hW hj
    have hk := (WK_k hW).1
    obtain ⟨G1, f1, hW1, e1⟩ := W_would (L := L) (y := (p : Int)) hW hs (by omega)
    rw [← hf] at e1
    have hb1 : G1 w = G w := f1 w (Or.inr hw)
    have hW2 := WK_x hW1 (XT.rf E) (G' := u2 G1 w p (f p)) (r' := r) fun x hx => ⟨u2_a _ _ _ _ (by omega), rfl⟩
    obtain ⟨G2, st2, c1, c2, c3, c4⟩ := ih (p + 1) _ _ (by omega) (by omega) hW2 fun j j1 j2 => by
      by_cases q : j = p
      · rw [q, u2_s]
      · rw [u2_i _ _ _ _ q, hb1]
        exact hj j j1 (by omega)
    refine ⟨G2, st2, c1, fun x hx hxb => (c2 x hx hxb).trans ((u2_a _ _ _ _ hxb).trans (f1 x hx)), c3, fun Q => ?_⟩
    have lw : (le E w : Int) = 8 := by rw [kw.2]; rfl
    rw [fL_law_223, fL_law_225, fL_law_227 (by omega) (by decide), if_pos (by omega), fL_law_230, fL_law_232, fL_law_234, fL_law_235, fL_law_236, fL_law_238 g1 g2 hk, e1, fL_law_241 kw.1 (by omega) (by omega), Int.toNat_natCast, fL_law_242 (c2_ref _), fL_law_245]
    exact c4 Q
theorem law_c {f : Int → Int} (hs : 0 ≤ s ∧ s < n) (hw : X + 130 ≤ w) (kw : kd E w = 1 ∧ le E w = 8) (hf : ∀ p, f p = nAS (σ s.toNat) p) (g1 : k1 ≤ 600000) (g2 : k2 ≤ 7302250) : ∀ (d p : Nat) (G : Nat → Nat → Int) (st : Int), p + d = 8 → 1 ≤ p → WK E r G X n σ st → (∀ j : Nat, 1 ≤ j → j < 8 → G w j = f j) → ∃ G' st', WK E r G' X n σ st' ∧ FX X G G' ∧ ∀ Q, RK ML_law 309 [.ref b, .ref X, l2, .int (zi s), .int (zi v), .ref w, l6, .int (zi x), .int (zi (p : Int))] [] (k1, k2) (E, zg G, zk L, r) Q = RK ML_law 354 [.ref b, .ref X, l2, .int (zi s), .int (zi v), .ref w, l6, .int (zi x), .int (zi 8)] [] (k1, k2) (E, zg G', zk L, r) Q := by
  have lw : (le E w : Int) = 8 := by rw [kw.2]; rfl
  intro d
  induction d with
  | zero =>
    intro p G st hd hp hW hj
    have e : p = 8 := by omega
    subst e
    refine ⟨G, st, hW, FX.rf X G, fun Q => ?_⟩
    rw [fL_law_309, fL_law_311, fL_law_313 (by decide) (by decide), if_neg (by decide)]
    rfl
  | succ d ih =>
    intro p G st hd hp hW hj
    obtain ⟨hk, hX, hn4, hWF⟩ := WK_k hW
    have wf := hWF s.toNat (by omega)
    have sb := szS_b wf
    have nb := nAS_b wf (p : Int)
    have hi : inr (zi (p : Int)) (le E w) = true := zi_inr ⟨by omega, by omega⟩ (by omega)
    have hcl : (zi (p : Int)).toNatClampNeg = p := by
      rw [zi_cl ⟨by omega, by omega⟩]
      exact Int.toNat_natCast p
    obtain ⟨G1, f1, hW1, e1⟩ := W_sieve (L := L) (w := 4) hW hs (by decide)
    have p4 : prpZ (σ s.toNat) 4 = szS (σ s.toNat) := rfl
    rw [p4] at e1
    have ev : G w p = nAS (σ s.toNat) p := by rw [hj p hp (by omega), hf]
    by_cases q : (p : Int) ≤ szS (σ s.toNat)
    · obtain ⟨G2, f2, hW2, e2⟩ := W_number (L := L) (y := (p : Int)) hW1 hs (by omega)
      obtain ⟨G3, st3, hW3, f3, e3⟩ := ih (p + 1) G2 _ (by omega) (by omega) hW2 fun j j1 j2 => by
        rw [(f1.trans f2) w (Or.inr hw)]
        exact hj j j1 j2
      refine ⟨G3, st3, hW3, f1.trans (f2.trans f3), fun Q => ?_⟩
      rw [fL_law_309, fL_law_311, fL_law_313 (by omega) (by decide), if_pos (by omega), fL_law_316, fL_law_318, fL_law_320 (Or.inl kw.1) hi, hcl, ev, fL_law_321, fL_law_323, fL_law_324, fL_law_325, fL_law_326 g1 g2 hk, e1, fL_law_329 (by omega) (by omega), if_pos q, fL_law_332, fL_law_333, fL_law_334, fL_law_336 g1 g2 hk, e2, fL_law_339, fL_law_343 (by omega) (by omega), if_pos rfl, fL_law_348 (c2_int _), fL_law_351]
      exact e3 Q
    · obtain ⟨G3, st3, hW3, f3, e3⟩ := ih (p + 1) G1 _ (by omega) (by omega) hW1 fun j j1 j2 => by
        rw [f1 w (Or.inr hw)]
        exact hj j j1 j2
      have e0 : nAS (σ s.toNat) p = -1 := nAS_no (by omega)
      refine ⟨G3, st3, hW3, f1.trans f3, fun Q => ?_⟩
      rw [fL_law_309, fL_law_311, fL_law_313 (by omega) (by decide), if_pos (by omega), fL_law_316, fL_law_318, fL_law_320 (Or.inl kw.1) hi, hcl, ev, e0, fL_law_321, fL_law_323, fL_law_324, fL_law_325, fL_law_326 g1 g2 hk, e1, fL_law_329 (by omega) (by omega), if_neg q, fL_law_342, fL_law_343 (by decide) (by decide), if_pos rfl, fL_law_348 (c2_int _), fL_law_351]
      exact e3 Q
end BS
