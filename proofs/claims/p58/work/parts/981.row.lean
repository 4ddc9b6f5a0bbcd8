/-! The law's row, what a round strikes. -/
section BS
variable {E E' : AE} {G G' L L' : Nat → Nat → Int} {r r' : Nat → Nat → Option Nat} {h : AH} {Q : AH → Value → Prop} {X n a b cl m k1 k2 : Nat} {σ σ' τ : Nat → Nat → Int} {st st' s x y w k g p c : Int}
theorem row_loop (hs : 0 ≤ s ∧ s < n) (hb : X + 130 ≤ b) (kb : kd E b = 1 ∧ le E b = m) (hm : (m : Int) = szS (σ s.toNat)) (hm2 : m ≤ 600) (g1 : k1 ≤ 1) (g2 : k2 ≤ 600) : ∀ (d p : Nat) (G : Nat → Nat → Int) (st : Int), WK E r G X n σ st → 1 ≤ p → p + d = m + 1 → (∀ j : Nat, j + 1 < p → G b j = nAS (σ s.toNat) ((j : Int) + 1)) → ∃ G' st', WK E r G' X n σ st' ∧ (∀ x, (x < X ∨ X + 130 ≤ x) → x ≠ b → G' x = G x) ∧ (∀ j : Nat, j < m → G' b j = nAS (σ s.toNat) ((j : Int) + 1)) ∧ ∀ Q, RK ML_row 11 [.ref X, .int (zi s), .ref b, .int (zi (p : Int))] [] (k1, k2) (E, zg G, zk L, r) Q = Q (E, zg G', zk L, r) (.ref b) := by
  have k9 : (1 ≤ kd E b ∧ kd E b ≤ 9) ∧ kd E b ≠ 3 ∧ kd E b ≠ 4 := by omega
  intro d
  induction d with
  | zero =>
    intro p G st hW hp hd hj
    refine ⟨G, st, hW, fun x _ _ => rfl, fun j hjm => hj j (by omega), fun Q => ?_⟩
    rw [fL_row_11, fL_row_12, fL_row_13 k9, fL_row_14 (by omega) (by omega), if_neg (by omega), fL_row_34, fL_row_35]
  | succ d ih =>
    intro p G st hW hp hd hj
    obtain ⟨G1, f1, hW1, e1⟩ := W_number (L := L) (y := (p : Int)) hW hs (by omega)
    have ep : ((p : Int) - 1).toNat = p - 1 := by omega
    have hb1 : G1 b = G b := f1 b (Or.inr hb)
    have hW2 := WK_x hW1 (XT.rf E) (G' := u2 G1 b (p - 1) (nAS (σ s.toNat) (p : Int))) (r' := r) fun x hx => ⟨u2_a _ _ _ _ (by omega), rfl⟩
    obtain ⟨G2, st2, c1, c2, c3, c4⟩ := ih (p + 1) _ _ hW2 (by omega) (by omega) fun j hj2 => by
      by_cases q : j = p - 1
      · rw [q, u2_s, show (((p - 1 : Nat) : Int)) + 1 = (p : Int) by omega]
      · rw [u2_i _ _ _ _ q, hb1]
        exact hj j (by omega)
    refine ⟨G2, st2, c1, fun x hx hxb => (c2 x hx hxb).trans ((u2_a _ _ _ _ hxb).trans (f1 x hx)), c3, fun Q => ?_⟩
    rw [fL_row_11, fL_row_12, fL_row_13 k9, fL_row_14 (by omega) (by omega), if_pos (by omega), fL_row_17, fL_row_18, fL_row_19, fL_row_20, fL_row_21, fL_row_22, fL_row_23, fL_row_24 g1 g2 (WK_k hW).1, e1, fL_row_27 kb.1 (by omega) (by omega), ep, fL_row_28 (c2_ref _), fL_row_31]
    exact c4 Q
/-- a new row of the law holds the numbers of σ -/
def RW1 (E : AE) (G : Nat → Nat → Int) (b : Nat) (σ : Nat → Int) : Prop := (kd E b = 1 ∧ b < E.1) ∧ ((le E b : Int) = szS σ ∧ le E b ≤ 600) ∧ ∀ j : Nat, j < le E b → G b j = nAS σ ((j : Int) + 1)
theorem row_ok (hW : WK E r G X n σ st) (hs : 0 ≤ s ∧ s < n) : ∃ E' G' L' r' st', WK E' r' G' X n σ st' ∧ (XT E E' ∧ E'.1 = E.1 + 1) ∧ (∀ x, x < E.1 → (x < X ∨ X + 130 ≤ x) → G' x = G x ∧ r' x = r x) ∧ RW1 E' G' E.1 (σ s.toNat) ∧ ∀ Q, RK ML_row 0 [.ref X, .int (zi s), jk, jk] [] (0, 0) (E, zg G, zk L, r) Q = Q (E', zg G', zk L', r') (.ref E.1) := by
  obtain ⟨hk, hX, hn, hWF⟩ := WK_k hW
  have wf := hWF s.toNat (by omega)
  have sb := szS_b wf
  obtain ⟨G0, f0, hW0, e0⟩ := W_sieve (L := L) (w := 4) hW hs (by decide)
  have ev : prpZ (σ s.toNat) 4 = szS (σ s.toNat) := rfl
  rw [ev] at e0
  obtain ⟨m, hm⟩ : ∃ m : Nat, m = (szS (σ s.toNat)).toNat := ⟨_, rfl⟩
  obtain ⟨E1, hE1⟩ : ∃ E1 : AE, E1 = (E.1 + 1, u1 E.2.1 E.1 (1, m), E.2.2) := ⟨_, rfl⟩
  have x1 : XT E E1 := by
    rw [hE1]
    exact ⟨Nat.le_succ _, rfl, fun x hx => v1_a _ _ _ (Nat.ne_of_lt hx)⟩
  have n1 : E1.1 = E.1 + 1 := by rw [hE1]
  have kE : kd E1 E.1 = 1 ∧ le E1 E.1 = m := by
    rw [hE1]
    exact ⟨congrArg Prod.fst (v1_s _ _ _), congrArg Prod.snd (v1_s _ _ _)⟩
  have hW1 : WK E1 (u1 r E.1 (fun _ => none)) (u1 G0 E.1 (fun _ => 0)) X n σ 0 := WK_x hW0 x1 fun x hx => ⟨v1_a _ _ _ (by omega), v1_a _ _ _ (by omega)⟩
  obtain ⟨G2, st2, c1, c2, c3, c4⟩ := row_loop (L := u1 L E.1 (fun _ => 0)) (k1 := 0 + 1) (k2 := 0 + m) hs hX kE (by omega) (by omega) (by decide) (by omega) m 1 _ _ hW1 (by decide) (by omega) (fun j hj => absurd hj (by omega))
  refine ⟨E1, G2, u1 L E.1 (fun _ => 0), u1 r E.1 (fun _ => none), st2, c1, ⟨x1, n1⟩, fun x hx hc => ⟨(c2 x hc (by omega)).trans ((v1_a _ _ _ (by omega)).trans (f0 x hc)), v1_a _ _ _ (by omega)⟩, ⟨⟨kE.1, by omega⟩, ⟨by rw [kE.2]; omega, by rw [kE.2]; omega⟩, fun j hj => c3 j (by rw [kE.2] at hj; exact hj)⟩, fun Q => ?_⟩
  rw [fL_row_0, fL_row_1, fL_row_2, fL_row_3 (by decide) (by decide) hk, e0, fL_row_6 (by omega) (by decide) (by omega), ← hm, ← hE1, fL_row_8 (c2_int _), fL_row_9, fL_row_10 (c2_ref _)]
  exact c4 Q
theorem strikes_ok {kind rr : Int} (kb : kd E b = 1) (hl : le E b ≤ 1000) (hp : 1 ≤ p ∧ p ≤ (le E b : Int)) (hr : 0 ≤ rr ∧ rr ≤ 1000) (hg : 2 ≤ g ∧ g ≤ 1000000) (hk : 0 ≤ kind ∧ kind ≤ 5) (hv : kind = 3 → 0 ≤ G b (p - 1).toNat ∧ G b (p - 1).toNat ≤ 1000000) : ∀ Q, RK ML_strikes 0 [.int (zi kind), .ref b, .int (zi rr), .int (zi g), .int (zi p)] [] (0, 0) (E, zg G, zk L, r) Q = Q (E, zg G, zk L, r) (.int (zi (if spC kind (rr - 1) p (G b (p - 1).toNat) g = true then 1 else 0))) := by
  intro Q
  have f2 : kind = 2 → spC kind (rr - 1) p (G b (p - 1).toNat) g = decide (rr + 1 < p ∧ (p - rr - 1) % g = 0) := fun q => by
    unfold spC
    rw [if_pos q, show rr - 1 + 2 = rr + 1 by omega, show p - (rr + 1) = p - rr - 1 by omega]
  have f3 : kind = 3 → spC kind (rr - 1) p (G b (p - 1).toNat) g = decide (rr + 1 < p ∧ G b (p - 1).toNat % g = 0) := fun q => by
    unfold spC
    rw [if_neg (by omega), if_pos q, show rr - 1 + 2 = rr + 1 by omega]
  have f4 : ¬ kind = 2 → ¬ kind = 3 → spC kind (rr - 1) p (G b (p - 1).toNat) g = decide (p % g = 0) := fun q q' => by
    unfold spC
    rw [if_neg q, if_neg q']
  by_cases c2 : kind = 2
  · rw [fL_strikes_0, fL_strikes_1, fL_strikes_2 (by omega) (by decide), if_pos c2, fL_strikes_5, fL_strikes_7, fL_strikes_8, fL_strikes_9, fL_strikes_10 (by omega) (by omega)]
    rw [f2 c2]
    by_cases q : p ≤ rr + 1
    · rw [if_pos q, fL_strikes_28, fL_strikes_29 (Or.inl rfl), if_neg (fun k => absurd (of_decide_eq_true k).1 (by omega))]
    · have e1 : (p - rr - 1) % g < g := Int.emod_lt_of_pos _ (by omega)
      have e0 : 0 ≤ (p - rr - 1) % g := Int.emod_nonneg _ (by omega)
      rw [if_neg q, fL_strikes_13, fL_strikes_15, fL_strikes_16, fL_strikes_17, fL_strikes_18, fL_strikes_19, fL_strikes_20 (by omega) (by omega), fL_strikes_21 (by omega)]
      by_cases z : (p - rr - 1) % g = 0
      · rw [if_pos z, fL_strikes_24, fL_strikes_25, fL_strikes_29 (Or.inr rfl), if_pos (decide_eq_true ⟨by omega, z⟩)]
      · rw [if_neg z, fL_strikes_28, fL_strikes_29 (Or.inl rfl), if_neg (fun k => z (of_decide_eq_true k).2)]
  · by_cases c3 : kind = 3
    · have hv2 := hv c3
      rw [fL_strikes_0, fL_strikes_1, fL_strikes_2 (by omega) (by decide), if_neg c2, fL_strikes_30, fL_strikes_31, fL_strikes_32 (by omega) (by decide), if_pos c3, fL_strikes_35, fL_strikes_37, fL_strikes_38, fL_strikes_39, fL_strikes_40 (by omega) (by omega)]
      rw [f3 c3]
      by_cases q : p ≤ rr + 1
      · rw [if_pos q, fL_strikes_58, fL_strikes_59 (Or.inl rfl), if_neg (fun k => absurd (of_decide_eq_true k).1 (by omega))]
      · have e1 : G b (p - 1).toNat % g < g := Int.emod_lt_of_pos _ (by omega)
        have e0 : 0 ≤ G b (p - 1).toNat % g := Int.emod_nonneg _ (by omega)
        rw [if_neg q, fL_strikes_43, fL_strikes_44, fL_strikes_46, fL_strikes_47, fL_strikes_48 kb (by omega) (by omega), fL_strikes_49, fL_strikes_50 (by omega) (by omega), fL_strikes_51 (by omega)]
        by_cases z : G b (p - 1).toNat % g = 0
        · rw [if_pos z, fL_strikes_54, fL_strikes_55, fL_strikes_59 (Or.inr rfl), if_pos (decide_eq_true ⟨by omega, z⟩)]
        · rw [if_neg z, fL_strikes_58, fL_strikes_59 (Or.inl rfl), if_neg (fun k => z (of_decide_eq_true k).2)]
    · have e1 : p % g < g := Int.emod_lt_of_pos _ (by omega)
      have e0 : 0 ≤ p % g := Int.emod_nonneg _ (by omega)
      rw [fL_strikes_0, fL_strikes_1, fL_strikes_2 (by omega) (by decide), if_neg c2, fL_strikes_30, fL_strikes_31, fL_strikes_32 (by omega) (by decide), if_neg c3, fL_strikes_60, fL_strikes_62, fL_strikes_63 (by omega) (by omega), fL_strikes_64 (by omega)]
      rw [f4 c2 c3]
      by_cases z : p % g = 0
      · rw [if_pos z, fL_strikes_67, fL_strikes_68, fL_strikes_72 (Or.inr rfl), if_pos (decide_eq_true z)]
      · rw [if_neg z, fL_strikes_71, fL_strikes_72 (Or.inl rfl), if_neg (fun k => z (of_decide_eq_true k))]
end BS
