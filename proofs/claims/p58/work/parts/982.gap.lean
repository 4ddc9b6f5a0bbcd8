/-! The law's gap of the next round. -/
/-- the gap that the law's cell tells of a sieve's round -/
def gpL (kind rr m v : Int) (f : Nat → Int) : Int := if kind = 1 then rr + 1 else if kind = 4 then (if rr ≤ 1 + pt (v / 64) 6 then 2 + pt (v / 8) 9 else 0) else if kind = 5 then (if rr ≤ 3 then (if rr = 1 then 2 + pt (v / 8) 9 else if rr = 2 then 2 + pt (v / 64) 30 else 2 + pt (v / 256) 5) else 0) else if rr < m then f rr.toNat else 0
section BS
variable {E E' : AE} {G G' L L' : Nat → Nat → Int} {r r' : Nat → Nat → Option Nat} {h : AH} {Q : AH → Value → Prop} {X n a b cl m k1 k2 : Nat} {σ σ' τ : Nat → Nat → Int} {st st' s x y w k g p c v : Int}
theorem gap_sel {rr : Int} (kb : kd E b = 1) (hl : le E b ≤ 1000) (hr : 1 ≤ rr ∧ rr ≤ 1000) (hv : I32 v) (kind : Int) (hk : 0 ≤ kind ∧ kind ≤ 5) : ∀ Q, RK ML_gapOf 6 [.ref X, .int (zi s), .ref b, .int (zi rr), .int (zi v)] [.int (zi kind)] (0, 0) (E, zg G, zk L, r) Q = Q (E, zg G, zk L, r) (.int (zi (gpL kind rr (le E b) v (G b)))) := by
  intro Q
  have eP := fun x n (hn : 0 < n ∧ n < 1000) h Q => c_part (x := x) (n := n) (h := h) (Q := Q) hn
  have p1 := pt_b (v / 64) 6 (by decide)
  have k9 : (1 ≤ kd E b ∧ kd E b ≤ 9) ∧ kd E b ≠ 3 ∧ kd E b ≠ 4 := by omega
  have f6 : ∀ Q, RK ML_gapOf 136 [.ref X, .int (zi s), .ref b, .int (zi rr), .int (zi v)] [] (0, 0) (E, zg G, zk L, r) Q = Q (E, zg G, zk L, r) (.int (zi (if rr < (le E b : Int) then G b rr.toNat else 0))) := fun Q => by
    rw [fL_gapOf_136, fL_gapOf_137, fL_gapOf_138 k9, fL_gapOf_139 (by omega) (by omega)]
    by_cases c : rr < (le E b : Int)
    · rw [if_pos c, if_pos c, fL_gapOf_142, fL_gapOf_143, fL_gapOf_144 kb (by omega) (by omega), fL_gapOf_145, fL_gapOf_149]
    · rw [if_neg c, if_neg c, fL_gapOf_148, fL_gapOf_149]
  have hcase : kind = 0 ∨ kind = 1 ∨ kind = 2 ∨ kind = 3 ∨ kind = 4 ∨ kind = 5 := by omega
  rcases hcase with q | q | q | q | q | q <;> subst q
  · rw [fL_gapOf_6_d (by decide) (Or.inl (by decide)), f6]
    rfl
  · rw [fL_gapOf_6_1, fL_gapOf_40, fL_gapOf_41, fL_gapOf_42, fL_gapOf_43]
    rfl
  · rw [fL_gapOf_6_2, f6]
    rfl
  · rw [fL_gapOf_6_3, f6]
    rfl
  · have eg : gpL 4 rr (le E b) v (G b) = if rr ≤ 1 + pt (v / 64) 6 then 2 + pt (v / 8) 9 else 0 := rfl
    rw [eg, fL_gapOf_6_4, fL_gapOf_44, fL_gapOf_45, fL_gapOf_46, fL_gapOf_48, fL_gapOf_50, sh6 hv, fL_gapOf_51, fL_gapOf_53, eP _ _ (by decide), fL_gapOf_56, fL_gapOf_57 (by omega) (by omega)]
    by_cases c : rr ≤ 1 + pt (v / 64) 6
    · rw [if_pos c, if_pos c, fL_gapOf_60, fL_gapOf_61, fL_gapOf_63, fL_gapOf_64, sh3 hv, fL_gapOf_65, fL_gapOf_67, eP _ _ (by decide), fL_gapOf_70, fL_gapOf_71, fL_gapOf_75]
    · rw [if_neg c, if_neg c, fL_gapOf_74, fL_gapOf_75]
  · have eg : gpL 5 rr (le E b) v (G b) = if rr ≤ 3 then (if rr = 1 then 2 + pt (v / 8) 9 else if rr = 2 then 2 + pt (v / 64) 30 else 2 + pt (v / 256) 5) else 0 := rfl
    rw [eg, fL_gapOf_6_5, fL_gapOf_76, fL_gapOf_77, fL_gapOf_78 (by omega) (by decide)]
    by_cases c : rr ≤ 3
    · rw [if_pos c, if_pos c, fL_gapOf_85, fL_gapOf_86, fL_gapOf_87 (by omega) (by decide)]
      by_cases c1 : rr = 1
      · rw [if_pos c1, if_pos c1, fL_gapOf_90, fL_gapOf_91, fL_gapOf_93, fL_gapOf_94, sh3 hv, fL_gapOf_95, fL_gapOf_97, eP _ _ (by decide), fL_gapOf_100, fL_gapOf_101, fL_gapOf_135]
      · rw [if_neg c1, if_neg c1, fL_gapOf_104, fL_gapOf_105, fL_gapOf_106 (by omega) (by decide)]
        by_cases c2 : rr = 2
        · rw [if_pos c2, if_pos c2, fL_gapOf_109, fL_gapOf_110, fL_gapOf_112, fL_gapOf_114, sh6 hv, fL_gapOf_115, fL_gapOf_117, eP _ _ (by decide), fL_gapOf_120, fL_gapOf_121, fL_gapOf_135]
        · rw [if_neg c2, if_neg c2, fL_gapOf_124, fL_gapOf_125, fL_gapOf_127, fL_gapOf_129, sh8 hv, fL_gapOf_130, fL_gapOf_131, eP _ _ (by decide), fL_gapOf_134, fL_gapOf_135]
    · rw [if_neg c, if_neg c, fL_gapOf_81, fL_gapOf_82, fL_gapOf_135]
theorem gapOf_ok {rr : Int} (hW : WK E r G X n σ st) (hs : 0 ≤ s ∧ s < n) (kb : kd E b = 1) (hb : X + 130 ≤ b) (hl : le E b ≤ 1000) (hr : 1 ≤ rr ∧ rr ≤ 1000) (hv : I32 v) : ∃ G', FX X G G' ∧ WK E r G' X n σ 0 ∧ ∀ Q, RK ML_gapOf 0 [.ref X, .int (zi s), .ref b, .int (zi rr), .int (zi v)] [] (0, 0) (E, zg G, zk L, r) Q = Q (E, zg G', zk L, r) (.int (zi (gpL (σ s.toNat 0) rr (le E b) v (G b)))) := by
  obtain ⟨hk, hX, hn, hWF⟩ := WK_k hW
  have wf := hWF s.toNat (by omega)
  obtain ⟨G0, f0, hW0, e0⟩ := W_sieve (L := L) (w := 0) hW hs (by decide)
  have ev : prpZ (σ s.toNat) 0 = σ s.toNat 0 := rfl
  rw [ev] at e0
  have e2 := gap_sel (X := X) (s := s) (G := G0) (L := L) (r := r) kb hl hr hv (σ s.toNat 0) wf.1
  rw [f0 b (Or.inr hb)] at e2
  refine ⟨G0, f0, hW0, fun Q => ?_⟩
  rw [fL_gapOf_0, fL_gapOf_1, fL_gapOf_2, fL_gapOf_3 hk, e0, e2]
end BS
