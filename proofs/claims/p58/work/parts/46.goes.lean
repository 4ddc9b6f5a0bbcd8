/-! The parser goes on. -/
def SE (T : Int × Int × Int × Int) : Prop := T.2.1 ≤ T.2.2.1
def GE (T T1 : Int × Int × Int × Int) : Prop := SE T → T.2.1 ≤ T1.2.1 ∧ SE T1
section GO
variable {B : Int → Int} {n lo hi v e fr by_ ma ki cn k : Int} {T T1 T2 T4 : Int × Int × Int × Int} {f g : Nat → Int} {c cs cl i : Nat} {σ : Nat → Int}
theorem GE.rf (T : Int × Int × Int × Int) : GE T T := fun h => ⟨Int.le_refl _, h⟩
theorem GE.trans (h1 : GE T T1) (h2 : GE T1 T2) : GE T T2 := fun h => by
  have a := h1 h
  have b := h2 a.2
  exact ⟨by omega, b.2⟩
theorem nxT_go (B : Int → Int) (n e : Int) : e ≤ (nxT B n e).2.1 ∧ SE (nxT B n e) := by
  have b1 := spL_b (fun i => blk (B i)) n 600 e
  refine ⟨b1.1, ?_⟩
  unfold SE nxT
  show bgT B n e ≤ (tkT B n (bgT B n e)).2.1
  generalize bgT B n e = s
  have b2 := spL_b (fun i => ltr (B i)) n 600 s
  have b3 := spL_b (fun i => dgt (B i)) n 600 s
  unfold tkT
  by_cases q1 : B s = -1
  · rw [if_pos q1]
    exact Int.le_refl _
  · rw [if_neg q1]
    by_cases q2 : B s = 59
    · rw [if_pos q2]
      show s ≤ s + 1
      omega
    · rw [if_neg q2]
      by_cases q3 : ltr (B s) = true
      · rw [if_pos q3]
        exact b2.1
      · rw [if_neg q3]
        by_cases q4 : dgt (B s) = true
        · rw [if_pos q4]
          exact b3.1
        · rw [if_neg q4]
          exact Int.le_refl _
theorem nx_GE : GE T (nxT B n T.2.2.1) := fun h => by
  have := nxT_go B n T.2.2.1
  unfold SE at h
  exact ⟨by omega, this.2⟩
theorem rdNum_GE (h : rdNum B n lo hi T = .ok (v, T1)) : GE T T1 := by
  unfold rdNum at h
  split at h
  · split at h
    · cases h
      exact nx_GE
    · cases h
  · cases h
theorem rdWord_GE (h : rdWord B n i T = .ok T1) : GE T T1 := by
  unfold rdWord at h
  split at h
  · cases h
    exact nx_GE
  · cases h
theorem rdSign_GE (h : rdSign B n T = .ok T1) : GE T T1 := by
  unfold rdSign at h
  split at h
  · cases h
    exact nx_GE
  · cases h
theorem rdName_GE (h : rdName B n f g c T = .ok T1) : GE T T1 := by
  unfold rdName at h
  split at h
  · split at h
    · cases h
    · cases h
      exact nx_GE
  · cases h
theorem rdFix_GE {m g : Int} (h : rdFix B n T = .ok (g, m, T1)) : GE T T1 := by
  unfold rdFix at h
  split at h
  · cases h
  · rename_i h1
    split at h
    · cases h
    · rename_i h2
      split at h
      · cases h
      · rename_i h3
        cases h
        exact ((rdNum_GE h1).trans (rdWord_GE h2)).trans (rdNum_GE h3)
theorem rdTL_GE : ∀ (k i : Nat) (g : Nat → Int) (T : Int × Int × Int × Int) (c : Nat) (g' : Nat → Int) (T1 : Int × Int × Int × Int), rdTL B n k i g T = .ok (c, g', T1) → GE T T1 := by
  intro k
  induction k with
  | zero =>
    intro i g T c g' T1 h
    cases h
    exact GE.rf _
  | succ k ih =>
    intro i g T c g' T1 h
    unfold rdTL at h
    split at h
    · cases h
      exact GE.rf _
    · split at h
      · cases h
      · split at h
        · cases h
        · rename_i h1
          exact (rdNum_GE h1).trans (ih _ _ _ _ _ _ h)
theorem rdLL_GE : ∀ (k i : Nat) (g : Nat → Int) (le_ : Int) (T : Int × Int × Int × Int) (c : Nat) (g' : Nat → Int) (T1 : Int × Int × Int × Int), rdLL B n k i g le_ T = .ok (c, g', T1) → GE T T1 := by
  intro k
  induction k with
  | zero =>
    intro i g le_ T c g' T1 h
    cases h
    exact GE.rf _
  | succ k ih =>
    intro i g le_ T c g' T1 h
    unfold rdLL at h
    split at h
    · cases h
      exact GE.rf _
    · split at h
      · cases h
      · split at h
        · cases h
        · rename_i h1
          exact (rdNum_GE h1).trans (ih _ _ _ _ _ _ _ h)
theorem rdLaw_GE (h : rdLaw B n ki T = .ok (cn, g, T1)) : GE T T1 := by
  unfold rdLaw at h
  split at h
  · split at h
    · cases h
    · rename_i h1
      cases h
      exact rdFix_GE h1
  · split at h
    · split at h
      · cases h
      · rename_i h1
        cases h
        exact rdTL_GE _ _ _ _ _ _ _ h1
    · cases h
      exact GE.rf _
theorem rdTail_GE (h : rdTail B n fr by_ ma ki T = .ok (σ, T4)) : GE T T4 := by
  unfold rdTail at h
  split at h
  · cases h
  · rename_i h1
    split at h
    · cases h
    · rename_i h2
      cases h
      exact (rdLaw_GE h1).trans (rdSign_GE h2)
theorem rdHead_GE (h : rdHead B n f g c T = .ok (fr, by_, ma, ki, T4)) : GE T T4 := by
  unfold rdHead at h
  split at h
  · cases h
  · rename_i h1
    split at h
    · cases h
    · rename_i h2
      split at h
      · cases h
      · rename_i h3
        split at h
        · cases h
        · rename_i h4
          split at h
          · cases h
          · rename_i h5
            split at h
            · cases h
            · rename_i h6
              split at h
              · cases h
              · rename_i h7
                split at h
                · cases h
                · cases h
                  exact ((((((((rdName_GE h1).trans (rdWord_GE h2)).trans (rdNum_GE h3)).trans (rdWord_GE h4)).trans (rdNum_GE h5)).trans (rdWord_GE h6)).trans (rdNum_GE h7))).trans nx_GE
theorem rdSieve_go (h : rdSieve B n f g c cs T = .ok (σ, T4)) : T.2.2.1 ≤ T4.2.1 ∧ SE T4 := by
  unfold rdSieve at h
  have hn := nxT_go B n T.2.2.1
  split at h
  · cases h
  · split at h
    · cases h
    · rename_i h1
      have := ((rdHead_GE h1).trans (rdTail_GE h)) hn.2
      exact ⟨by omega, this.2⟩
theorem rdList_go {g' : Nat → Int} (h : rdList B n f g c cl T = .ok (i, g', T4)) : T.2.2.1 ≤ T4.2.1 ∧ SE T4 := by
  unfold rdList at h
  have hn := nxT_go B n T.2.2.1
  split at h
  · cases h
  · split at h
    · cases h
    · rename_i h1
      split at h
      · cases h
      · rename_i h2
        split at h
        · cases h
        · rename_i h3
          cases h
          have := (((rdName_GE h1).trans (rdLL_GE _ _ _ _ _ _ _ _ h2)).trans (rdSign_GE h3)) hn.2
          exact ⟨by omega, this.2⟩
end GO
