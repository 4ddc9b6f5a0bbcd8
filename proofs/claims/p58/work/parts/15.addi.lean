/-! Functional part: sums, progressions; two sieves; lists. -/
section BS
variable {E : AE} {G L : Nat → Nat → Int} {r : Nat → Nat → Option Nat} {h : AH} {Q : AH → Value → Prop} {S S2 : Nat} {i v n p x kk d e f w m : Int}
def pbC (G : Nat → Nat → Int) (S : Nat) (d w : Int) : Int := if w = 0 then (prL (nA G S) (fun x => hasX G S (x + d)) (G S 13 + 1) 601 1 0 (-1) (-1)).1 else if w = 1 then (prL (nA G S) (fun x => hasX G S (x + d)) (G S 13 + 1) 601 1 0 (-1) (-1)).2.1 else (prL (nA G S) (fun x => hasX G S (x + d)) (G S 13 + 1) 601 1 0 (-1) (-1)).2.2
def wsC (G : Nat → Nat → Int) (S : Nat) (n : Int) : Int := wsL (nA G S) n 600 1 (G S 13) 0
theorem wsL_b (A : Int → Int) (n : Int) : ∀ (k : Nat) (lo hi w : Int), w ≤ wsL A n k lo hi w ∧ wsL A n k lo hi w ≤ w + k := by
  intro k
  induction k with
  | zero => intro lo hi w; unfold wsL; omega
  | succ k ih =>
    intro lo hi w
    unfold wsL
    have h1 := ih (lo + 1) hi (w + 1)
    have h2 := ih lo (hi - 1) (w + 1)
    have h3 := ih (lo + 1) hi w
    have h4 := ih lo (hi - 1) w
    repeat' split
    all_goals omega
theorem mdL_b (A : Int → Int) (z n : Int) : ∀ (k : Nat) (p : Int), p ≤ mdL A z n k p ∧ (mdL A z n k p ≤ p ∨ mdL A z n k p ≤ z) := by
  intro k
  induction k with
  | zero => intro p; unfold mdL; omega
  | succ k ih =>
    intro p
    unfold mdL
    have := ih (p + 1)
    split <;> omega
def fnC (G : Nat → Nat → Int) (S : Nat) (m : Int) : Int := fiL (hasX G S) (nA G S) (G S 13) (2 * nA G S (G S 13)) m 300000 1 (2 * nA G S 1)
theorem pgL_b (P : Int → Bool) (n d : Int) : ∀ (k : Nat) (l x : Int), l ≤ pgL P n d k l x ∧ pgL P n d k l x ≤ l + k := by
  intro k
  induction k with
  | zero => intro l x; unfold pgL; omega
  | succ k ih =>
    intro l x
    unfold pgL
    have := ih (l + 1) (x + d)
    split <;> omega
theorem hasX_b (hg : rgS G S) {x : Int} (h : hasX G S x = true) : 0 ≤ x ∧ x ≤ 100000 := by
  obtain ⟨g0, g1, g2, g3, g4, g6, g7, g8, g13, ga1, ga2, ga3, ga4, ga5⟩ := id hg
  unfold hasX hX at h
  have h1 : sK G S (iX G S x) = 2147483647 := of_decide_eq_true h
  have h2 : 0 ≤ iX G S x := by
    unfold sK at h1
    split at h1
    · omega
    · omega
  unfold iX at h2
  split at h2
  · omega
  · rename_i h3
    split at h2
    · omega
    · rename_i h4
      have h5 : (x - G S 1) / G S 2 < 600 := by omega
      have h6 := (Int.ediv_lt_iff_lt_mul (show 0 < G S 2 by omega)).mp h5
      omega
def plC (G : Nat → Nat → Int) (S : Nat) (x d : Int) : Int := pgL (hasX G S) (G S 13) d 600 1 (x + d)
theorem plC_b (G : Nat → Nat → Int) (S : Nat) (x d : Int) : 1 ≤ plC G S x d ∧ plC G S x d ≤ 601 := by
  have := pgL_b (hasX G S) (G S 13) d 600 1 (x + d)
  unfold plC
  omega
def lpC (G : Nat → Nat → Int) (S : Nat) (d : Int) : Int := lpL (nA G S) (hasX G S) (G S 13) d 600 1 (nA G S 1) 0
end BS
