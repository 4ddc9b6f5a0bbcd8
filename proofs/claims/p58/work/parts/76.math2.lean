/-! The first greatest; how many unlike; runs, progressions. -/
def amL (f g : Int → Int) (e : Int) : Nat → Int → Int → Int → Int × Int
  | 0, _, mo, b => (mo, b)
  | k + 1, i, mo, b => if i < e then (if f i ≤ mo then amL f g e k (i + 1) mo b else amL f g e k (i + 1) (f i) (g i)) else (mo, b)
/-- the first of the greatest -/
def fgP (f : Int → Int) (e q : Int) : Prop := 1 ≤ q ∧ q < e ∧ (∀ p, 1 ≤ p → p < e → f p ≤ f q) ∧ ∀ p, 1 ≤ p → p < q → f p < f q
theorem fgP_u {f : Int → Int} {e q q' : Int} (h : fgP f e q) (h' : fgP f e q') : q = q' := by
  obtain ⟨a1, a2, a3, a4⟩ := h
  obtain ⟨b1, b2, b3, b4⟩ := h'
  rcases Int.lt_trichotomy q q' with z | z | z
  · have h1 := b4 q a1 z
    have h2 := a3 q' b1 b2
    omega
  · exact z
  · have h1 := a4 q' b1 z
    have h2 := b3 q a1 a2
    omega
theorem amL_go (f g : Int → Int) (e : Int) : ∀ (k : Nat) (i q : Int), e ≤ i + k → i ≤ e → fgP f i q → ∃ q', fgP f e q' ∧ amL f g e k i (f q) (g q) = (f q', g q') := by
  intro k
  induction k with
  | zero =>
    intro i q h1 h2 h
    have e0 : i = e := by omega
    rw [e0] at h
    exact ⟨q, h, rfl⟩
  | succ k ih =>
    intro i q h1 h2 h
    unfold amL
    by_cases c : i < e
    · rw [if_pos c]
      obtain ⟨a1, a2, a3, a4⟩ := h
      by_cases c2 : f i ≤ f q
      · rw [if_pos c2]
        refine ih (i + 1) q (by omega) (by omega) ⟨a1, by omega, fun p p1 p2 => ?_, a4⟩
        by_cases z : p = i
        · rw [z]
          exact c2
        · exact a3 p p1 (by omega)
      · rw [if_neg c2]
        refine ih (i + 1) i (by omega) (by omega) ⟨by omega, by omega, fun p p1 p2 => ?_, fun p p1 p2 => ?_⟩
        · by_cases z : p = i
          · rw [z]
            exact Int.le_refl _
          · have := a3 p p1 (by omega)
            omega
        · have := a3 p p1 p2
          omega
    · rw [if_neg c]
      have e0 : i = e := by omega
      rw [e0] at h
      exact ⟨q, h, rfl⟩
theorem amL_fg (f g : Int → Int) (e b0 : Int) (hf : 1 ≤ f 1) (he : 1 < e) {k : Nat} (hk : e ≤ 1 + k) {q : Int} (hq : fgP f e q) : amL f g e k 1 0 b0 = (f q, g q) := by
  cases k with
  | zero => omega
  | succ k =>
    unfold amL
    rw [if_pos he, if_neg (by omega)]
    obtain ⟨q', h1, h2⟩ := amL_go f g e k 2 1 (by omega) (by omega) ⟨by omega, by omega, fun p p1 p2 => by rw [show p = 1 by omega]; exact Int.le_refl _, fun p p1 p2 => by omega⟩
    have : (1 : Int) + 1 = 2 := rfl
    rw [this, h2, fgP_u h1 hq]
theorem reL_sp (g : Int → Int) (n by_ : Int) : ∀ (k : Nat) (i : Int), n ≤ i + k → i ≤ n → i ≤ reL g n by_ k i ∧ reL g n by_ k i ≤ n ∧ (∀ j, i ≤ j → j < reL g n by_ k i → g j = by_) ∧ (reL g n by_ k i < n → g (reL g n by_ k i) ≠ by_) := by
  intro k
  induction k with
  | zero => intro i h1 h2; unfold reL; exact ⟨by omega, by omega, fun j j1 j2 => by omega, fun h => by omega⟩
  | succ k ih =>
    intro i h1 h2
    unfold reL
    by_cases c : i < n ∧ g i = by_
    · rw [if_pos c]
      obtain ⟨a1, a2, a3, a4⟩ := ih (i + 1) (by omega) (by omega)
      refine ⟨by omega, a2, fun j j1 j2 => ?_, a4⟩
      by_cases z : j = i
      · rw [z]
        exact c.2
      · exact a3 j (by omega) j2
    · rw [if_neg c]
      exact ⟨by omega, h2, fun j j1 j2 => by omega, fun h z => c ⟨h, z⟩⟩
/-- what the class's walk over the runs keeps -/
def lrI (g u : Int → Int) (by_ b mo ln i : Int) : Prop := (1 ≤ ln ∧ ln ≤ i - 1) ∧ (∀ j, i - ln ≤ j → j < i - 1 → g j = by_) ∧ (1 ≤ i - 1 - ln → g (i - 1 - ln) ≠ by_) ∧ (1 ≤ mo ∧ 1 ≤ b ∧ b + mo ≤ i) ∧ (∀ j, b ≤ j → j < b + mo - 1 → g j = by_) ∧ (∀ p, 1 ≤ p → p ≤ i - 1 → min (u p) (i - 1) - p + 1 ≤ mo) ∧ ∀ p, 1 ≤ p → p < b → min (u p) (i - 1) - p + 1 < mo
theorem lrL_go (g u : Int → Int) (n by_ : Int) (hu : ∀ p, 1 ≤ p → p ≤ n → (p ≤ u p ∧ u p ≤ n) ∧ (∀ j, p ≤ j → j < u p → g j = by_) ∧ (u p < n → g (u p) ≠ by_)) : ∀ (k : Nat) (b mo ln i : Int), n + 1 ≤ i + k → 2 ≤ i → i ≤ n + 1 → lrI g u by_ b mo ln i → ∃ b' mo' ln', lrL g n by_ k b mo ln i = b' ∧ lrI g u by_ b' mo' ln' (n + 1) := by
  intro k
  induction k with
  | zero =>
    intro b mo ln i h1 h2 h3 h
    have e : i = n + 1 := by omega
    rw [e] at h
    exact ⟨b, mo, ln, rfl, h⟩
  | succ k ih =>
    intro b mo ln i h1 h2 h3 h
    unfold lrL
    by_cases c : i ≤ n
    · rw [if_pos c]
      obtain ⟨l1, l2, l3, m1, m2, m3, m4⟩ := h
      -- the run that ends at i
      have key : ∀ ln', ln' = (if g (i - 1) = by_ then ln + 1 else 1) → (1 ≤ ln' ∧ ln' ≤ i) ∧ (∀ j, i + 1 - ln' ≤ j → j < i → g j = by_) ∧ (1 ≤ i - ln' → g (i - ln') ≠ by_) := by
        intro ln' he
        by_cases z : g (i - 1) = by_
        · rw [if_pos z] at he
          refine ⟨by omega, fun j j1 j2 => ?_, fun y => ?_⟩
          · by_cases y : j = i - 1
            · rw [y]
              exact z
            · exact l2 j (by omega) (by omega)
          · rw [show i - ln' = i - 1 - ln by omega]
            exact l3 (by omega)
        · rw [if_neg z] at he
          refine ⟨by omega, fun j j1 j2 => by omega, fun y => ?_⟩
          rw [he]
          exact z
      obtain ⟨k1, k2, k3⟩ := key _ rfl
      generalize (if g (i - 1) = by_ then ln + 1 else 1) = ln' at k1 k2 k3 ⊢
      -- a run that reaches i begins no earlier
      have reach : ∀ p, 1 ≤ p → p ≤ i → i ≤ u p → i + 1 - ln' ≤ p := by
        intro p p1 p2 p3
        obtain ⟨-, q2, -⟩ := hu p p1 (by omega)
        rcases Int.lt_or_le p (i + 1 - ln') with z | z
        · exact absurd (q2 (i - ln') (by omega) (by omega)) (k3 (by omega))
        · exact z
      by_cases c2 : mo < ln'
      · rw [if_pos c2]
        refine ih _ _ _ _ (by omega) (by omega) (by omega) ⟨by omega, fun j j1 j2 => k2 j (by omega) (by omega), fun y => ?_, by omega, fun j j1 j2 => k2 j (by omega) (by omega), fun p p1 p2 => ?_, fun p p1 p2 => ?_⟩
        · rw [show i + 1 - 1 - ln' = i - ln' by omega]
          exact k3 (by omega)
        · rcases Int.lt_or_le (u p) i with z | z
          · by_cases y : p = i
            · have := (hu i (by omega) c).1
              rw [y] at z ⊢
              omega
            · have := m3 p p1 (by omega)
              omega
          · have := reach p p1 (by omega) z
            omega
        · rcases Int.lt_or_le (u p) i with z | z
          · have := m3 p p1 (by omega)
            omega
          · have := reach p p1 (by omega) z
            omega
      · rw [if_neg c2]
        refine ih _ _ _ _ (by omega) (by omega) (by omega) ⟨by omega, fun j j1 j2 => k2 j (by omega) (by omega), fun y => ?_, by omega, m2, fun p p1 p2 => ?_, fun p p1 p2 => ?_⟩
        · rw [show i + 1 - 1 - ln' = i - ln' by omega]
          exact k3 (by omega)
        · rcases Int.lt_or_le (u p) i with z | z
          · by_cases y : p = i
            · have := (hu i (by omega) c).1
              rw [y] at z ⊢
              omega
            · have := m3 p p1 (by omega)
              omega
          · have := reach p p1 (by omega) z
            omega
        · rcases Int.lt_or_le (u p) i with z | z
          · have := m4 p p1 p2
            omega
          · have := reach p p1 (by omega) z
            omega
    · rw [if_neg c]
      have e : i = n + 1 := by omega
      rw [e] at h
      exact ⟨b, mo, ln, rfl, h⟩
section SG
variable {σ τ : Nat → Int} {p d e f n m x k g w q : Int}
theorem reZ_sp (w : WF σ) (hp : 1 ≤ p ∧ p ≤ szS σ) : (p ≤ reZ σ p ∧ reZ σ p ≤ szS σ) ∧ (∀ j, p ≤ j → j < reZ σ p → gAS σ j = σ 2) ∧ (reZ σ p < szS σ → gAS σ (reZ σ p) ≠ σ 2) := by
  have hz := szS_b w
  obtain ⟨a1, a2, a3, a4⟩ := reL_sp (gAS σ) (szS σ) (σ 2) 600 p (by omega) hp.2
  exact ⟨⟨a1, a2⟩, a3, a4⟩
theorem lrZ_fg (w : WF σ) : fgP (fun p => reZ σ p - p + 1) (szS σ + 1) (lrZ σ) := by
  have hz := szS_b w
  have w2 := w.2.2.1
  have g0 : gAS σ (1 - 1) = -1 := gAS_no (by omega)
  have hu := fun p p1 p2 => reZ_sp w (p := p) ⟨p1, p2⟩
  have e1 : lrZ σ = lrL (gAS σ) (szS σ) (σ 2) 599 1 1 1 2 := by
    unfold lrZ
    have h1' : ¬ gAS σ (1 - 1) = σ 2 := by rw [g0]; omega
    have el : (if gAS σ (1 - 1) = σ 2 then (0 : Int) + 1 else 1) = 1 := if_neg h1'
    rw [lrL, if_pos hz.1, el, if_pos (show (0 : Int) < 1 by decide)]
    rfl
  obtain ⟨b, mo, ln, h1, h2⟩ := lrL_go (gAS σ) (reZ σ) (szS σ) (σ 2) hu 599 1 1 1 2 (by omega) (by omega) (by omega) ⟨by omega, fun j j1 j2 => by omega, fun y => by omega, by omega, fun j j1 j2 => by omega, fun p p1 p2 => by
    have := (hu p p1 (by omega)).1
    omega, fun p p1 p2 => by omega⟩
  rw [e1, h1]
  obtain ⟨l1, l2, l3, m1, m2, m3, m4⟩ := h2
  have hb := hu b (by omega) (by omega)
  have hbm : b + mo - 1 ≤ reZ σ b := by
    rcases Int.lt_or_le (reZ σ b) (b + mo - 1) with z | z
    · exact absurd (m2 (reZ σ b) (by omega) z) (hb.2.2 (by omega))
    · exact z
  have hbe : reZ σ b - b + 1 = mo := by
    have := m3 b (by omega) (by omega)
    omega
  refine ⟨by omega, by omega, fun p p1 p2 => ?_, fun p p1 p2 => ?_⟩
  · show reZ σ p - p + 1 ≤ reZ σ b - b + 1
    have h3 := m3 p p1 (by omega)
    have h4 := (hu p p1 (by omega)).1
    omega
  · show reZ σ p - p + 1 < reZ σ b - b + 1
    have h3 := m4 p p1 p2
    have h4 := (hu p p1 (by omega)).1
    omega
theorem run_m (w : WF σ) (b0 : Int) : amL (fun p => reZ σ p - p + 1) (fun p => p) (szS σ + 1) 601 1 0 b0 = (reZ σ (lrZ σ) - lrZ σ + 1, lrZ σ) := by
  have hz := szS_b w
  have h1 := (reZ_sp w (p := 1) (by omega)).1
  exact amL_fg (fun p => reZ σ p - p + 1) (fun p => p) (szS σ + 1) b0 (by show 1 ≤ reZ σ 1 - 1 + 1; omega) (by omega) (by omega) (lrZ_fg w)
end SG
