/-! The shelf: add, remove, openAt, goBack. -/
def shR2 (r : Nat → Nat → Option Nat) (a0 s m : Nat) : Nat → Nat → Option Nat := fun a j => if a = a0 ∧ s ≤ j ∧ j < m then r a (j + 1) else r a j
def rmR (r : Nat → Nat → Option Nat) (H s n : Nat) : Nat → Nat → Option Nat := u2 (shR2 r (H + 1) s (n - 1)) (H + 1) (n - 1) (r (H + 1) s)
def rmP (p : Nat → Nat) (s n t : Nat) : Nat := if s ≤ t ∧ t < n - 1 then p (t + 1) else if t = n - 1 then p s else p t
def rmS {α : Type} (σ : Nat → α) (s t : Nat) : α := if t < s then σ t else σ (t + 1)
def opR2 (r : Nat → Nat → Option Nat) (a0 i n : Nat) : Nat → Nat → Option Nat := fun a j => if a = a0 ∧ i < j ∧ j ≤ n then r a (j - 1) else r a j
def opR (r : Nat → Nat → Option Nat) (H s n : Nat) : Nat → Nat → Option Nat := u2 (opR2 r (H + 1) s n) (H + 1) s (r (H + 1) n)
def opP (p : Nat → Nat) (s n t : Nat) : Nat := if t = s then p n else if s < t ∧ t ≤ n then p (t - 1) else p t
def inS {α : Type} (σ : Nat → α) (s : Nat) (v : α) (t : Nat) : α := if t = s then v else if t < s then σ t else σ (t - 1)
section BS
variable {E : AE} {G L : Nat → Nat → Int} {r : Nat → Nat → Option Nat} {h : AH} {Q : AH → Value → Prop} {S H n a : Nat} {p q : Nat → Nat} {σ τ : Nat → Nat → Int} {kk nn : Nat → Int} {i v x b u s kd' : Int}
theorem SHF_perm {r' : Nat → Nat → Option Nat} {G' : Nat → Nat → Int} {p' : Nat → Nat} {n' : Nat} {σ' : Nat → Nat → Int} (hF : SHF E r G H p q n σ a kk nn τ) (hr : frR r r' H) (hr5 : r' (H + 5) = r (H + 5)) (hp' : sP r' H p') (hG : ∀ x, x ≠ H → G' x = G x) (h7 : G' H 7 = G H 7) (h1 : G' H 1 = n') (hn : n' ≤ 4) (hpp : ∀ t, t < 4 → ∃ u, u < 4 ∧ p' t = p u) (hσ : ∀ t, t < n' → RS G (H + 6 + 6 * p' t) (σ' t) ∧ WF (σ' t)) : SHF E r' G' H p' q n' σ' a kk nn τ := by
  obtain ⟨hH, hp, hq, ⟨n1, n2⟩, hS, hR, ⟨a1, a2⟩, hT, hA⟩ := hF
  refine ⟨shH_c hr hH, hp', ⟨fun t ht => ?_, hq.2⟩, ⟨h1, hn⟩, fun t ht => ?_, fun t ht => ?_, ⟨h7.trans a1, a2⟩, fun t ht => ?_, fun t ht => ?_⟩
  · rw [hr5]
    exact hq.1 t ht
  · obtain ⟨u, hu, e⟩ := hpp t ht
    rw [e]
    exact rgS_c (fun x x1 x2 => hG x (by omega)) (hS u hu)
  · exact ⟨RS_c (fun x x1 x2 => hG x (by omega)) (hσ t ht).1, (hσ t ht).2⟩
  · exact rgS_c (fun x x1 x2 => hG x (by omega)) (hT t ht)
  · obtain ⟨c1, c2, c3⟩ := hA t ht
    rw [hG _ (by omega), hG _ (by omega)]
    exact ⟨c1, c2, fun y => ⟨RS_c (fun x x1 x2 => hG x (by omega)) (c3 y).1, (c3 y).2⟩⟩
theorem SHF_grow {G' : Nat → Nat → Int} {σn : Nat → Int} (hF : SHF E r G H p q n σ a kk nn τ) (hn : n < 4) (hG : ∀ x, x ≠ H → ¬ (H + 6 + 6 * p n ≤ x ∧ x ≤ H + 6 + 6 * p n + 5) → G' x = G x) (h7 : G' H 7 = G H 7) (h1 : G' H 1 = (n : Int) + 1) (hs : RS G' (H + 6 + 6 * p n) σn) (hw : WF σn) : SHF E r G' H p q (n + 1) (fun t => if t = n then σn else σ t) a kk nn τ := by
  obtain ⟨hH, hp, hq, ⟨n1, n2⟩, hS, hR, ⟨a1, a2⟩, hT, hA⟩ := hF
  have hpn := (hp.1 n hn).2
  have g : ∀ t, t < 4 → t ≠ n → eqS G G' (H + 6 + 6 * p t) := fun t ht h x x1 x2 => by
    have : p t ≠ p n := fun z => h (hp.2 t n ht hn z)
    exact hG x (by omega) (by omega)
  refine ⟨hH, hp, hq, ⟨h1.trans (by omega), by omega⟩, fun t ht => ?_, fun t ht => ?_, ⟨h7.trans a1, a2⟩, fun t ht => ?_, fun t ht => ?_⟩
  · by_cases z : t = n
    · rw [z]
      exact hs.1
    · exact rgS_c (g t ht z) (hS t ht)
  · by_cases z : t = n
    · simp only [z, if_true]
      exact ⟨hs, hw⟩
    · simp only [z, if_false]
      exact ⟨RS_c (g t (by omega) z) (hR t (by omega)).1, (hR t (by omega)).2⟩
  · exact rgS_c (fun x x1 x2 => hG x (by omega) (by omega)) (hT t ht)
  · obtain ⟨c1, c2, c3⟩ := hA t ht
    rw [hG _ (by omega) (by omega), hG _ (by omega) (by omega)]
    exact ⟨c1, c2, fun y => ⟨RS_c (fun x x1 x2 => hG x (by omega) (by omega)) (c3 y).1, (c3 y).2⟩⟩
/-- a sieve put in the place of another -/
theorem SHF_set {G' : Nat → Nat → Int} {σn : Nat → Int} {s : Nat} (hF : SHF E r G H p q n σ a kk nn τ) (hn : s < n) (hG : ∀ x, ¬ (H + 6 + 6 * p s ≤ x ∧ x ≤ H + 6 + 6 * p s + 5) → G' x = G x) (hs : RS G' (H + 6 + 6 * p s) σn) (hw : WF σn) : SHF E r G' H p q n (fun t => if t = s then σn else σ t) a kk nn τ := by
  obtain ⟨hH, hp, hq, ⟨n1, n2⟩, hS, hR, ⟨a1, a2⟩, hT, hA⟩ := hF
  have hpn := (hp.1 s (by omega)).2
  have g : ∀ t, t < 4 → t ≠ s → eqS G G' (H + 6 + 6 * p t) := fun t ht h x x1 x2 => by
    have : p t ≠ p s := fun z => h (hp.2 t s ht (by omega) z)
    exact hG x (by omega)
  refine ⟨hH, hp, hq, ⟨by rw [hG H (by omega)]; exact n1, n2⟩, fun t ht => ?_, fun t ht => ?_, ⟨by rw [hG H (by omega)]; exact a1, a2⟩, fun t ht => ?_, fun t ht => ?_⟩
  · by_cases z : t = s
    · rw [z]
      exact hs.1
    · exact rgS_c (g t ht z) (hS t ht)
  · by_cases z : t = s
    · simp only [z, if_true]
      exact ⟨hs, hw⟩
    · simp only [z, if_false]
      exact ⟨RS_c (g t (by omega) z) (hR t (by omega)).1, (hR t (by omega)).2⟩
  · exact rgS_c (fun x x1 x2 => hG x (by omega)) (hT t ht)
  · obtain ⟨c1, c2, c3⟩ := hA t ht
    rw [hG _ (by omega), hG _ (by omega)]
    exact ⟨c1, c2, fun y => ⟨RS_c (fun x x1 x2 => hG x (by omega)) (c3 y).1, (c3 y).2⟩⟩
theorem rm_sP {sN : Nat} (hp : sP r H p) (hs : sN < n) (hn : n ≤ 4) : sP (rmR r H sN n) H (rmP p sN n) ∧ (∀ t, t < 4 → ∃ u, u < 4 ∧ rmP p sN n t = p u) := by
  refine ⟨⟨fun t ht => ?_, fun t u ht hu he => ?_⟩, fun t ht => ?_⟩
  · have e : rmR r H sN n (H + 1) t = if t = n - 1 then r (H + 1) sN else if sN ≤ t ∧ t < n - 1 then r (H + 1) (t + 1) else r (H + 1) t := by
      show (if H + 1 = H + 1 ∧ t = n - 1 then _ else if H + 1 = H + 1 ∧ sN ≤ t ∧ t < n - 1 then _ else _) = _
      simp only [true_and]
    rw [e, rmP]
    by_cases c1 : t = n - 1
    · rw [if_pos c1, if_neg (by omega), if_pos c1]
      exact hp.1 sN (by omega)
    · rw [if_neg c1]
      by_cases c2 : sN ≤ t ∧ t < n - 1
      · rw [if_pos c2, if_pos c2]
        exact hp.1 (t + 1) (by omega)
      · rw [if_neg c2, if_neg c2, if_neg c1]
        exact hp.1 t ht
  · have f : ∀ t, t < 4 → rmP p sN n t = p (if sN ≤ t ∧ t < n - 1 then t + 1 else if t = n - 1 then sN else t) := fun t ht => by
      unfold rmP
      split
      · rfl
      · split <;> rfl
    rw [f t ht, f u hu] at he
    have := hp.2 _ _ (by split <;> (try split) <;> omega) (by split <;> (try split) <;> omega) he
    revert this
    split <;> split <;> (try split) <;> (try split) <;> omega
  · unfold rmP
    split
    · exact ⟨t + 1, by omega, rfl⟩
    · split
      · exact ⟨sN, by omega, rfl⟩
      · exact ⟨t, ht, rfl⟩
theorem rmP_lt {sN t : Nat} (ht : t < n - 1) : rmP p sN n t = p (if t < sN then t else t + 1) := by
  unfold rmP
  by_cases c : t < sN
  · rw [if_neg (by omega), if_neg (by omega), if_pos c]
  · rw [if_pos (by omega), if_neg c]
theorem op_sP {sN : Nat} (hp : sP r H p) (hs : sN ≤ n) (hn : n < 4) : sP (opR r H sN n) H (opP p sN n) ∧ (∀ t, t < 4 → ∃ u, u < 4 ∧ opP p sN n t = p u) := by
  refine ⟨⟨fun t ht => ?_, fun t u ht hu he => ?_⟩, fun t ht => ?_⟩
  · have e : opR r H sN n (H + 1) t = if t = sN then r (H + 1) n else if sN < t ∧ t ≤ n then r (H + 1) (t - 1) else r (H + 1) t := by
      show (if H + 1 = H + 1 ∧ t = sN then _ else if H + 1 = H + 1 ∧ sN < t ∧ t ≤ n then _ else _) = _
      simp only [true_and]
    rw [e, opP]
    by_cases c1 : t = sN
    · rw [if_pos c1, if_pos c1]
      exact hp.1 n hn
    · rw [if_neg c1, if_neg c1]
      by_cases c2 : sN < t ∧ t ≤ n
      · rw [if_pos c2, if_pos c2]
        exact hp.1 (t - 1) (by omega)
      · rw [if_neg c2, if_neg c2]
        exact hp.1 t ht
  · have f : ∀ t, t < 4 → opP p sN n t = p (if t = sN then n else if sN < t ∧ t ≤ n then t - 1 else t) := fun t ht => by
      unfold opP
      split
      · rfl
      · split <;> rfl
    rw [f t ht, f u hu] at he
    have := hp.2 _ _ (by split <;> (try split) <;> omega) (by split <;> (try split) <;> omega) he
    revert this
    split <;> split <;> (try split) <;> (try split) <;> omega
  · unfold opP
    split
    · exact ⟨n, by omega, rfl⟩
    · split
      · exact ⟨t - 1, by omega, rfl⟩
      · exact ⟨t, ht, rfl⟩
end BS
