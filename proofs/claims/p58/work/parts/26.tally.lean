/-! What a sieve tells with a scratch row. -/
def shT (E : AE) (T : Nat) : Prop := kd E T = 1 ∧ le E T = 1200
def ofS (T S : Nat) : Prop := T < S ∨ S + 5 < T
/-- how many of the first n places have f as told -/
def tcN (f : Int → Int) (v : Int) (n : Nat) : Int := ctN (fun i => decide (f (i + 1) = v)) n
def tyF (G : Nat → Nat → Int) (T : Nat) (f : Int → Int) (n : Nat) : Nat → Nat → Int := fun q j => if q = T ∧ j < 1200 then tcN f j n else G q j
theorem tcN_b (f : Int → Int) (v : Int) (n : Nat) : 0 ≤ tcN f v n ∧ tcN f v n ≤ n := ctN_b _ n
theorem tcN_s (f : Int → Int) (v : Int) (n : Nat) : tcN f v (n + 1) = tcN f v n + (if f (n + 1) = v then 1 else 0) := by
  unfold tcN
  rw [ctN]
  simp only [decide_eq_true_eq]
theorem tyF_q {G : Nat → Nat → Int} {T : Nat} {f : Int → Int} {n q : Nat} (hq : q ≠ T) : tyF G T f n q = G q := by
  funext j
  exact if_neg fun z => hq z.1
theorem tyF_put {G : Nat → Nat → Int} {T : Nat} {f : Int → Int} {n : Nat} (h : 0 ≤ f (n + 1) ∧ f (n + 1) < 1200) : u2 (tyF G T f n) T (f (n + 1)).toNat (tcN f (f (n + 1)) n + 1) = tyF G T f (n + 1) := by
  funext q j
  show (if q = T ∧ j = (f (n + 1)).toNat then _ else if q = T ∧ j < 1200 then tcN f j n else G q j) = if q = T ∧ j < 1200 then tcN f j (n + 1) else G q j
  by_cases hq : q = T
  · simp only [hq, true_and]
    by_cases hj : j = (f (n + 1)).toNat
    · have e : (j : Int) = f (n + 1) := by omega
      rw [if_pos hj, if_pos (by omega), tcN_s, e, if_pos rfl]
    · rw [if_neg hj]
      by_cases h1 : j < 1200
      · rw [if_pos h1, if_pos h1, tcN_s, if_neg (by omega), Int.add_zero]
      · rw [if_neg h1, if_neg h1]
  · simp only [hq, false_and, if_false]
section BS
variable {E : AE} {G L : Nat → Nat → Int} {r : Nat → Nat → Option Nat} {h : AH} {Q : AH → Value → Prop} {S T : Nat} {i v p x kk d e f w m c g : Int}
theorem eqS_tyF {f : Int → Int} {n : Nat} (h : ofS T S) : eqS G (tyF G T f n) S := fun q h1 h2 => tyF_q (by unfold ofS at h; omega)
theorem cAt_ty {f : Int → Int} {n : Nat} (ht : shT E T) (hi : 0 ≤ i ∧ i < 1200) : cAt E (tyF G T f n) T i = tcN f i n := by
  unfold cAt
  rw [if_pos (by have := ht.2; omega)]
  show (if T = T ∧ i.toNat < 1200 then tcN f i.toNat n else _) = _
  rw [if_pos ⟨rfl, by omega⟩, Int.toNat_of_nonneg hi.1]
theorem clG_ty {f : Int → Int} : clG G T 1200 = tyF G T f 0 := by
  funext q j
  rfl
def stF (G : Nat → Nat → Int) (S : Nat) (p : Int) : Int := gA G S p / G S 2
theorem stF_b (hg : rgS G S) (hw : WR G S) (hp : 1 ≤ p ∧ p < G S 13) : 1 ≤ stF G S p ∧ stF G S p < 600 := by
  have h1 := gA_pos hg hw hp
  have h2 := hw.1
  obtain ⟨i, i1, i2, i3, i4⟩ := nA_ix hw (p := p) ⟨hp.1, by omega⟩
  obtain ⟨j, j1, j2, j3, j4⟩ := nA_ix hw (p := p + 1) ⟨by omega, by omega⟩
  have hij : i < j := ctN_ltr (hX G S) (by omega)
  have e : gA G S p = G S 2 * ((j : Int) - i) := by
    unfold gA
    rw [if_pos (by omega), i4, j4, Int.mul_sub]
    omega
  unfold stF
  rw [e, Int.mul_ediv_cancel_left _ (by omega)]
  have := hg.2.2.2.1
  omega
/-- how many gaps are so many steps -/
def tgC (G : Nat → Nat → Int) (S : Nat) (v : Int) : Int := tcN (stF G S) v (G S 13 - 1).toNat
def ugC (G : Nat → Nat → Int) (S : Nat) : Int := cnL (fun s => decide (0 < tgC G S s)) 600 600 1 0
def cmG (G : Nat → Nat → Int) (S : Nat) : Int := if G S 13 < 2 then -1 else bsL (fun i b => decide (tgC G S b < tgC G S i)) 600 600 2 1 * G S 2
/-- rests: unlike ones among the first n places -/
def ruN (f : Int → Int) (n : Nat) : Int := ctN (fun i => decide (tcN f (f (i + 1)) i.toNat = 0)) n
theorem ruN_s (f : Int → Int) (n : Nat) : ruN f (n + 1) = ruN f n + (if tcN f (f (n + 1)) n = 0 then 1 else 0) := by
  unfold ruN
  rw [ctN]
  simp only [decide_eq_true_eq, Int.toNat_natCast]
theorem ruN_b (f : Int → Int) (n : Nat) : 0 ≤ ruN f n ∧ ruN f n ≤ n := ctN_b _ n
def rsF (G : Nat → Nat → Int) (S : Nat) (m p : Int) : Int := nA G S p % m
def rsC (G : Nat → Nat → Int) (S : Nat) (m c : Int) : Int := if c = -1 then ruN (rsF G S m) (G S 13).toNat else tcN (rsF G S m) c (G S 13).toNat
end BS
