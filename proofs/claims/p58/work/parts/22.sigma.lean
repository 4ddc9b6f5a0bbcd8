/-! A sieve as a row of numbers (as the reference holds it), and the class's sieve that holds the same. -/
def hbS (σ : Nat → Int) (i : Int) : Bool := decide (σ (20 + i.toNat) = 0)
def szS (σ : Nat → Int) : Int := ctN (hbS σ) (σ 3).toNat
def ixN (P : Int → Bool) : Nat → Int → Nat
  | 0, _ => 0
  | m + 1, p => if P (m : Int) = true ∧ ctN P m = p - 1 then m else ixN P m p
def nAS (σ : Nat → Int) (p : Int) : Int := if 1 ≤ p ∧ p ≤ szS σ then σ 1 + σ 2 * (ixN (hbS σ) (σ 3).toNat p : Int) else -1
def gAS (σ : Nat → Int) (p : Int) : Int := if 1 ≤ p ∧ p ≤ szS σ - 1 then nAS σ (p + 1) - nAS σ p else -1
def iXS (σ : Nat → Int) (x : Int) : Int := if x < σ 1 then -1 else if σ 3 ≤ (x - σ 1) / σ 2 ∨ ¬ (x - σ 1) % σ 2 = 0 then -1 else (x - σ 1) / σ 2
def hasS (σ : Nat → Int) (x : Int) : Bool := decide (0 ≤ iXS σ x) && hbS σ (iXS σ x)
theorem ixN_ok (P : Int → Bool) : ∀ (m : Nat) (p : Int), 1 ≤ p → p ≤ ctN P m → ixN P m p < m ∧ P (ixN P m p : Int) = true ∧ ctN P (ixN P m p) = p - 1 := by
  intro m
  induction m with
  | zero => intro p h1 h2; unfold ctN at h2; omega
  | succ m ih =>
    intro p h1 h2
    unfold ixN
    by_cases h : P (m : Int) = true ∧ ctN P m = p - 1
    · rw [if_pos h]
      exact ⟨by omega, h.1, h.2⟩
    · rw [if_neg h]
      have h3 : p ≤ ctN P m := by
        rw [ctN] at h2
        by_cases q : P (m : Int) = true
        · rw [if_pos q] at h2
          have : ctN P m ≠ p - 1 := fun z => h ⟨q, z⟩
          omega
        · rw [if_neg q] at h2
          omega
      obtain ⟨q1, q2, q3⟩ := ih p h1 h3
      exact ⟨by omega, q2, q3⟩
theorem ixN_eq (P : Int → Bool) {m i : Nat} {p : Int} (hi : i < m) (hp : P (i : Int) = true) (hc : ctN P i = p - 1) : ixN P m p = i := by
  have h1 := ctN_b P i
  have h2 := ctN_lt P hi hp
  obtain ⟨q1, q2, q3⟩ := ixN_ok P m p (by omega) (by omega)
  exact ctN_inj P q2 hp (by omega)
def WF (σ : Nat → Int) : Prop := (0 ≤ σ 0 ∧ σ 0 ≤ 5) ∧ (0 ≤ σ 1 ∧ σ 1 ≤ 999) ∧ (1 ≤ σ 2 ∧ σ 2 ≤ 99) ∧ (2 ≤ σ 3 ∧ σ 3 ≤ 600) ∧ (0 ≤ σ 4 ∧ 0 ≤ σ 6 ∧ σ 5 = σ 4 + σ 6) ∧ (1 ≤ szS σ ∧ σ 6 + szS σ ≤ σ 3) ∧ (σ 0 ≤ 3 → σ 4 + σ 6 + szS σ ≤ σ 3) ∧ (σ 0 = 4 → σ 4 ≤ σ 9 ∧ 1 ≤ σ 9 ∧ σ 9 ≤ 60 ∧ 2 ≤ σ 8 ∧ σ 8 ≤ 99) ∧ (σ 0 = 5 → σ 4 ≤ σ 7 ∧ 1 ≤ σ 7 ∧ σ 7 ≤ 12 ∧ ∀ j : Nat, (j : Int) < σ 7 → 2 ≤ σ (8 + j) ∧ σ (8 + j) ≤ 999) ∧ (∀ j : Nat, (j : Int) < σ 3 → 0 ≤ σ (20 + j) ∧ σ (20 + j) ≤ σ 5) ∧
  (∀ j : Nat, 1 ≤ j → (j : Int) ≤ σ 4 → (1 ≤ σ (620 + j) ∧ σ (620 + j) ≤ σ 5) ∧ (2 ≤ σ (1222 + j) ∧ σ (1222 + j) ≤ 100000)) ∧ (∀ i j : Nat, 1 ≤ i → i < j → (j : Int) ≤ σ 4 → σ (620 + i) < σ (620 + j)) ∧ (∀ t : Int, 1 ≤ t → t ≤ σ 5 → (∃ j : Nat, 1 ≤ j ∧ (j : Int) ≤ σ 4 ∧ σ (620 + j) = t) ∨ ∃ j : Nat, (j : Int) < σ 3 ∧ σ (20 + j) = t)
def RS (G : Nat → Nat → Int) (S : Nat) (σ : Nat → Int) : Prop := rgS G S ∧ WR G S ∧ (G S 0 = σ 0 ∧ G S 1 = σ 1 ∧ G S 2 = σ 2 ∧ G S 3 = σ 3 ∧ G S 6 = σ 4 ∧ G S 7 = σ 5 ∧ G S 8 = σ 6) ∧ (σ 0 = 4 → G S 4 = σ 9 ∧ G (S + 1) 0 = σ 8) ∧ (σ 0 = 5 → G S 4 = σ 7 ∧ ∀ j : Nat, (j : Int) < σ 7 → G (S + 1) j = σ (8 + j)) ∧ (∀ j : Nat, (j : Int) < σ 3 → G (S + 2) j = if σ (20 + j) = 0 then 2147483647 else σ (20 + j)) ∧ (∀ j : Nat, 1 ≤ j → (j : Int) ≤ σ 4 → G (S + 3) j = σ (1222 + j) ∧ G (S + 4) j = σ (620 + j))
section SG
variable {G G' : Nat → Nat → Int} {S S2 : Nat} {σ : Nat → Int}
theorem WF_5 (w : WF σ) : 0 ≤ σ 5 ∧ σ 5 ≤ 660 ∧ σ 4 ≤ 599 := by
  obtain ⟨w0, w1, w2, w3, w4, w5, w6, w7, w8, -⟩ := w
  by_cases h : σ 0 ≤ 3
  · have := w6 h; omega
  · by_cases h4 : σ 0 = 4
    · have := w7 h4; omega
    · have := w8 (by omega); omega
theorem RS_hX (h : RS G S σ) (w : WF σ) {j : Nat} (hj : (j : Int) < σ 3) : hX G S j = hbS σ j := by
  obtain ⟨-, -, -, -, -, h6, -⟩ := h
  have h5 := WF_5 w
  obtain ⟨-, -, -, w3, -, -, -, -, -, w9, -⟩ := w
  have e := h6 j hj
  have b := w9 j hj
  unfold hX hbS sK
  rw [if_pos (by omega), Int.toNat_natCast, e]
  by_cases q : σ (20 + j) = 0
  · rw [if_pos q]
    simp [q]
  · rw [if_neg q]
    simp [q]
    omega
theorem RS_ct (h : RS G S σ) (w : WF σ) {n : Nat} (hn : (n : Int) ≤ σ 3) : ctN (hX G S) n = ctN (hbS σ) n := ctN_congr n fun i hi => RS_hX h w (by omega)
theorem RS_sz (h : RS G S σ) (w : WF σ) : G S 13 = szS σ := by
  have h2 := h.2.1.2.1
  have h3 := h.2.2.1
  have w3 := w.2.2.2.1
  rw [h2, h3.2.2.2.1]
  unfold szS
  exact RS_ct h w (by omega)
theorem RS_nA (h : RS G S σ) (w : WF σ) : nA G S = nAS σ := by
  funext p
  have e := RS_sz h w
  have f := h.2.2.1
  unfold nAS
  by_cases hp : 1 ≤ p ∧ p ≤ szS σ
  · obtain ⟨i, i1, i2, i3, i4⟩ := nA_ix h.2.1 (p := p) (by rw [e]; exact hp)
    rw [if_pos hp, i4, f.2.1, f.2.2.1]
    rw [f.2.2.2.1] at i1
    have := ixN_eq (hbS σ) (m := (σ 3).toNat) (i := i) (p := p) (by omega) (by rw [← RS_hX h w i1]; exact i2) (by rw [← RS_ct h w (by omega)]; exact i3)
    rw [this]
  · rw [if_neg hp]
    unfold nA
    rw [if_neg (by rw [e]; exact hp)]
theorem RS_gA (h : RS G S σ) (w : WF σ) : gA G S = gAS σ := by
  funext p
  unfold gA gAS
  rw [RS_nA h w, RS_sz h w]
theorem RS_iX (h : RS G S σ) (w : WF σ) : iX G S = iXS σ := by
  funext x
  have f := h.2.2.1
  have w2 := w.2.2.1
  unfold iX iXS
  rw [f.2.1, f.2.2.1, f.2.2.2.1]
  by_cases q : x < σ 1
  · rw [if_pos (Or.inr q), if_pos q]
  · rw [if_neg (by omega), if_neg q]
theorem iXS_b (w : WF σ) (x : Int) : -1 ≤ iXS σ x ∧ iXS σ x < σ 3 := by
  obtain ⟨-, w1, w2, w3, -⟩ := w
  unfold iXS
  split
  · omega
  · rename_i h1
    split
    · omega
    · have : 0 ≤ (x - σ 1) / σ 2 := Int.ediv_nonneg (by omega) (by omega)
      omega
theorem RS_has (h : RS G S σ) (w : WF σ) : hasX G S = hasS σ := by
  funext x
  have b := iXS_b w x
  unfold hasX hasS
  rw [RS_iX h w]
  by_cases q : 0 ≤ iXS σ x
  · have e : iXS σ x = ((iXS σ x).toNat : Int) := (Int.toNat_of_nonneg q).symm
    rw [decide_eq_true q, Bool.true_and, e]
    exact RS_hX h w (by omega)
  · rw [decide_eq_false q, Bool.false_and]
    have e : iXS σ x = -1 := by omega
    rw [e]
    unfold hX sK
    rw [if_neg (by omega)]
    decide
/-- the gap of the next round; a round done; a number struck by hand; begun anew -/
def glS (σ : Nat → Int) : Int := if σ 0 = 1 then σ 4 + 2 else if σ 0 = 4 then (if σ 4 < σ 9 then σ 8 else -1) else if σ 0 = 5 then (if σ 4 < σ 7 then σ (8 + (σ 4).toNat) else -1) else nAS σ (σ 4 + 2)
def ngS (σ : Nat → Int) : Int := if glS σ < 2 then -1 else if σ 0 = 4 ∨ σ 0 = 5 ∨ exL (fun p => spC (σ 0) (σ 4) p (nAS σ p) (glS σ)) (szS σ + 1) 601 1 = true then glS σ else -1
def stk (σ : Nat → Int) (gap : Int) (j : Nat) : Bool := decide ((j : Int) < σ 3) && hbS σ j && spC (σ 0) (σ 4) (ctN (hbS σ) j + 1) (σ 1 + σ 2 * j) gap
def swS (σ : Nat → Int) (gap : Int) : Nat → Int := fun k => if k = 4 then σ 4 + 1 else if k = 5 then σ 5 + 1 else if 20 ≤ k ∧ k < 620 then (if stk σ gap (k - 20) = true then σ 5 + 1 else σ k) else if (k : Int) = 620 + (σ 4 + 1) then σ 5 + 1 else if (k : Int) = 1222 + (σ 4 + 1) then gap else σ k
def hdS (σ : Nat → Int) (i : Nat) : Nat → Int := fun k => if k = 5 then σ 5 + 1 else if k = 6 then σ 6 + 1 else if k = 20 + i then σ 5 + 1 else σ k
theorem RS_ng (h : RS G S σ) (w : WF σ) : ngC G S = ngS σ ∧ glC G S = glS σ := by
  have f := h.2.2.1
  have h4 := h.2.2.2.1
  have h5 := h.2.2.2.2.1
  have w5 := WF_5 w
  have e1 : glC G S = glS σ := by
    unfold glC glS
    rw [f.1, f.2.2.2.2.1, RS_nA h w]
    by_cases k1 : σ 0 = 1
    · rw [if_pos k1, if_pos k1]
    · rw [if_neg k1, if_neg k1]
      by_cases k4 : σ 0 = 4
      · rw [if_pos k4, if_pos k4, (h4 k4).1, (h4 k4).2]
      · rw [if_neg k4, if_neg k4]
        by_cases k5 : σ 0 = 5
        · obtain ⟨q1, q2⟩ := h5 k5
          rw [if_pos k5, if_pos k5, q1]
          by_cases q : σ 4 < σ 7
          · obtain ⟨-, -, -, -, wa, -, -, -, w8, -⟩ := w
            have := w8 k5
            rw [if_pos q, if_pos q, if_pos (by omega)]
            exact q2 _ (by omega)
          · rw [if_neg q, if_neg q]
        · rw [if_neg k5, if_neg k5]
  refine ⟨?_, e1⟩
  unfold ngC ngS
  rw [e1, f.1, f.2.2.2.2.1, RS_nA h w, RS_sz h w]
end SG
