/-! readSieve: the new sieve. -/
def nwS (ki fr by_ ma cn : Int) (g : Nat → Int) : Nat → Int := fun k => if k = 0 then ki else if k = 1 then fr else if k = 2 then by_ else if k = 3 then ma else if k = 7 then cn else if 8 ≤ k ∧ k < 20 then g (k - 8) else 0
def rdLaw (B : Int → Int) (n ki : Int) (T : Int × Int × Int × Int) : Except ER (Int × (Nat → Int) × Int × Int × Int × Int) :=
  if ki = 4 then (match rdFix B n T with
    | .error e => .error e
    | .ok (g, m, T1) => .ok (0, (fun j => if j = 0 then g else if j = 1 then m else 0), T1))
  else if ki = 5 then (match rdTL B n 13 0 (fun _ => 0) T with
    | .error e => .error e
    | .ok (c, g, T1) => .ok (c, g, T1))
  else .ok (0, (fun _ => 0), T)
section BS
variable {E : AE} {G G' L : Nat → Nat → Int} {r : Nat → Nat → Option Nat} {h : AH} {Q : AH → Value → Prop} {D S a c l cl cs : Nat} {w : List Int} {i v x b u s e t n lo hi ki fr by_ ma cn : Int} {B : Int → Int} {T T' : Int × Int × Int × Int} {g : Nat → Int}
theorem nwS_hb (j : Nat) : hbS (nwS ki fr by_ ma cn g) j = true := by
  unfold hbS nwS
  rw [Int.toNat_natCast, if_neg (by omega), if_neg (by omega), if_neg (by omega), if_neg (by omega), if_neg (by omega), if_neg (by omega)]
  rfl
theorem nwS_g {j : Nat} (h : j < 12) : nwS ki fr by_ ma cn g (8 + j) = g j := by
  unfold nwS
  rw [if_neg (by omega), if_neg (by omega), if_neg (by omega), if_neg (by omega), if_neg (by omega), if_pos (by omega)]
  congr 1
  omega
theorem nwS_hi {k : Nat} (h : 20 ≤ k) : nwS ki fr by_ ma cn g k = 0 := by
  unfold nwS
  rw [if_neg (by omega), if_neg (by omega), if_neg (by omega), if_neg (by omega), if_neg (by omega), if_neg (by omega)]
theorem nwS_WF (h0 : 0 ≤ ki ∧ ki ≤ 5) (h1 : 0 ≤ fr ∧ fr ≤ 999) (h2 : 1 ≤ by_ ∧ by_ ≤ 99) (h3 : 2 ≤ ma ∧ ma ≤ 600) (h4 : ki = 4 → (2 ≤ g 0 ∧ g 0 ≤ 99) ∧ (1 ≤ g 1 ∧ g 1 ≤ 60)) (h5 : ki = 5 → (1 ≤ cn ∧ cn ≤ 12) ∧ ∀ j : Nat, (j : Int) < cn → 2 ≤ g j ∧ g j ≤ 999) : WF (nwS ki fr by_ ma cn g) := by
  have e3 : nwS ki fr by_ ma cn g 3 = ma := rfl
  have hz : szS (nwS ki fr by_ ma cn g) = ma := by
    unfold szS
    rw [e3, ctN_all _ (fun i _ => nwS_hb i)]
    omega
  have e0 : nwS ki fr by_ ma cn g 0 = ki := rfl
  have e1 : nwS ki fr by_ ma cn g 1 = fr := rfl
  have e2 : nwS ki fr by_ ma cn g 2 = by_ := rfl
  have e4 : nwS ki fr by_ ma cn g 4 = 0 := rfl
  have e5 : nwS ki fr by_ ma cn g 5 = 0 := rfl
  have e6 : nwS ki fr by_ ma cn g 6 = 0 := rfl
  have e7 : nwS ki fr by_ ma cn g 7 = cn := rfl
  have e8 : nwS ki fr by_ ma cn g 8 = g 0 := rfl
  have e9 : nwS ki fr by_ ma cn g 9 = g 1 := rfl
  unfold WF
  rw [hz, e0, e1, e2, e3, e4, e5, e6, e7, e8, e9]
  refine ⟨h0, h1, h2, h3, by omega, by omega, fun _ => by omega, fun k => ?_, fun k => ?_, fun j hj => ?_, fun j j1 j2 => absurd j2 (by omega), fun a b i1 i2 i3 => absurd i3 (by omega), fun t t1 t2 => absurd t2 (by omega)⟩
  · have := h4 k
    omega
  · obtain ⟨x1, x4⟩ := h5 k
    refine ⟨by omega, x1.1, x1.2, fun j hj => ?_⟩
    rw [nwS_g (by omega)]
    exact x4 j hj
  · rw [nwS_hi (by omega)]
    omega
/-- after set: what is told is put in -/
theorem nwS_RS {K K2 : Nat → Nat → Int} {lim : Int} (k1 : K S 0 = ki ∧ K S 1 = fr ∧ K S 2 = by_ ∧ K S 3 = ma ∧ K S 4 = 0) (k2 : K S 6 = 0 ∧ K S 7 = 0 ∧ K S 8 = 0) (k3 : ∀ j, j < 600 → K (S + 2) j = 2147483647) (k4 : rgS K S) (k5 : WR K S)
    (d1 : ∀ x, x ≠ S → x ≠ S + 1 → K2 x = K x) (d2 : ∀ j, j ≠ 4 → K2 S j = K S j) (d3 : K2 S 4 = lim) (d4 : 0 ≤ lim ∧ lim ≤ 60) (d5 : ∀ j, 0 ≤ K2 (S + 1) j ∧ K2 (S + 1) j ≤ 999) (h3 : 2 ≤ ma ∧ ma ≤ 600) (hcn : ki = 5 → cn ≤ 12)
    (d6 : ki = 4 → lim = g 1 ∧ K2 (S + 1) 0 = g 0) (d7 : ki = 5 → lim = cn ∧ ∀ j : Nat, (j : Int) < cn → K2 (S + 1) j = g j) : RS K2 S (nwS ki fr by_ ma cn g) := by
  have e2 : K2 (S + 2) = K (S + 2) := d1 _ (by omega) (by omega)
  have e3 : K2 (S + 3) = K (S + 3) := d1 _ (by omega) (by omega)
  have e4 : K2 (S + 4) = K (S + 4) := d1 _ (by omega) (by omega)
  have e5 : K2 (S + 5) = K (S + 5) := d1 _ (by omega) (by omega)
  have eX : hX K2 S = hX K S := by
    funext i
    unfold hX sK
    rw [e2]
  refine ⟨?_, ?_, ⟨?_, ?_, ?_, ?_, ?_, ?_, ?_⟩, fun k => ?_, fun k => ?_, fun j hj => ?_, fun j j1 j2 => ?_⟩
  · unfold rgS at k4 ⊢
    obtain ⟨q0, q1, q2, q3, q4, q6, q7, q8, q13, qa1, qa2, qa3, qa4, qa5⟩ := k4
    rw [d2 0 (by decide), d2 1 (by decide), d2 2 (by decide), d2 3 (by decide), d3, d2 6 (by decide), d2 7 (by decide), d2 8 (by decide), d2 13 (by decide), e2, e3, e4, e5]
    exact ⟨q0, q1, q2, q3, d4, q6, q7, q8, q13, d5, qa2, qa3, qa4, qa5⟩
  · unfold WR at k5 ⊢
    rw [eX, d2 1 (by decide), d2 2 (by decide), d2 3 (by decide), d2 13 (by decide), e5]
    exact k5
  · rw [d2 0 (by decide), k1.1]; rfl
  · rw [d2 1 (by decide), k1.2.1]; rfl
  · rw [d2 2 (by decide), k1.2.2.1]; rfl
  · rw [d2 3 (by decide), k1.2.2.2.1]; rfl
  · rw [d2 6 (by decide), k2.1]; rfl
  · rw [d2 7 (by decide), k2.2.1]; rfl
  · rw [d2 8 (by decide), k2.2.2]; rfl
  · have := d6 k
    rw [d3]
    exact this
  · obtain ⟨x1, x2⟩ := d7 k
    have := hcn k
    rw [d3]
    refine ⟨x1, fun j hj => ?_⟩
    have hj' : (j : Int) < cn := hj
    rw [nwS_g (by omega)]
    exact x2 j hj'
  · have hj' : (j : Int) < ma := hj
    rw [e2, k3 j (by omega), nwS_hi (by omega), if_pos rfl]
  · have : (j : Int) ≤ 0 := j2
    omega
end BS
