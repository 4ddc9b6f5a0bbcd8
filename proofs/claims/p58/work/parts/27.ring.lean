/-! Ring and chain. -/
def rgF (f : Int → Int) (pos : Int) : Int → Int := fun j => if j < pos then f j else f (j + 1)
def rnL (g : Int) : Nat → (Int → Int) → Int → Int → Int
  | 0, f, cnt, pos => f ((pos + g - 1) % cnt)
  | k + 1, f, cnt, pos => rnL g k (rgF f ((pos + g - 1) % cnt)) (cnt - 1) ((pos + g - 1) % cnt)
def chL (A : Int → Int) (n : Int) : Nat → Int → Int → Int → (Int → Bool) → Int × Int × Int
  | 0, p, la, le_, _ => (p, la, le_)
  | k + 1, p, la, le_, v => if 1 ≤ p ∧ p ≤ n ∧ v p = false ∧ le_ < n then chL A n k (A p) (A p) (le_ + 1) (fun q => decide (q = p) || v q) else (p, la, le_)
section BS
variable {E : AE} {G L : Nat → Nat → Int} {r : Nat → Nat → Option Nat} {h : AH} {Q : AH → Value → Prop} {S T : Nat} {i v p x kk d e f w m c g : Int}
theorem cAt_T {H : Nat → Nat → Int} (ht : shT E T) (hi : 0 ≤ i ∧ i < 1000) : cAt E H T i = H T i.toNat := by
  unfold cAt
  rw [if_pos (by have := ht.2; omega)]
def rgC (G : Nat → Nat → Int) (S : Nat) (g turn : Int) : Int := if turn < G S 13 then rnL g turn.toNat (fun j => nA G S (j + 1)) (G S 13) 0 else -1
def chC (G : Nat → Nat → Int) (S : Nat) (x w : Int) : Int := if poC G S x = -1 then -1 else if w = 0 then (chL (nA G S) (G S 13) 600 (poC G S x) x 0 (fun _ => false)).2.2 else if w = 1 then (chL (nA G S) (G S 13) 600 (poC G S x) x 0 (fun _ => false)).2.1 else bI (1 ≤ (chL (nA G S) (G S 13) 600 (poC G S x) x 0 (fun _ => false)).1 ∧ (chL (nA G S) (G S 13) 600 (poC G S x) x 0 (fun _ => false)).1 ≤ G S 13)
end BS
