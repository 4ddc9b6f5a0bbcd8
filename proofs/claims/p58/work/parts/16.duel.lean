/-! Functional part: two sieves; a list. -/
def lsO (a b : Int) : Int := if a = -1 then b else if b = -1 then a else if b < a then b else a
/-- lead: seen of one, of two, lead, greatest, at, least, turns, side -/
abbrev LdS : Type := Int × Int × Int × Int × Int × Int × Int × Int
def cmp0 (x : Int) : Int := if x < 0 then -1 else if x = 0 then 0 else 1
def ldS (A B : Int → Int) (s : LdS) : LdS :=
  let n := lsO (A (s.1 + 1)) (B (s.2.1 + 1))
  let a := if A (s.1 + 1) = n then s.1 + 1 else s.1
  let b := if B (s.2.1 + 1) = n then s.2.1 + 1 else s.2.1
  let l := a - b
  (a, b, l, (if s.2.2.2.1 < l then l else s.2.2.2.1), (if s.2.2.2.1 < l then n else s.2.2.2.2.1), (if l < s.2.2.2.2.2.1 then l else s.2.2.2.2.2.1),
    (if l = 0 then s.2.2.2.2.2.2.1 else if s.2.2.2.2.2.2.2 = -cmp0 l then s.2.2.2.2.2.2.1 + 1 else s.2.2.2.2.2.2.1), (if l = 0 then s.2.2.2.2.2.2.2 else cmp0 l))
def ldL (A B : Int → Int) (n m : Int) : Nat → LdS → LdS
  | 0, s => s
  | k + 1, s => if n ≤ s.1 ∧ m ≤ s.2.1 then s else ldL A B n m k (ldS A B s)
def ldA (w : Int) (s : LdS) : Int := if w = 0 then s.2.2.2.1 else if w = 1 then s.2.2.2.2.1 else if w = 2 then s.2.2.2.2.2.1 else if w = 3 then s.2.2.2.2.2.2.1 else s.2.2.1
def shL (E : AE) (r : Nat → Nat → Option Nat) (l : Nat) : Prop := kd E l = 10 ∧ kd E (l + 1) = 1 ∧ le E (l + 1) = 10 ∧ r l 0 = some (l + 1)
def rgL (G : Nat → Nat → Int) (l : Nat) : Prop := (0 ≤ G l 1 ∧ G l 1 ≤ 10) ∧ ∀ i, 0 ≤ G (l + 1) i ∧ G (l + 1) i ≤ 9999
def liN (G : Nat → Nat → Int) (l : Nat) (i : Int) : Int := if 0 ≤ i ∧ i ≤ G l 1 - 1 then G (l + 1) i.toNat else -1
def tgB (f : Int → Bool) (e : Int) : Nat → Int → Bool
  | 0, _ => true
  | k + 1, i => if i < e then (if f i = true then tgB f e k (i + 1) else false) else true
section BS
variable {E : AE} {G L : Nat → Nat → Int} {r : Nat → Nat → Option Nat} {h : AH} {Q : AH → Value → Prop} {S S2 l : Nat} {i v n p x kk d e f w m : Int}
def ccC (G : Nat → Nat → Int) (S S2 : Nat) : Int := cnL (fun p => hasX G S2 (nA G S p)) (G S 13 + 1) 601 1 0
def lnC (G : Nat → Nat → Int) (S S2 : Nat) : Int := nA G S (fdL (fun p => !hasX G S2 (nA G S p)) (G S 13 + 1) 601 1)
theorem lnC_b (hg : rgS G S) (S2 : Nat) : -1 ≤ lnC G S S2 ∧ lnC G S S2 ≤ 100000 := nA_b hg _
def loA (G : Nat → Nat → Int) (S S2 : Nat) : Int := if lnC G S S2 = -1 then lnC G S2 S else if lnC G S2 S = -1 then lnC G S S2 else if lnC G S2 S < lnC G S S2 then lnC G S2 S else lnC G S S2
def lrR (G : Nat → Nat → Int) (S S2 : Nat) : Int := lkL (fun i j => decide (gR G S i = gR G S2 j)) (G S 6) (G S2 6) 600 0
def pkC (G : Nat → Nat → Int) (S S2 : Nat) (kk : Int) : Int := pkL (nA G S) (hasX G S2) (G S 13 + 1) kk 601 0 1
def cmC (G : Nat → Nat → Int) (S S2 : Nat) (n w : Int) : Int := cnL (fun p => hasX G S2 (if w = 0 then n - nA G S p else nA G S p - n)) (G S 13 + 1) 601 1 0
def fuC (G : Nat → Nat → Int) (S S2 : Nat) : Int := if fdL (fun p => !decide (nA G S p = nA G S2 p)) (max (G S 13) (G S2 13) + 1) 601 1 < max (G S 13) (G S2 13) + 1 then fdL (fun p => !decide (nA G S p = nA G S2 p)) (max (G S 13) (G S2 13) + 1) 601 1 else -1
def clP (G : Nat → Nat → Int) (S S2 : Nat) : Int := cnL (fun p => decide (nA G S p = nA G S2 p)) (min (G S 13) (G S2 13) + 1) 601 1 0
/-! a list -/
theorem liN_b (hlg : rgL G l) (i : Int) : -1 ≤ liN G l i ∧ liN G l i ≤ 9999 := by
  have := hlg.2 i.toNat
  unfold liN
  split <;> omega
def ciL (G : Nat → Nat → Int) (l S : Nat) : Int := cnL (fun i => hasX G S (liN G l i)) (G l 1) 10 0 0
def fnL2 (G : Nat → Nat → Int) (l S : Nat) : Int := liN G l (fdL (fun i => !hasX G S (liN G l i)) (G l 1) 10 0)
theorem cuL_b (A : Int → Int) (n x : Int) : ∀ (k : Nat) (c : Int), c ≤ cuL A n x k c ∧ cuL A n x k c ≤ c + k := by
  intro k
  induction k with
  | zero => intro c; unfold cuL; omega
  | succ k ih =>
    intro c
    unfold cuL
    have := ih (c + 1)
    split <;> omega
def poC (G : Nat → Nat → Int) (S : Nat) (x : Int) : Int := if hasX G S x = true then cuL (nA G S) (G S 13) x 600 0 else -1
theorem poC_b (G : Nat → Nat → Int) (S : Nat) (x : Int) : -1 ≤ poC G S x ∧ poC G S x ≤ 600 := by
  have := cuL_b (nA G S) (G S 13) x 600 0
  unfold poC
  split <;> omega
def stT9 (G : Nat → Nat → Int) (l S : Nat) : Bool := if poC G S (liN G l 0) = -1 then false else tgB (fun i => decide (nA G S (poC G S (liN G l 0) + i) = liN G l i)) (G l 1) 10 1
end BS
