/-! Functional part: gaps, sums, two sieves, lists (what writes nothing). -/
/-- the better one of a row of places -/
def bsL (f : Int → Int → Bool) (e : Int) : Nat → Int → Int → Int
  | 0, _, b => b
  | k + 1, i, b => if i < e then bsL f e k (i + 1) (if f i b = true then i else b) else b
def rcL (g : Int → Int) (e kk : Int) : Nat → Int → Int → Int → Int
  | 0, _, _, c => if kk = -1 then c else -1
  | k + 1, i, gr, c => if i < e then (if g i ≤ gr then rcL g e kk k (i + 1) gr c else if c = kk then i else rcL g e kk k (i + 1) (g i) (c + 1)) else if kk = -1 then c else -1
def reL (g : Int → Int) (n by_ : Int) : Nat → Int → Int
  | 0, i => i
  | k + 1, i => if i < n ∧ g i = by_ then reL g n by_ k (i + 1) else i
def lrL (g : Int → Int) (n by_ : Int) : Nat → Int → Int → Int → Int → Int
  | 0, b, _, _, _ => b
  | k + 1, b, mo, ln, i => if i ≤ n then (if mo < (if g (i - 1) = by_ then ln + 1 else 1) then lrL g n by_ k (i - (if g (i - 1) = by_ then ln + 1 else 1) + 1) (if g (i - 1) = by_ then ln + 1 else 1) (if g (i - 1) = by_ then ln + 1 else 1) (i + 1) else lrL g n by_ k b mo (if g (i - 1) = by_ then ln + 1 else 1) (i + 1)) else b
def mrL (g : Int → Int) (n lo hi : Int) : Nat → Int → Int
  | 0, c => c
  | k + 1, c => if 1 ≤ lo - c ∧ hi + c < n ∧ g (lo - c) = g (hi + c) then mrL g n lo hi k (c + 1) else c
/-- the longest so far, its place: of one middle -/
def mmS (g : Int → Int) (n m ev : Int) (s : Int × Int) : Int × Int := if s.1 < 2 * mrL g n m (m + ev) 600 0 + ev - 1 then (2 * mrL g n m (m + ev) 600 0 + ev - 1, m - mrL g n m (m + ev) 600 0 + 1) else s
def mmL (g : Int → Int) (n : Int) : Nat → Int → Int × Int → Int × Int
  | 0, _, s => s
  | k + 1, i, s => if i < n then mmL g n k (i + 1) (mmS g n i 1 (mmS g n i 0 s)) else s
/-- count, first, last -/
def prL (A : Int → Int) (P : Int → Bool) (e : Int) : Nat → Int → Int → Int → Int → Int × Int × Int
  | 0, _, c, f, la => (c, f, la)
  | k + 1, i, c, f, la => if i < e then (if P (A i) = true then prL A P e k (i + 1) (c + 1) (if f = -1 then A i else f) (A i) else prL A P e k (i + 1) c f la) else (c, f, la)
def wsL (A : Int → Int) (n : Int) : Nat → Int → Int → Int → Int
  | 0, _, _, w => w
  | k + 1, lo, hi, w => if lo ≤ hi then (if A lo + A hi ≤ n then wsL A n k (lo + 1) hi (if A lo + A hi = n then w + 1 else w) else wsL A n k lo (hi - 1) (if A lo + A hi = n then w + 1 else w)) else w
def fnL (f : Int → Int) (e st : Int) : Nat → Int → Int
  | 0, _ => -1
  | k + 1, n => if n ≤ e then (if f n = 0 then n else fnL f e st k (n + st)) else -1
def isL (H : Int → Bool) (A : Int → Int) (n : Int) : Nat → Int → Bool
  | 0, _ => false
  | k + 1, p => if 1 ≤ p then (if H (n - A p) = true then true else isL H A n k (p - 1)) else false
def mdL (A : Int → Int) (z n : Int) : Nat → Int → Int
  | 0, p => p
  | k + 1, p => if p < z ∧ 2 * A (p + 1) ≤ n then mdL A z n k (p + 1) else p
def fiL (H : Int → Bool) (A : Int → Int) (z e st : Int) : Nat → Int → Int → Int
  | 0, _, _ => -1
  | k + 1, p, n => if n ≤ e then (if isL H A n 600 (mdL A z n 600 p) = true then fiL H A z e st k (mdL A z n 600 p) (n + st) else n) else -1
def pgL (P : Int → Bool) (n d : Int) : Nat → Int → Int → Int
  | 0, l, _ => l
  | k + 1, l, x => if l < n ∧ P x = true then pgL P n d k (l + 1) (x + d) else l
def lpL (A : Int → Int) (P : Int → Bool) (n d : Int) : Nat → Int → Int → Int → Int
  | 0, _, b, _ => b
  | k + 1, i, b, mo => if i ≤ n then (if P (A i - d) = true then lpL A P n d k (i + 1) b mo else if mo < pgL P n d 600 1 (A i + d) then lpL A P n d k (i + 1) (A i) (pgL P n d 600 1 (A i + d)) else lpL A P n d k (i + 1) b mo) else b
def lkL (f : Int → Int → Bool) (a b : Int) : Nat → Int → Int
  | 0, i => i
  | k + 1, i => if i < a ∧ i < b ∧ f (i + 1) (i + 1) = true then lkL f a b k (i + 1) else i
def pkL (A : Int → Int) (P : Int → Bool) (e kk : Int) : Nat → Int → Int → Int
  | 0, c, _ => if kk = -1 then c else -1
  | k + 1, c, i => if i < e then (if P i = true then (if c = kk then A i else pkL A P e kk k (c + 1) (i + 1)) else pkL A P e kk k c (i + 1)) else if kk = -1 then c else -1
section BS
variable {E : AE} {G L : Nat → Nat → Int} {r : Nat → Nat → Option Nat} {h : AH} {Q : AH → Value → Prop} {S S2 : Nat} {i v n p x kk d e f w m : Int}
def pgC (G : Nat → Nat → Int) (S : Nat) : Int := bsL (fun i b => decide (gA G S b < gA G S i)) (G S 13) 600 2 1
theorem bsL_b (f : Int → Int → Bool) (e : Int) : ∀ (k : Nat) (i b : Int), (1 ≤ b ∧ (b ≤ 1 ∨ b < e)) → 1 ≤ i → 1 ≤ bsL f e k i b ∧ (bsL f e k i b ≤ 1 ∨ bsL f e k i b < e) := by
  intro k
  induction k with
  | zero => intro i b hb hi; exact hb
  | succ k ih =>
    intro i b hb hi
    unfold bsL
    by_cases h : i < e
    · rw [if_pos h]
      refine ih _ _ ?_ (by omega)
      split
      · omega
      · exact hb
    · rw [if_neg h]
      exact hb
theorem pgC_b (hg : rgS G S) : 1 ≤ pgC G S ∧ pgC G S ≤ 1000 := by
  obtain ⟨g0, g1, g2, g3, g4, g6, g7, g8, g13, ga1, ga2, ga3, ga4, ga5⟩ := id hg
  have := bsL_b (fun i b => decide (gA G S b < gA G S i)) (G S 13) 600 2 1 (by omega) (by omega)
  unfold pgC
  omega
def cgC (G : Nat → Nat → Int) (S : Nat) (d : Int) : Int := cnL (fun p => decide (gA G S p = d)) (G S 13) 600 1 0
theorem reL_b (g : Int → Int) (n by_ : Int) : ∀ (k : Nat) (i : Int), i ≤ reL g n by_ k i ∧ reL g n by_ k i ≤ i + k := by
  intro k
  induction k with
  | zero => intro i; unfold reL; omega
  | succ k ih =>
    intro i
    unfold reL
    have := ih (i + 1)
    split <;> omega
def lrC (G : Nat → Nat → Int) (S : Nat) : Int := lrL (gA G S) (G S 13) (G S 2) 600 1 0 0 1
theorem wd_r (hg : rgS G S) (p q : Int) : I32 (nA G S p - nA G S q) := by
  have h1 := nA_b hg p
  have h2 := nA_b hg q
  exact ⟨by omega, by omega⟩
def clC (G : Nat → Nat → Int) (S : Nat) (w : Int) : Int := if w ≤ G S 13 then bsL (fun i b => decide (nA G S (i + w - 1) - nA G S i < nA G S (b + w - 1) - nA G S b)) (G S 13 - w + 2) 600 2 1 else -1
theorem mrL_b (g : Int → Int) (n lo hi : Int) : ∀ (k : Nat) (c : Int), c ≤ mrL g n lo hi k c ∧ mrL g n lo hi k c ≤ c + k := by
  intro k
  induction k with
  | zero => intro c; unfold mrL; omega
  | succ k ih =>
    intro c
    unfold mrL
    have := ih (c + 1)
    split <;> omega
theorem mmS_b (g : Int → Int) (n : Int) {ev : Int} {s : Int × Int} (h : -10000 ≤ s.1 ∧ s.1 ≤ 10000) (h2 : -10000 ≤ s.2 ∧ s.2 ≤ 10000) (hev : ev = 0 ∨ ev = 1) (hm : 1 ≤ m ∧ m ≤ 600) : (-10000 ≤ (mmS g n m ev s).1 ∧ (mmS g n m ev s).1 ≤ 10000) ∧ (-10000 ≤ (mmS g n m ev s).2 ∧ (mmS g n m ev s).2 ≤ 10000) := by
  have hm := mrL_b g n m (m + ev) 600 0
  unfold mmS
  split
  · dsimp only
    omega
  · exact ⟨h, h2⟩
def mrA (w : Int) (s : Int × Int) : Int := if w = 1 ∨ s.2 = -1 then s.2 else s.1
end BS
