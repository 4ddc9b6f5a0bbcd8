/-! The start of the small machine: the script, the String constants, their bytes, the digits, the law's row of names. -/
def fK (aK : Nat → Nat) (N a : Nat) : Option Nat := (List.range N).find? (fun i => aK i == a)
def s0_k (b L : Nat) (aK aV : Nat → Nat) (aL a : Nat) : Nat × Nat := if a = b then (7, L) else match fK aK 20 a with
  | some _ => (18, 4)
  | none => match fK aV 22 a with
    | some i => (9, slen.getD i 0)
    | none => if a = aL then (8, 4) else (0, 0)
def s0_i (b : Nat) (xs : Nat → Int32) (aK aV : Nat → Nat) (a j : Nat) : Int32 := if a = b then xs j else match fK aK 20 a with
  | some _ => 0
  | none => match fK aV 22 a with
    | some i => (bL.getD i []).getD j 0
    | none => 0
def s0_r (aK aV : Nat → Nat) (aL a j : Nat) : Option Nat := match fK aK 20 a with
  | some i => if j = 0 then some (aV i) else none
  | none => if a = aL ∧ j < 4 then some (aK (5 + j)) else none
/-- a constant's place, of its key -/
def kX (q : Nat) : Nat := if q < 1000 then stT.idxOf q else 12 + (stT2.take 8).idxOf (q - 1000)
def s0_e (aK aV : Nat → Nat) (aL ns : Nat) (q : Nat) : Nat := if q = 2001 then aV 20 else if q = 2002 then aV 21 else if q = 2003 then aL else if q = 2004 then ns else if 3000 ≤ q then aV (kX (q - 3000)) else aK (kX q)
def s0_E (sz b L : Nat) (aK aV : Nat → Nat) (aL ns : Nat) : AE := (sz, s0_k b L aK aV aL, s0_e aK aV aL ns)
def s0 (sz b L : Nat) (xs : Nat → Int32) (aK aV : Nat → Nat) (aL ns : Nat) : AH := (s0_E sz b L aK aV aL ns, s0_i b xs aK aV, (fun _ _ => 0), s0_r aK aV aL)
/-- all that stands at the start stands apart -/
def DJ (sz b : Nat) (aK aV : Nat → Nat) (aL : Nat) : Prop := b < sz ∧ (∀ i, i < 20 → aK i < sz ∧ aK i ≠ b) ∧ (∀ i, i < 22 → aV i < sz ∧ aV i ≠ b ∧ ∀ k, k < 20 → aK k ≠ aV i) ∧ (aL < sz ∧ aL ≠ b ∧ (∀ k, k < 20 → aK k ≠ aL) ∧ ∀ k, k < 22 → aV k ≠ aL) ∧ (∀ i j, i < 20 → j < 20 → aK i = aK j → i = j) ∧ ∀ i j, i < 22 → j < 22 → aV i = aV j → i = j
theorem fK_at {aK : Nat → Nat} {N i : Nat} (hi : ∀ i j, i < N → j < N → aK i = aK j → i = j) (h : i < N) : fK aK N (aK i) = some i := by
  unfold fK
  cases hf : (List.range N).find? (fun j => aK j == aK i) with
  | none =>
    have := List.find?_eq_none.mp hf i (List.mem_range.mpr h)
    simp at this
  | some j =>
    have h1 := List.find?_some hf
    have h2 := List.mem_range.mp (List.mem_of_find?_eq_some hf)
    have h3 : aK j = aK i := by simpa using h1
    rw [hi j i h2 h h3]
theorem fK_no {aK : Nat → Nat} {N a : Nat} (h : ∀ k, k < N → aK k ≠ a) : fK aK N a = none := by
  unfold fK
  rw [List.find?_eq_none]
  intro k hk
  have := h k (List.mem_range.mp hk)
  simpa using this
theorem fK_ok {aK : Nat → Nat} {N a i : Nat} (h : fK aK N a = some i) : i < N ∧ a = aK i := by
  unfold fK at h
  have h1 := List.find?_some h
  have h2 := List.mem_range.mp (List.mem_of_find?_eq_some h)
  have h3 : aK i = a := by simpa using h1
  exact ⟨h2, h3.symm⟩
theorem kX_I : ∀ i, i < 20 → kX (kI i) = i ∧ kI i ≠ 2001 ∧ kI i ≠ 2002 ∧ kI i ≠ 2003 ∧ kI i ≠ 2004 ∧ kI i < 3000 := by decide
section S0
variable {sz b L : Nat} {xs : Nat → Int32} {aK aV : Nat → Nat} {aL ns : Nat}
theorem s0_eI {i : Nat} (hi : i < 20) : s0_e aK aV aL ns (kI i) = aK i := by
  obtain ⟨h0, h1, h2, h3, h4, h5⟩ := kX_I i hi
  unfold s0_e
  rw [if_neg h1, if_neg h2, if_neg h3, if_neg h4, if_neg (by omega), h0]
theorem s0_K (h : DJ sz b aK aV aL) {i : Nat} (hi : i < 20) : s0_k b L aK aV aL (aK i) = (18, 4) ∧ (∀ j, s0_i b xs aK aV (aK i) j = 0) ∧ s0_r aK aV aL (aK i) 0 = some (aV i) := by
  have hn := (h.2.1 i hi).2
  have hf := fK_at h.2.2.2.2.1 hi
  refine ⟨?_, fun j => ?_, ?_⟩
  · unfold s0_k
    rw [if_neg hn, hf]
  · unfold s0_i
    rw [if_neg hn, hf]
  · unfold s0_r
    rw [hf]
    rfl
theorem s0_V (h : DJ sz b aK aV aL) {i : Nat} (hi : i < 22) : s0_k b L aK aV aL (aV i) = (9, slen.getD i 0) ∧ ∀ j, s0_i b xs aK aV (aV i) j = (bL.getD i []).getD j 0 := by
  obtain ⟨-, hn, hk⟩ := h.2.2.1 i hi
  have hf := fK_at h.2.2.2.2.2 hi
  have hf0 := fK_no hk
  refine ⟨?_, fun j => ?_⟩
  · unfold s0_k
    rw [if_neg hn, hf0]
    dsimp only
    rw [hf]
  · unfold s0_i
    rw [if_neg hn, hf0]
    dsimp only
    rw [hf]
theorem s0_L (h : DJ sz b aK aV aL) : s0_k b L aK aV aL aL = (8, 4) ∧ ∀ j, j < 4 → s0_r aK aV aL aL j = some (aK (5 + j)) := by
  obtain ⟨-, hn, hk, hv⟩ := h.2.2.2.1
  have hf0 := fK_no hk
  have hf := fK_no hv
  refine ⟨?_, fun j hj => ?_⟩
  · unfold s0_k
    rw [if_neg hn, hf0]
    dsimp only
    rw [hf]
    dsimp only
    rw [if_pos rfl]
  · unfold s0_r
    rw [hf0]
    dsimp only
    rw [if_pos ⟨rfl, hj⟩]
/-- a constant's letters -/
def uI (i : Nat) : List Int := (bL.getD i []).map Int32.toInt
theorem uI_ok : ∀ i, i < 20 → (uI i).length = slen.getD i 0 ∧ (uI i).length ≤ 60000 ∧ ∀ j, j < (uI i).length → ((bL.getD i []).getD j 0).toInt = (uI i).getD j 0 ∧ 0 ≤ (uI i).getD j 0 ∧ (uI i).getD j 0 < 128 := by decide +kernel
theorem uI_w : uI 12 = tw1047 ∧ uI 13 = tw1052 ∧ uI 14 = tw1054 ∧ uI 15 = tw1064 ∧ uI 16 = tw1066 ∧ uI 17 = tw1068 ∧ uI 18 = tw1070 ∧ uI 19 = tw1076 ∧ uI 5 = nmT 0 ∧ uI 6 = nmT 1 ∧ uI 7 = nmT 2 ∧ uI 8 = nmT 3 := by decide +kernel
theorem uI_T : ∀ i, i ∈ stT → kX i < 12 ∧ i = kI (kX i) ∧ i < 1000 ∧ uI (kX i) = wdL i ∧ (wdL i).length ≤ 8 := by decide +kernel
theorem dg_ok : slen.getD 20 0 = 100 ∧ slen.getD 21 0 = 100 ∧ (∀ j, j < 100 → ((bL.getD 20 []).getD j 0).toInt = 48 + (j : Int) % 10) ∧ ∀ j, j < 100 → ((bL.getD 21 []).getD j 0).toInt = 48 + (j : Int) / 10 := by decide +kernel
theorem s0_TX (h : DJ sz b aK aV aL) {i : Nat} (hi : i < 20) : TX (s0_E sz b L aK aV aL ns) (s0_r aK aV aL) (fun a j => (s0_i b xs aK aV a j).toInt) (aK i) (uI i) := by
  obtain ⟨k1, k2, k3⟩ := s0_K (L := L) (xs := xs) h hi
  obtain ⟨v1, v2⟩ := s0_V (L := L) (xs := xs) h (show i < 22 by omega)
  obtain ⟨u1', u2', u3⟩ := uI_ok i hi
  have a1 := (h.2.1 i hi).1
  have a2 := (h.2.2.1 i (by omega)).1
  have kdv : kd (s0_E sz b L aK aV aL ns) (aV i) = 9 := congrArg Prod.fst v1
  have lev : le (s0_E sz b L aK aV aL ns) (aV i) = slen.getD i 0 := congrArg Prod.snd v1
  refine ⟨aV i, ⟨Or.inr (congrArg Prod.fst k1), k3, ?_, Or.inr kdv, ?_⟩, ⟨a1, a2, kdv⟩, lev.trans u1'.symm, fun j hj => ?_⟩
  · show (s0_i b xs aK aV (aK i) 1).toInt = 0
    rw [k2]
    rfl
  · rw [lev, ← u1']
    exact u2'
  · show (s0_i b xs aK aV (aV i) j).toInt = _ ∧ _
    rw [v2]
    exact u3 j hj
/-- the law's run, from its entry -/
theorem law_ok (hL : L ≤ 260) (h : DJ sz b aK aV aL) : RK ML_law 0 (loc ML_law [.ref b]) [] (0, 0) (s0 sz b L xs aK aV aL ns) (fun _ v => v = .int 1) := by
  obtain ⟨G, hG⟩ : ∃ G : Nat → Nat → Int, G = fun a j => (s0_i b xs aK aV a j).toInt := ⟨_, rfl⟩
  have es : s0 sz b L xs aK aV aL ns = (s0_E sz b L aK aV aL ns, zg G, zk (fun _ _ => 0), s0_r aK aV aL) := by
    have e1 : zg G = s0_i b xs aK aV := by
      funext a j
      rw [hG]
      exact zi_of _
    rw [e1]
    rfl
  have el : loc ML_law [.ref b] = [.ref b, jk, jk, jk, jk, jk, jk, jk, jk] := rfl
  have kb : s0_k b L aK aV aL b = (7, L) := if_pos rfl
  have hS : SCR (s0_E sz b L aK aV aL ns) G b := ⟨⟨congrArg Prod.fst kb, h.1, by
    have : le (s0_E sz b L aK aV aL ns) b = L := congrArg Prod.snd kb
    omega⟩, fun k => by
    rw [hG]
    exact zi_rng _⟩
  have tx := fun i (hi : i < 20) => s0_TX (L := L) (xs := xs) (ns := ns) h hi
  rw [← hG] at tx
  obtain ⟨w12, w13, w14, w15, w16, w17, w18, w19, w5, w6, w7, w8⟩ := uI_w
  have ek : ∀ i, i < 20 → (s0_E sz b L aK aV aL ns).2.2 (kI i) = aK i := fun i hi => s0_eI hi
  obtain ⟨lk1, lk2⟩ := s0_L (L := L) h
  have hC : LWC (s0_E sz b L aK aV aL ns) (s0_r aK aV aL) G := by
    refine ⟨?_, ⟨?_, ?_, ?_, ?_, ?_, ?_, ?_, ?_⟩, ⟨congrArg Prod.fst lk1, congrArg Prod.snd lk1, h.2.2.2.1.1⟩, fun k hk => ⟨aK (5 + k), lk2 k hk, ?_⟩⟩
    · obtain ⟨d1, d2, d3, d4⟩ := dg_ok
      obtain ⟨v1, v2⟩ := s0_V (L := L) (xs := xs) h (show 20 < 22 by decide)
      obtain ⟨y1, y2⟩ := s0_V (L := L) (xs := xs) h (show 21 < 22 by decide)
      refine ⟨⟨congrArg Prod.fst v1, (congrArg Prod.snd v1).trans d1, (h.2.2.1 20 (by decide)).1⟩, ⟨congrArg Prod.fst y1, (congrArg Prod.snd y1).trans d2, (h.2.2.1 21 (by decide)).1⟩, fun j hj => ?_, fun j hj => ?_⟩
      · rw [hG]
        show (s0_i b xs aK aV (aV 20) j).toInt = _
        rw [v2]
        exact d3 j hj
      · rw [hG]
        show (s0_i b xs aK aV (aV 21) j).toInt = _
        rw [y2]
        exact d4 j hj
    · have := tx 12 (by decide)
      rw [w12, ← ek 12 (by decide)] at this
      exact this
    · have := tx 13 (by decide)
      rw [w13, ← ek 13 (by decide)] at this
      exact this
    · have := tx 14 (by decide)
      rw [w14, ← ek 14 (by decide)] at this
      exact this
    · have := tx 15 (by decide)
      rw [w15, ← ek 15 (by decide)] at this
      exact this
    · have := tx 16 (by decide)
      rw [w16, ← ek 16 (by decide)] at this
      exact this
    · have := tx 17 (by decide)
      rw [w17, ← ek 17 (by decide)] at this
      exact this
    · have := tx 18 (by decide)
      rw [w18, ← ek 18 (by decide)] at this
      exact this
    · have := tx 19 (by decide)
      rw [w19, ← ek 19 (by decide)] at this
      exact this
    · have hd : k = 0 ∨ k = 1 ∨ k = 2 ∨ k = 3 := by omega
      rcases hd with z | z | z | z <;> subst z
      · rw [← w5]
        exact tx 5 (by decide)
      · rw [← w6]
        exact tx 6 (by decide)
      · rw [← w7]
        exact tx 7 (by decide)
      · rw [← w8]
        exact tx 8 (by decide)
  have e3 : ∀ i, i ∈ stT → (s0_E sz b L aK aV aL ns).2.2 i = aK (kX i) ∧ (s0_E sz b L aK aV aL ns).2.2 (3000 + i) = aV (kX i) ∧ kX i < 12 := fun i hi => by
    obtain ⟨t1, t2, t3, -⟩ := uI_T i hi
    refine ⟨?_, ?_, t1⟩
    · have := ek (kX i) (by omega)
      rw [← t2] at this
      exact this
    · show s0_e aK aV aL ns (3000 + i) = _
      unfold s0_e
      rw [if_neg (by omega), if_neg (by omega), if_neg (by omega), if_neg (by omega), if_pos (by omega), Nat.add_sub_cancel_left]
  have hq : kRef (s0_E sz b L aK aV aL ns) (s0_r aK aV aL) (s0_E sz b L aK aV aL ns).1 := fun i hi => by
    obtain ⟨q1, q2, q3⟩ := e3 i hi
    rw [q1, q2]
    exact ⟨(h.2.1 _ (by omega)).1, (s0_K (L := L) (xs := xs) h (by omega)).2.2⟩
  have hst : kStr (s0_E sz b L aK aV aL ns) G (s0_E sz b L aK aV aL ns).1 := fun i hi => by
    obtain ⟨q1, q2, q3⟩ := e3 i hi
    obtain ⟨t1, t2, t3, t4, t5⟩ := uI_T i hi
    obtain ⟨k1, k2, k3⟩ := s0_K (L := L) (xs := xs) h (show kX i < 20 by omega)
    obtain ⟨v1, v2⟩ := s0_V (L := L) (xs := xs) h (show kX i < 22 by omega)
    obtain ⟨u1', u2', u3⟩ := uI_ok (kX i) (by omega)
    rw [t4] at u1' u3
    rw [q1, q2]
    refine ⟨⟨⟨congrArg Prod.fst k1, ?_⟩, congrArg Prod.fst v1, (congrArg Prod.snd v1).trans u1'.symm, t5, fun j hj => ?_⟩, (h.2.1 _ (by omega)).1, (h.2.2.1 _ (by omega)).1⟩
    · rw [hG]
      show (s0_i b xs aK aV (aK (kX i)) 1).toInt = 0
      rw [k2]
      rfl
    · have := u3 j hj
      rw [hG]
      show (s0_i b xs aK aV (aV (kX i)) j).toInt = _ ∧ 0 ≤ (s0_i b xs aK aV (aV (kX i)) j).toInt ∧ (s0_i b xs aK aV (aV (kX i)) j).toInt < 256
      rw [v2, this.1]
      exact ⟨rfl, this.2.1, by omega⟩
  rw [es, el]
  exact law_enter hS hC hq hst
end S0
