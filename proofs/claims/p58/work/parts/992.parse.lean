/-! Of the text alone: what the reader makes of the law's text. -/
/-- from e on the text is t -/
def At (u : List Int) (e : Int) (t : List Int) : Prop := ∃ pre : List Int, u = pre ++ t ∧ (pre.length : Int) = e
def TK (u : List Int) (e : Int) : Int × Int × Int × Int := nxT (tx u) u.length e
theorem spL_run (P : Int → Bool) (n : Int) : ∀ (m k : Nat) (s : Int), (∀ j : Nat, j < m → P (s + j) = true) → s + m ≤ n → (s + m < n → P (s + m) = false) → m ≤ k → spL P n k s = s + m := by
  intro m
  induction m with
  | zero =>
    intro k s h1 h2 h3 h4
    have e : s + ((0 : Nat) : Int) = s := by omega
    rw [e] at h3 ⊢
    cases k with
    | zero => rfl
    | succ k =>
      rw [spL, if_neg (fun z => by rw [h3 z.1] at z; exact absurd z.2 (by decide))]
  | succ m ih =>
    intro k s h1 h2 h3 h4
    cases k with
    | zero => omega
    | succ k =>
      have h0 := h1 0 (by omega)
      have e0 : s + ((0 : Nat) : Int) = s := by omega
      rw [e0] at h0
      have e : s + ((m + 1 : Nat) : Int) = s + 1 + m := by omega
      rw [e] at h2 h3 ⊢
      rw [spL, if_pos ⟨by omega, h0⟩]
      refine ih k (s + 1) (fun j hj => ?_) h2 h3 (by omega)
      have := h1 (j + 1) (by omega)
      rw [show s + 1 + (j : Int) = s + ((j + 1 : Nat) : Int) by omega]
      exact this
section PT
variable {u t w a rest : List Int} {e s c v lo hi : Int} {f g : Nat → Int} {cn : Nat}
theorem At_n (h : At u e t) : 0 ≤ e ∧ e + t.length = u.length := by
  obtain ⟨pre, h1, h2⟩ := h
  rw [h1, List.length_append]
  omega
theorem At_at (h : At u e t) {j : Nat} (hj : j < t.length) : tx u (e + j) = t.getD j 0 := by
  have hn := At_n h
  obtain ⟨pre, h1, h2⟩ := h
  unfold tx
  rw [if_pos (by omega), h1, show (e + (j : Int)).toNat = pre.length + j by omega, List.getD_eq_getElem?_getD, List.getD_eq_getElem?_getD, List.getElem?_append_right (by omega)]
  congr 2
  omega
theorem At_0 (h : At u e (c :: t)) : tx u e = c := by
  have := At_at h (j := 0) (by simp)
  rw [show e + ((0 : Nat) : Int) = e by omega] at this
  exact this
theorem At_end (h : At u e []) : tx u e = -1 := by
  have hn := At_n h
  unfold tx
  rw [if_neg]
  intro z
  have : (([] : List Int).length : Int) = 0 := rfl
  omega
theorem At_dr (h : At u e (a ++ t)) : At u (e + a.length) t := by
  obtain ⟨pre, h1, h2⟩ := h
  refine ⟨pre ++ a, by rw [h1, List.append_assoc], ?_⟩
  rw [List.length_append]
  omega
theorem At_1 (h : At u e (c :: t)) : At u (e + 1) t := At_dr (a := [c]) h
theorem bg_no (hu : u.length ≤ 200) (h : At u e t) (hb : t ≠ [] → blk (tx u e) = false) : bgT (tx u) u.length e = e := by
  have hn := At_n h
  have := spL_run (fun i => blk (tx u i)) u.length 0 600 e (fun j hj => by omega) (by omega) (fun z => by
    rw [show e + ((0 : Nat) : Int) = e by omega] at z ⊢
    refine hb fun y => ?_
    rw [y] at hn
    have : (([] : List Int).length : Int) = 0 := rfl
    omega) (by omega)
  rw [show e + ((0 : Nat) : Int) = e by omega] at this
  exact this
theorem bg_1 (hu : u.length ≤ 200) (h : At u e (32 :: c :: t)) (hb : blk c = false) : bgT (tx u) u.length e = e + 1 := by
  have hn := At_n h
  have h0 := At_0 h
  have h1 := At_0 (At_1 h)
  have := spL_run (fun i => blk (tx u i)) u.length 1 600 e (fun j hj => by
    rw [show j = 0 by omega, show e + ((0 : Nat) : Int) = e by omega]
    show blk (tx u e) = true
    rw [h0]
    rfl) (by simp only [List.length_cons] at hn; omega) (fun _ => by
    rw [show e + ((1 : Nat) : Int) = e + 1 by omega]
    show blk (tx u (e + 1)) = false
    rw [h1]
    exact hb) (by omega)
  exact this
theorem run_at (P : Int → Bool) (hu : u.length ≤ 200) (h : At u s (w ++ rest)) (hw : ∀ j, j < w.length → P (w.getD j 0) = true) (hr : ∀ y ys, rest = y :: ys → P y = false) : spL (fun i => P (tx u i)) u.length 600 s = s + w.length := by
  have hn := At_n h
  rw [List.length_append] at hn
  refine spL_run (fun i => P (tx u i)) u.length w.length 600 s (fun j hj => ?_) (by omega) (fun z => ?_) (by omega)
  · show P (tx u (s + j)) = true
    rw [At_at h (by rw [List.length_append]; omega)]
    have e : (w ++ rest).getD j 0 = w.getD j 0 := by
      rw [List.getD_eq_getElem?_getD, List.getD_eq_getElem?_getD, List.getElem?_append_left hj]
    rw [e]
    exact hw j hj
  · have h2 := At_dr h
    cases rest with
    | nil =>
      have : (([] : List Int).length : Int) = 0 := rfl
      omega
    | cons y ys =>
      show P (tx u (s + w.length)) = false
      rw [At_0 h2]
      exact hr y ys rfl
/-- a word behind at most one blank -/
theorem tk_word (hu : u.length ≤ 200) (h : At u s (w ++ rest)) (hbg : bgT (tx u) u.length e = s) (hw : ∀ j, j < w.length → ltr (w.getD j 0) = true) (hl : 1 ≤ w.length ∧ w.length ≤ 8) (hr : ∀ y ys, rest = y :: ys → ltr y = false) : TK u e = (2, s, s + w.length, 0) := by
  have hs := run_at ltr hu h hw hr
  have h0 : tx u s = w.getD 0 0 := by
    have := At_at h (j := 0) (by rw [List.length_append]; omega)
    rw [show s + ((0 : Nat) : Int) = s by omega] at this
    rw [this, List.getD_eq_getElem?_getD, List.getD_eq_getElem?_getD, List.getElem?_append_left (by omega)]
  have hl0 := hw 0 (by omega)
  have hlt : 97 ≤ w.getD 0 0 ∧ w.getD 0 0 ≤ 122 := of_decide_eq_true hl0
  have etk : tkT (tx u) u.length s = (2, s + w.length, 0) := by
    unfold tkT
    rw [h0, if_neg (by omega), if_neg (by omega), if_pos hl0, hs, if_pos (by omega)]
  unfold TK nxT
  rw [hbg, etk]
theorem tk_semi (hu : u.length ≤ 200) (h : At u e (59 :: t)) : TK u e = (4, e, e + 1, 0) := by
  have h0 := At_0 h
  have hb := bg_no hu h fun _ => by rw [h0]; rfl
  have etk : tkT (tx u) u.length e = (4, e + 1, 0) := by
    unfold tkT
    rw [h0, if_neg (by decide), if_pos rfl]
  unfold TK nxT
  rw [hb, etk]
theorem tk_end (hu : u.length ≤ 200) (h : At u e []) : TK u e = (1, e, e, 0) := by
  have hb := bg_no hu h fun z => absurd rfl z
  have etk : tkT (tx u) u.length e = (1, e, 0) := by
    unfold tkT
    rw [At_end h, if_pos rfl]
  unfold TK nxT
  rw [hb, etk]
theorem dgt_r {x : Int} (h : 0 ≤ x ∧ x < 10) : dgt (48 + x) = true := decide_eq_true (by omega)
theorem tk_num (hu : u.length ≤ 200) (h : At u e (32 :: (dig2 v ++ (c :: t)))) (hv : 0 ≤ v ∧ v < 100) (hc : dgt c = false) : TK u e = (3, e + 1, e + 1 + (dig2 v).length, v) := by
  have h1 := At_1 h
  have hn := At_n h1
  have hd : ∀ j, j < (dig2 v).length → dgt ((dig2 v).getD j 0) = true := by
    intro j hj
    unfold dig2 at hj ⊢
    by_cases q : v < 10
    · rw [if_pos q] at hj ⊢
      have : j = 0 := by simpa using hj
      subst this
      exact dgt_r ⟨hv.1, q⟩
    · rw [if_neg q] at hj ⊢
      have : j = 0 ∨ j = 1 := by simp only [List.length_cons, List.length_nil] at hj; omega
      rcases this with z | z
      · subst z
        exact dgt_r (by omega)
      · subst z
        exact dgt_r (by omega)
  have hs := run_at dgt hu h1 hd (fun y ys hy => by rw [← (List.cons.inj hy).1]; exact hc)
  have hl := dig2_len hv
  have hfirst : ∃ x : Int, tx u (e + 1) = 48 + x ∧ 0 ≤ x ∧ x < 10 := by
    unfold dig2 at h1
    by_cases q : v < 10
    · rw [if_pos q] at h1
      exact ⟨v, At_0 h1, hv.1, q⟩
    · rw [if_neg q] at h1
      exact ⟨v / 10, At_0 h1, by omega, by omega⟩
  obtain ⟨x, x1, x2, x3⟩ := hfirst
  have hbg : bgT (tx u) u.length e = e + 1 := by
    have hb : blk (48 + x) = false := decide_eq_false (by omega)
    unfold dig2 at h h1
    by_cases q : v < 10
    · rw [if_pos q] at h h1
      have hx : 48 + x = 48 + v := x1.symm.trans (At_0 h1)
      exact bg_1 hu h (by rw [← hx]; exact hb)
    · rw [if_neg q] at h h1
      have hx : 48 + x = 48 + v / 10 := x1.symm.trans (At_0 h1)
      exact bg_1 hu h (by rw [← hx]; exact hb)
  have hnm : nmL (tx u) u.length (e + 1) 600 (e + 1) 0 = v := by
    unfold dig2 at h1 hn
    by_cases q : v < 10
    · rw [if_pos q] at h1 hn
      have y0 : tx u (e + 1) = 48 + v := At_0 h1
      have y1 : tx u (e + 1 + 1) = c := At_0 (At_1 h1)
      have hn' : e + 1 + ((t.length : Int) + 1 + 1) = u.length := by simpa using hn.2
      rw [nmL, y0, if_pos ⟨by omega, dgt_r ⟨hv.1, q⟩⟩, nmL, y1, if_neg (fun z => by rw [hc] at z; exact absurd z.2 (by decide)), if_pos (by omega)]
      omega
    · rw [if_neg q] at h1 hn
      have y0 : tx u (e + 1) = 48 + v / 10 := At_0 h1
      have y1 : tx u (e + 1 + 1) = 48 + v % 10 := At_0 (At_1 h1)
      have y2 : tx u (e + 1 + 1 + 1) = c := At_0 (At_1 (At_1 h1))
      have hn' : e + 1 + ((t.length : Int) + 1 + 1 + 1) = u.length := by simpa using hn.2
      rw [nmL, y0, if_pos ⟨by omega, dgt_r (by omega)⟩, nmL, y1, if_pos ⟨by omega, dgt_r (by omega)⟩, nmL, y2, if_neg (fun z => by rw [hc] at z; exact absurd z.2 (by decide)), if_pos (by omega), if_pos (by omega)]
      omega
  have etk : tkT (tx u) u.length (e + 1) = (3, e + 1 + (dig2 v).length, v) := by
    unfold tkT
    have nl : ¬ ltr (48 + x) = true := fun z => by
      have : 97 ≤ 48 + x ∧ 48 + x ≤ 122 := of_decide_eq_true z
      omega
    rw [hs, hnm, x1, if_neg (by omega), if_neg (by omega), if_neg nl, if_pos (dgt_r ⟨x2, x3⟩), if_pos (by omega)]
  unfold TK nxT
  rw [hbg, etk]
/-- a word's being told -/
theorem isT_tx (h : At u s (w ++ rest)) (w' : List Int) : isT (tx u) (2, s, s + w.length, 0) w' = decide (w = w') := by
  unfold isT
  rw [decide_eq_decide]
  have hg : ∀ j, j < w.length → tx u (s + j) = w.getD j 0 := fun j hj => by
    rw [At_at h (by rw [List.length_append]; omega), List.getD_eq_getElem?_getD, List.getD_eq_getElem?_getD, List.getElem?_append_left hj]
  constructor
  · rintro ⟨-, h2, h3⟩
    have hl : w.length = w'.length := by
      have h2' : s + (w.length : Int) - s = w'.length := h2
      omega
    refine List.ext_getElem hl fun j j1 j2 => ?_
    have := h3 j j2
    have this' : tx u (s + j) = w'.getD j 0 := this
    rw [hg j j1, List.getD_eq_getElem?_getD, List.getD_eq_getElem?_getD, List.getElem?_eq_getElem j1, List.getElem?_eq_getElem j2] at this'
    exact this'
  · intro z
    subst z
    refine ⟨rfl, ?_, hg⟩
    show s + (w.length : Int) - s = w.length
    omega
theorem st_word (hu : u.length ≤ 200) {i : Nat} (hi : i = 104 ∨ i = 113 ∨ i = 115 ∨ i = 147) (h : At u e (32 :: (wdL i ++ (32 :: t)))) : rdWord (tx u) u.length i (TK u e) = .ok (TK u (e + 1 + (wdL i).length)) ∧ At u (e + 1 + (wdL i).length) (32 :: t) := by
  have h1 := At_1 h
  have h2 := At_dr h1
  have hw : ∀ j, j < (wdL i).length → ltr ((wdL i).getD j 0) = true := by
    rcases hi with z | z | z | z <;> subst z <;> decide
  have hl : 1 ≤ (wdL i).length ∧ (wdL i).length ≤ 8 := by
    rcases hi with z | z | z | z <;> subst z <;> decide
  have hbg : bgT (tx u) u.length e = e + 1 := by
    rcases hi with z | z | z | z <;> subst z <;> exact bg_1 hu h rfl
  have ht := tk_word hu h1 hbg hw hl (fun y ys hy => by rw [← (List.cons.inj hy).1]; rfl)
  refine ⟨?_, h2⟩
  unfold rdWord
  rw [ht, isT_tx h1, if_pos (decide_eq_true rfl)]
  rfl
theorem st_num (hu : u.length ≤ 200) (h : At u e (32 :: (dig2 v ++ (c :: t)))) (hv : 0 ≤ v ∧ v < 100) (hc : dgt c = false) (hlo : lo ≤ v ∧ v ≤ hi) : rdNum (tx u) u.length lo hi (TK u e) = .ok (v, TK u (e + 1 + (dig2 v).length)) ∧ At u (e + 1 + (dig2 v).length) (c :: t) := by
  have ht := tk_num hu h hv hc
  refine ⟨?_, At_dr (At_1 h)⟩
  unfold rdNum
  rw [ht, if_pos rfl, if_pos hlo]
  rfl
theorem st_sign (hu : u.length ≤ 200) (h : At u e (59 :: t)) : rdSign (tx u) u.length (TK u e) = .ok (TK u (e + 1)) ∧ At u (e + 1) t := by
  have ht := tk_semi hu h
  refine ⟨?_, At_1 h⟩
  unfold rdSign
  rw [ht, if_pos rfl]
  rfl
/-- the names that stand -/
def NMS (u : List Int) (f g : Nat → Int) (cn : Nat) : Prop := ∀ i, i < cn → tx u (f i) = 97 + (i : Int) ∧ g i = f i + 1
theorem one_ne {x : Int} {i : Nat} (h : 2 ≤ (wdL i).length) : decide ([x] = wdL i) = false := decide_eq_false fun z => by
  rw [← z] at h
  exact absurd h (by simp)
theorem st_name (hu : u.length ≤ 200) (h : At u e (32 :: c :: 32 :: t)) (hc : 97 ≤ c ∧ c ≤ 122) (hN : NMS u f g cn) (hd : ∀ i : Nat, i < cn → c ≠ 97 + (i : Int)) : rdName (tx u) u.length f g cn (TK u e) = .ok (TK u (e + 2)) ∧ At u (e + 2) (32 :: t) ∧ NMS u (upN f cn (e + 1)) (upN g cn (e + 2)) cn ∧ tx u (e + 1) = c ∧ TK u e = (2, e + 1, e + 2, 0) := by
  have h1 : At u (e + 1) ([c] ++ (32 :: t)) := At_1 h
  have hbg : bgT (tx u) u.length e = e + 1 := bg_1 hu h (decide_eq_false (by omega))
  have ht := tk_word (w := [c]) hu h1 hbg (fun j hj => by
    have : j = 0 := by simpa using hj
    subst this
    exact decide_eq_true hc) (by simp) (fun y ys hy => by rw [← (List.cons.inj hy).1]; rfl)
  have e2 : e + 1 + (([c] : List Int).length : Int) = e + 2 := by
    show e + 1 + 1 = e + 2
    omega
  rw [e2] at ht
  have hi := fun w' => isT_tx h1 w'
  rw [e2] at hi
  have hx : tx u (e + 1) = c := At_0 h1
  have hres : resT (tx u) (2, e + 1, e + 2, 0) = false := by
    unfold resT lawT
    simp only [hi]
    rw [one_ne (by decide), one_ne (by decide), one_ne (by decide), one_ne (by decide), one_ne (by decide), one_ne (by decide), one_ne (by decide), one_ne (by decide), one_ne (by decide), one_ne (by decide), one_ne (by decide), one_ne (by decide)]
    rfl
  have hhas : hasN (tx u) (2, e + 1, e + 2, 0) f g cn = false := decide_eq_false fun ⟨i, i1, i2⟩ => by
    obtain ⟨n1, n2⟩ := hN i i1
    have := (of_decide_eq_true i2).2 0 (by show 0 < (e + 2 - (e + 1)).toNat; omega)
    have this' : tx u (e + 1 + ((0 : Nat) : Int)) = tx u (f i + ((0 : Nat) : Int)) := this
    rw [show e + 1 + ((0 : Nat) : Int) = e + 1 by omega, show f i + ((0 : Nat) : Int) = f i by omega, hx, n1] at this'
    exact hd i i1 this'
  refine ⟨?_, ?_, fun i hi => ?_, hx, ht⟩
  · unfold rdName
    rw [ht, if_pos ⟨rfl, hres⟩, if_neg (by rw [hhas]; decide)]
    rfl
  · have := At_1 (At_1 h)
    rw [show e + 1 + 1 = e + 2 by omega] at this
    exact this
  · unfold upN
    rw [if_neg (by omega), if_neg (by omega)]
    exact hN i hi
end PT
