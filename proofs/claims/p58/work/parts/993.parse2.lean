/-! Of the text alone: a sieve's line, a list's, the whole. -/
/-- the law's word, what stands behind it -/
def lww (x : Int) : List Int := if pt x 6 < 4 then nmT (pt x 6).toNat else if pt x 6 = 4 then wdL 143 else wdL 145
def lwr (x : Int) : List Int := if pt x 6 < 4 then [] else if pt x 6 = 4 then 32 :: (dig2 (2 + pt (x / 8) 9) ++ (32 :: (wdL 147 ++ (32 :: dig2 (1 + pt (x / 64) 6))))) else 32 :: (dig2 (2 + pt (x / 8) 9) ++ (32 :: (dig2 (2 + pt (x / 64) 30) ++ (32 :: dig2 (2 + pt (x / 256) 5)))))
def lwC (x : Int) : Int := if pt x 6 = 5 then 3 else 0
def lwG (x : Int) : Nat → Int := if pt x 6 = 4 then (fun j => if j = 0 then 2 + pt (x / 8) 9 else if j = 1 then 1 + pt (x / 64) 6 else 0) else if pt x 6 = 5 then upN (upN (upN (fun _ => 0) 0 (2 + pt (x / 8) 9)) 1 (2 + pt (x / 64) 30)) 2 (2 + pt (x / 256) 5) else fun _ => 0
/-- the sieve that a cell tells -/
def nsT (x : Int) : Nat → Int := nwS (pt x 6) (pt (x / 4) 6) (1 + pt (x / 32) 3) (2 + pt (x / 128) 60) (lwC x) (lwG x)
theorem sayT_eq (x : Int) (t : List Int) : sayT x ++ t = lww x ++ (lwr x ++ t) := by
  unfold sayT lww lwr
  by_cases q : pt x 6 < 4
  · rw [if_pos q, if_pos q, if_pos q, List.nil_append]
  · by_cases q4 : pt x 6 = 4
    · rw [if_neg q, if_neg q, if_neg q, if_pos q4, if_pos q4, if_pos q4]
      simp only [tw1047, tw1052, wdL, List.append_assoc, List.cons_append, List.nil_append]
    · rw [if_neg q, if_neg q, if_neg q, if_neg q4, if_neg q4, if_neg q4]
      simp only [tw1054, wdL, List.append_assoc, List.cons_append, List.nil_append]
theorem sieveT_eq (k x : Int) (t : List Int) : sieveT k x ++ t = wdL 75 ++ (32 :: (97 + k) :: 32 :: (wdL 104 ++ (32 :: (dig2 (pt (x / 4) 6) ++ (32 :: (wdL 113 ++ (32 :: (dig2 (1 + pt (x / 32) 3) ++ (32 :: (wdL 115 ++ (32 :: (dig2 (2 + pt (x / 128) 60) ++ (32 :: (lww x ++ (lwr x ++ (59 :: t)))))))))))))))) := by
  rw [← sayT_eq]
  simp only [sieveT, tw1064, tw1066, tw1068, tw1070, wdL, List.append_assoc, List.cons_append, List.nil_append]
theorem listT_eq (y : Int) (t : List Int) : listT y ++ t = wdL 85 ++ (32 :: 108 :: 32 :: (dig2 (pt y 20) ++ (32 :: (dig2 (pt y 20 + 1 + pt (y / 32) 9) ++ (59 :: t))))) := by
  simp only [listT, tw1076, wdL, List.append_assoc, List.cons_append, List.nil_append]
section PT
variable {u t w a rest : List Int} {e s c v lo hi k x y : Int} {f g : Nat → Int} {cn cs : Nat}
theorem lw_tok (hu : u.length ≤ 200) (h : At u e (32 :: (lww x ++ (c :: t)))) (hc : ltr c = false) : TK u e = (2, e + 1, e + 1 + (lww x).length, 0) ∧ lawT (tx u) (TK u e) = pt x 6 ∧ At u (e + 1 + (lww x).length) (c :: t) := by
  have h1 := At_1 h
  have pb := pt_b x 6 (by decide)
  have hp : pt x 6 = 0 ∨ pt x 6 = 1 ∨ pt x 6 = 2 ∨ pt x 6 = 3 ∨ pt x 6 = 4 ∨ pt x 6 = 5 := by omega
  have key : ∀ w : List Int, lww x = w → (∀ j, j < w.length → ltr (w.getD j 0) = true) → (1 ≤ w.length ∧ w.length ≤ 8) → (∃ z zs, w = z :: zs ∧ blk z = false) → TK u e = (2, e + 1, e + 1 + (lww x).length, 0) := by
    intro w hw a1 a2 a3
    obtain ⟨z, zs, z1, z2⟩ := a3
    rw [hw] at h h1 ⊢
    have hbg : bgT (tx u) u.length e = e + 1 := by
      rw [z1] at h
      exact bg_1 hu h z2
    exact tk_word hu h1 hbg a1 a2 (fun y ys hy => by rw [← (List.cons.inj hy).1]; exact hc)
  have ht : TK u e = (2, e + 1, e + 1 + (lww x).length, 0) := by
    rcases hp with q | q | q | q | q | q
    · exact key [108, 117, 99, 107, 121] (by unfold lww; rw [q]; rfl) (by decide) (by decide) ⟨_, _, rfl, rfl⟩
    · exact key [102, 108, 97, 118, 105, 117, 115] (by unfold lww; rw [q]; rfl) (by decide) (by decide) ⟨_, _, rfl, rfl⟩
    · exact key [108, 117, 100, 105, 99] (by unfold lww; rw [q]; rfl) (by decide) (by decide) ⟨_, _, rfl, rfl⟩
    · exact key [112, 114, 105, 109, 101] (by unfold lww; rw [q]; rfl) (by decide) (by decide) ⟨_, _, rfl, rfl⟩
    · exact key (wdL 143) (by unfold lww; rw [q]; rfl) (by decide) (by decide) ⟨_, _, rfl, rfl⟩
    · exact key (wdL 145) (by unfold lww; rw [q]; rfl) (by decide) (by decide) ⟨_, _, rfl, rfl⟩
  refine ⟨ht, ?_, At_dr h1⟩
  rw [ht]
  have hi := fun w' => isT_tx h1 w'
  unfold lawT
  simp only [hi]
  rcases hp with q | q | q | q | q | q
  · rw [q, show lww x = [108, 117, 99, 107, 121] by unfold lww; rw [q]; rfl]
    decide
  · rw [q, show lww x = [102, 108, 97, 118, 105, 117, 115] by unfold lww; rw [q]; rfl]
    decide
  · rw [q, show lww x = [108, 117, 100, 105, 99] by unfold lww; rw [q]; rfl]
    decide
  · rw [q, show lww x = [112, 114, 105, 109, 101] by unfold lww; rw [q]; rfl]
    decide
  · rw [q, show lww x = wdL 143 by unfold lww; rw [q]; rfl]
    decide
  · rw [q, show lww x = wdL 145 by unfold lww; rw [q]; rfl]
    decide
theorem rd_law (hu : u.length ≤ 200) (h : At u e (lwr x ++ (59 :: t))) : ∃ e', At u e' (59 :: t) ∧ rdLaw (tx u) u.length (pt x 6) (TK u e) = .ok (lwC x, lwG x, TK u e') := by
  have pb := pt_b x 6 (by decide)
  have p1 := pt_b (x / 8) 9 (by decide)
  have p2 := pt_b (x / 64) 6 (by decide)
  have p3 := pt_b (x / 64) 30 (by decide)
  have p4 := pt_b (x / 256) 5 (by decide)
  unfold lwr at h
  unfold rdLaw lwC lwG
  by_cases q : pt x 6 < 4
  · rw [if_pos q, List.nil_append] at h
    refine ⟨e, h, ?_⟩
    rw [if_neg (by omega), if_neg (by omega), if_neg (by omega), if_neg (by omega), if_neg (by omega)]
  · by_cases q4 : pt x 6 = 4
    · rw [if_neg q, if_pos q4] at h
      simp only [List.append_assoc, List.cons_append] at h
      obtain ⟨a1, h1⟩ := st_num (lo := 2) (hi := 99) hu h (by omega) rfl (by omega)
      obtain ⟨a2, h2⟩ := st_word hu (Or.inr (Or.inr (Or.inr rfl))) h1
      obtain ⟨a3, h3⟩ := st_num (lo := 1) (hi := 60) hu h2 (by omega) rfl (by omega)
      refine ⟨_, h3, ?_⟩
      rw [if_pos q4, if_neg (by omega), if_pos q4]
      unfold rdFix
      rw [a1]
      dsimp only
      rw [a2]
      dsimp only
      rw [a3]
    · have q5 : pt x 6 = 5 := by omega
      rw [if_neg q, if_neg q4] at h
      simp only [List.append_assoc, List.cons_append] at h
      obtain ⟨a1, h1⟩ := st_num (lo := 2) (hi := 999) hu h (by omega) rfl (by omega)
      obtain ⟨a2, h2⟩ := st_num (lo := 2) (hi := 999) hu h1 (by omega) rfl (by omega)
      obtain ⟨a3, h3⟩ := st_num (lo := 2) (hi := 999) hu h2 (by omega) rfl (by omega)
      have t1 := tk_num hu h1 (by omega) (rfl : dgt 32 = false)
      have t2 := tk_num hu h2 (by omega) (rfl : dgt 59 = false)
      have t3 := tk_semi hu h3
      have c1 : ¬ (0 < 0 + 1 ∧ ¬ (TK u (e + 1 + (dig2 (2 + pt (x / 8) 9)).length)).1 = 3) := fun z => z.2 (by rw [t1])
      have c2 : ¬ (0 < 0 + 1 + 1 ∧ ¬ (TK u (e + 1 + (dig2 (2 + pt (x / 8) 9)).length + 1 + (dig2 (2 + pt (x / 64) 30)).length)).1 = 3) := fun z => z.2 (by rw [t2])
      have c3 : 0 < 0 + 1 + 1 + 1 ∧ ¬ (TK u (e + 1 + (dig2 (2 + pt (x / 8) 9)).length + 1 + (dig2 (2 + pt (x / 64) 30)).length + 1 + (dig2 (2 + pt (x / 256) 5)).length)).1 = 3 := ⟨by decide, by rw [t3]; show ¬ (4 : Int) = 3; decide⟩
      refine ⟨_, h3, ?_⟩
      rw [if_neg q4, if_pos q5, if_pos q5, if_neg q4, if_pos q5]
      rw [rdTL, if_neg (fun z => absurd z.1 (by decide)), if_neg (by decide), a1]
      dsimp only
      rw [rdTL, if_neg c1, if_neg (by decide), a2]
      dsimp only
      rw [rdTL, if_neg c2, if_neg (by decide), a3]
      dsimp only
      rw [rdTL, if_pos c3]
      rfl
theorem rd_sieve (hu : u.length ≤ 200) (h : At u e (sieveT k x ++ t)) (hk : k = (cs : Int)) (hcs : cs ≤ 2) (hN : NMS u f g cs) : ∃ e' p, At u e' t ∧ rdSieve (tx u) u.length f g cs cs (TK u e) = .ok (nsT x, TK u e') ∧ isT (tx u) (TK u e) (wdL 75) = true ∧ ¬ (TK u e).1 = 1 ∧ (nxT (tx u) u.length (TK u e).2.2.1).2.1 = p ∧ (nxT (tx u) u.length (TK u e).2.2.1).2.2.1 = p + 1 ∧ tx u p = 97 + k := by
  have pb := pt_b x 6 (by decide)
  have p1 := pt_b (x / 4) 6 (by decide)
  have p2 := pt_b (x / 32) 3 (by decide)
  have p3 := pt_b (x / 128) 60 (by decide)
  rw [sieveT_eq] at h
  have h0 := At_0 (show At u e (115 :: _) from h)
  have t0 := tk_word (e := e) (w := wdL 75) hu h (bg_no hu h fun _ => by rw [h0]; rfl) (by decide) (by decide) (fun y ys hy => by rw [← (List.cons.inj hy).1]; rfl)
  have i0 : isT (tx u) (TK u e) (wdL 75) = true := by
    rw [t0, isT_tx h]
    exact decide_eq_true rfl
  have h1 := At_dr h
  obtain ⟨n1, h2, -, n4, n5⟩ := st_name (f := f) (g := g) (cn := cs) hu h1 (by omega) hN (fun i hi => by omega)
  obtain ⟨a1, h3⟩ := st_word hu (Or.inl rfl) h2
  obtain ⟨a2, h4⟩ := st_num (lo := 0) (hi := 999) hu h3 (by omega) rfl (by omega)
  obtain ⟨a3, h5⟩ := st_word hu (Or.inr (Or.inl rfl)) h4
  obtain ⟨a4, h6⟩ := st_num (lo := 1) (hi := 99) hu h5 (by omega) rfl (by omega)
  obtain ⟨a5, h7⟩ := st_word hu (Or.inr (Or.inr (Or.inl rfl))) h6
  obtain ⟨a6, h8⟩ := st_num (lo := 2) (hi := 600) hu h7 (by omega) rfl (by omega)
  generalize e + (wdL 75).length + 2 + 1 + (wdL 104).length + 1 + (dig2 (pt (x / 4) 6)).length + 1 + (wdL 113).length + 1 + (dig2 (1 + pt (x / 32) 3)).length + 1 + (wdL 115).length + 1 + (dig2 (2 + pt (x / 128) 60)).length = e8 at a6 h8
  have hcl : ∃ c t', lwr x ++ (59 :: t) = c :: t' ∧ ltr c = false := by
    unfold lwr
    by_cases q : pt x 6 < 4
    · rw [if_pos q]
      exact ⟨59, t, rfl, rfl⟩
    · rw [if_neg q]
      by_cases q4 : pt x 6 = 4
      · rw [if_pos q4]
        exact ⟨32, _, rfl, rfl⟩
      · rw [if_neg q4]
        exact ⟨32, _, rfl, rfl⟩
  obtain ⟨c, t', hc1, hc2⟩ := hcl
  rw [hc1] at h8
  obtain ⟨b1, b2, h9⟩ := lw_tok hu h8 hc2
  rw [← hc1] at h9
  obtain ⟨e9, h10, b3⟩ := rd_law hu h9
  obtain ⟨b4, h11⟩ := st_sign hu h10
  have eN : nxT (tx u) u.length (TK u e).2.2.1 = TK u (e + (wdL 75).length) := by rw [t0]; rfl
  refine ⟨e9 + 1, e + (wdL 75).length + 1, h11, ?_, i0, by rw [t0]; show ¬ (2 : Int) = 1; decide, ?_, ?_, n4⟩
  · have eH : rdHead (tx u) u.length f g cs (nxT (tx u) u.length (TK u e).2.2.1) = .ok (pt (x / 4) 6, 1 + pt (x / 32) 3, 2 + pt (x / 128) 60, pt x 6, TK u (e8 + 1 + (lww x).length)) := by
      unfold rdHead
      rw [eN, n1]
      dsimp only
      rw [a1]
      dsimp only
      rw [a2]
      dsimp only
      rw [a3]
      dsimp only
      rw [a4]
      dsimp only
      rw [a5]
      dsimp only
      rw [a6]
      dsimp only
      rw [b2, if_neg (by omega), b1]
      rfl
    unfold rdSieve
    rw [if_neg (by omega), eH]
    dsimp only
    unfold rdTail
    rw [b3]
    dsimp only
    rw [b4]
    rfl
  · rw [eN, n5]
  · rw [eN, n5]
    show e + ((wdL 75).length : Int) + 2 = e + ((wdL 75).length : Int) + 1 + 1
    omega
def lvT (y : Int) : Nat → Int := upN (upN (fun _ => 0) 0 (pt y 20)) 1 (pt y 20 + 1 + pt (y / 32) 9)
theorem rd_list (hu : u.length ≤ 200) (h : At u e (listT y ++ t)) (hcs : cs ≤ 3) (hN : NMS u f g cs) : ∃ e', At u e' t ∧ rdList (tx u) u.length f g cs 0 (TK u e) = .ok (2, lvT y, TK u e') ∧ isT (tx u) (TK u e) (wdL 75) = false ∧ isT (tx u) (TK u e) (wdL 85) = true ∧ ¬ (TK u e).1 = 1 := by
  have p1 := pt_b y 20 (by decide)
  have p2 := pt_b (y / 32) 9 (by decide)
  rw [listT_eq] at h
  have h0 := At_0 (show At u e (108 :: _) from h)
  have t0 := tk_word (e := e) (w := wdL 85) hu h (bg_no hu h fun _ => by rw [h0]; rfl) (by decide) (by decide) (fun y ys hy => by rw [← (List.cons.inj hy).1]; rfl)
  have h1 := At_dr h
  obtain ⟨n1, h2, -, n4, n5⟩ := st_name (f := f) (g := g) (cn := cs) hu h1 (by decide) hN (fun i hi => by omega)
  obtain ⟨a1, h3⟩ := st_num (lo := 0) (hi := 9999) hu h2 (by omega) rfl (by omega)
  obtain ⟨a2, h4⟩ := st_num (lo := pt y 20 + 1) (hi := 9999) hu h3 (by omega) rfl (by omega)
  have t1 := tk_num hu h3 (by omega) (rfl : dgt 59 = false)
  have t2 := tk_semi hu h4
  obtain ⟨a3, h5⟩ := st_sign hu h4
  have eN : nxT (tx u) u.length (TK u e).2.2.1 = TK u (e + (wdL 85).length) := by rw [t0]; rfl
  have c1 : ¬ (0 < 0 + 1 ∧ ¬ (TK u (e + (wdL 85).length + 2 + 1 + (dig2 (pt y 20)).length)).1 = 3) := fun z => z.2 (by rw [t1])
  have c2 : 0 < 0 + 1 + 1 ∧ ¬ (TK u (e + (wdL 85).length + 2 + 1 + (dig2 (pt y 20)).length + 1 + (dig2 (pt y 20 + 1 + pt (y / 32) 9)).length)).1 = 3 := ⟨by decide, by rw [t2]; show ¬ (4 : Int) = 3; decide⟩
  refine ⟨_, h5, ?_, ?_, ?_, by rw [t0]; show ¬ (2 : Int) = 1; decide⟩
  · have eL : rdLL (tx u) u.length 11 0 (fun _ => 0) 0 (TK u (e + (wdL 85).length + 2)) = .ok (2, lvT y, TK u (e + (wdL 85).length + 2 + 1 + (dig2 (pt y 20)).length + 1 + (dig2 (pt y 20 + 1 + pt (y / 32) 9)).length)) := by
      rw [rdLL, if_neg (fun z => absurd z.1 (by decide)), if_neg (by decide), a1]
      dsimp only
      rw [rdLL, if_neg c1, if_neg (by decide), a2]
      dsimp only
      rw [rdLL, if_pos c2]
      rfl
    unfold rdList
    rw [if_neg (by decide), eN, n1]
    dsimp only
    rw [eL]
    dsimp only
    rw [a3]
  · rw [t0, isT_tx h]
    decide
  · rw [t0, isT_tx h]
    decide
theorem tx_sieve (hu : u.length ≤ 200) (h : At u e (sieveT (cs : Int) x ++ t)) (hcs : cs ≤ 2) (hN : NMS u f g cs) (K : Nat) (σ : Nat → Nat → Int) (ln : Nat → Nat) (lv : Nat → Nat → Int) : ∃ e' f' g', At u e' t ∧ NMS u f' g' (cs + 1) ∧ rdText (tx u) u.length (K + 1) f g cs 0 σ ln lv (TK u e) = rdText (tx u) u.length K f' g' (cs + 1) 0 (fun z => if z = cs then nsT x else σ z) ln lv (TK u e') := by
  obtain ⟨e', p, h1, a1, a2, a3, a4, a5, a6⟩ := rd_sieve hu h rfl hcs hN
  refine ⟨e', upN f cs p, upN g cs (p + 1), h1, fun i hi => ?_, ?_⟩
  · unfold upN
    by_cases z : i = cs
    · rw [if_pos z, if_pos z, z]
      exact ⟨a6, rfl⟩
    · rw [if_neg z, if_neg z]
      exact hN i (by omega)
  · rw [rdText, if_neg a3, if_pos a2, Nat.add_zero, a1]
    dsimp only
    rw [a4, a5]
theorem tx_list (hu : u.length ≤ 200) (h : At u e (listT y)) (hcs : cs ≤ 3) (hN : NMS u f g cs) (K : Nat) (σ : Nat → Nat → Int) (ln : Nat → Nat) (lv : Nat → Nat → Int) : rdText (tx u) u.length (K + 1 + 1) f g cs 0 σ ln lv (TK u e) = .ok (cs, 1, σ, fun z => if z = 0 then 2 else ln z, fun z => if z = 0 then lvT y else lv z) := by
  rw [← List.append_nil (listT y)] at h
  obtain ⟨e', h1, a1, a2, a3, a4⟩ := rd_list hu h hcs hN
  have t1 := tk_end hu h1
  rw [rdText, if_neg a4, if_neg (by rw [a2]; decide), if_pos a3, Nat.add_zero, a1]
  dsimp only
  rw [rdText, t1, if_pos rfl]
end PT
/-- the text of two or three sieves and a list -/
def txT (two : Prop) [Decidable two] (x0 x1 x2 y : Int) : List Int := sieveT 0 x0 ++ sieveT 1 x1 ++ (if two then sieveT 2 x2 else []) ++ listT y
theorem rd_all {x0 x1 x2 y : Int} {two : Prop} [Decidable two] {u : List Int} (hu : u.length ≤ 200) (hU : u = txT two x0 x1 x2 y) : ∃ σ' ln' lv', (∀ f g, rdAll (tx u) u.length f g = .ok (if two then 3 else 2, 1, σ', ln', lv')) ∧ σ' 0 = nsT x0 ∧ σ' 1 = nsT x1 ∧ (two → σ' 2 = nsT x2) := by
  have h0 : At u 0 (sieveT ((0 : Nat) : Int) x0 ++ (sieveT ((1 : Nat) : Int) x1 ++ ((if two then sieveT ((2 : Nat) : Int) x2 else []) ++ listT y))) := ⟨[], by rw [hU]; unfold txT; simp only [List.append_assoc, List.nil_append]; rfl, rfl⟩
  by_cases q : two
  · rw [if_pos q] at h0
    refine ⟨fun z => if z = 2 then nsT x2 else if z = 1 then nsT x1 else if z = 0 then nsT x0 else fun _ => 0, fun z => if z = 0 then 2 else 0, fun z => if z = 0 then lvT y else fun _ => 0, fun f g => ?_, ?_, ?_, ?_⟩
    · rw [if_pos q]
      unfold rdAll
      obtain ⟨e1, f1, g1, h1, n1, r1⟩ := tx_sieve (f := f) (g := g) hu h0 (by decide) (fun i hi => by omega) 601 (fun _ _ => 0) (fun _ => 0) (fun _ _ => 0)
      obtain ⟨e2, f2, g2, h2, n2, r2⟩ := tx_sieve hu h1 (by decide) n1 600 (fun z => if z = 0 then nsT x0 else fun _ => 0) (fun _ => 0) (fun _ _ => 0)
      obtain ⟨e3, f3, g3, h3, n3, r3⟩ := tx_sieve hu h2 (by decide) n2 599 (fun z => if z = 1 then nsT x1 else if z = 0 then nsT x0 else fun _ => 0) (fun _ => 0) (fun _ _ => 0)
      have r4 := tx_list hu h3 (by decide) n3 597 (fun z => if z = 2 then nsT x2 else if z = 1 then nsT x1 else if z = 0 then nsT x0 else fun _ => 0) (fun _ => 0) (fun _ _ => 0)
      exact r1.trans (r2.trans (r3.trans r4))
    · rfl
    · rfl
    · intro _
      rfl
  · rw [if_neg q, List.nil_append] at h0
    refine ⟨fun z => if z = 1 then nsT x1 else if z = 0 then nsT x0 else fun _ => 0, fun z => if z = 0 then 2 else 0, fun z => if z = 0 then lvT y else fun _ => 0, fun f g => ?_, ?_, ?_, fun z => absurd z q⟩
    · rw [if_neg q]
      unfold rdAll
      obtain ⟨e1, f1, g1, h1, n1, r1⟩ := tx_sieve (f := f) (g := g) hu h0 (by decide) (fun i hi => by omega) 601 (fun _ _ => 0) (fun _ => 0) (fun _ _ => 0)
      obtain ⟨e2, f2, g2, h2, n2, r2⟩ := tx_sieve hu h1 (by decide) n1 600 (fun z => if z = 0 then nsT x0 else fun _ => 0) (fun _ => 0) (fun _ _ => 0)
      have r4 := tx_list hu h2 (by decide) n2 598 (fun z => if z = 1 then nsT x1 else if z = 0 then nsT x0 else fun _ => 0) (fun _ => 0) (fun _ _ => 0)
      exact r1.trans (r2.trans r4)
    · rfl
    · rfl
section NS
variable {x : Int}
/-- a sieve just read is what the law's cell tells -/
theorem nsT_LD : nsT x 0 = pt x 6 ∧ szS (nsT x) = 2 + pt (x / 128) 60 ∧ CR (nsT x) x := by
  have p3 := pt_b (x / 128) 60 (by decide)
  refine ⟨rfl, ?_, fun h4 => ?_, fun h5 => ?_⟩
  · have e3 : nsT x 3 = 2 + pt (x / 128) 60 := rfl
    unfold szS
    rw [e3, ctN_all (P := hbS (nsT x)) _ fun i _ => nwS_hb i]
    omega
  · have h4' : pt x 6 = 4 := h4
    have e8 : nsT x 8 = lwG x 0 := rfl
    have e9 : nsT x 9 = lwG x 1 := rfl
    rw [e8, e9]
    unfold lwG
    rw [if_pos h4']
    exact ⟨rfl, rfl⟩
  · have h5' : pt x 6 = 5 := h5
    have e7 : nsT x 7 = lwC x := rfl
    have e8 : nsT x 8 = lwG x 0 := rfl
    have e9 : nsT x 9 = lwG x 1 := rfl
    have e10 : nsT x 10 = lwG x 2 := rfl
    rw [e7, e8, e9, e10]
    have n4 : ¬ pt x 6 = 4 := by omega
    unfold lwG lwC
    rw [if_pos h5', if_neg n4, if_pos h5']
    exact ⟨rfl, rfl, rfl, rfl⟩
end NS
