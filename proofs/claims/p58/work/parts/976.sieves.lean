/-! The law's text of two or three sieves and a list. -/
/-- a cell of the script -/
def cel (E : AE) (G : Nat → Nat → Int) (b k : Nat) : Int := if k < le E b then G b k else 0
/-- the script at b -/
def SCR (E : AE) (G : Nat → Nat → Int) (b : Nat) : Prop := (kd E b = 7 ∧ b < E.1 ∧ le E b ≤ 100000) ∧ ∀ k, -2147483648 ≤ G b k ∧ G b k < 2147483648
def sieveT (k x : Int) : List Int := tw1064 ++ [97 + k] ++ tw1066 ++ dig2 (pt (x / 4) 6) ++ tw1068 ++ dig2 (1 + pt (x / 32) 3) ++ tw1070 ++ dig2 (2 + pt (x / 128) 60) ++ [32] ++ sayT x ++ [59]
def listT (y : Int) : List Int := tw1076 ++ dig2 (pt y 20) ++ [32] ++ dig2 (pt y 20 + 1 + pt (y / 32) 9) ++ [59]
section BS
variable {E E' E0 : AE} {G G' L L' G0 L0 : Nat → Nat → Int} {r r' r0 : Nat → Nat → Option Nat} {h : AH} {Q : AH → Value → Prop} {a b v s w : Nat} {x y z n c i : Int} {t u : List Int}
theorem SCR_x (hs : SCR E G b) (hx : XT E E') (hf : G' b = G b) : SCR E' G' b ∧ ∀ k, cel E' G' b k = cel E G b k := by
  obtain ⟨⟨k1, k2, k3⟩, k4⟩ := hs
  have kw := hx.kd k2
  have hl := hx.1
  refine ⟨⟨⟨kw.1.trans k1, by omega, by rw [kw.2]; exact k3⟩, fun k => by rw [hf]; exact k4 k⟩, fun k => ?_⟩
  unfold cel
  rw [kw.2, hf]
theorem cel_b (hs : SCR E G b) (k : Nat) : -2147483648 ≤ cel E G b k ∧ cel E G b k < 2147483648 := by
  unfold cel
  split
  · exact hs.2 k
  · decide
theorem c_cell {k : Nat} (hs : SCR E G b) (hk : k < 1000) : RK ML_cell 0 [.ref b, .int (zi (k : Int))] [] (0, 0) (E, zg G, zk L, r) Q = Q (E, zg G, zk L, r) (.int (zi (cel E G b k))) := by
  obtain ⟨⟨k1, k2, k3⟩, k4⟩ := hs
  have k7 : (1 ≤ kd E b ∧ kd E b ≤ 9) ∧ kd E b ≠ 3 ∧ kd E b ≠ 4 := by omega
  unfold cel
  rw [fL_cell_0, fL_cell_1, fL_cell_2 k7, fL_cell_3 (by omega) (by omega)]
  by_cases c : k < le E b
  · rw [if_pos c, if_pos (show (k : Int) < (le E b : Int) by omega), fL_cell_6, fL_cell_7, fL_cell_8 (Or.inr k1) (zi_inr (by omega) (by omega)), zi_cl (by omega), Int.toNat_natCast, fL_cell_9, fL_cell_13]
  · rw [if_neg c, if_neg (show ¬ (k : Int) < (le E b : Int) by omega), fL_cell_12, fL_cell_13]
theorem i2c (hc : 0 ≤ c ∧ c < 128) : ((zi c).toUInt32 % 65536).toInt32 = zi c := by
  apply zi_ext
  show ((zi c).toUInt32 % 65536).toNat = (zi c).toUInt32.toNat
  rw [UInt32.toNat_mod, zi_nat]
  show (c % 4294967296).toNat % 65536 = _
  omega
theorem nmT_f (k : Nat) : (nmT k).length ≤ 7 := nmT_l k
theorem sayT_l (x : Int) : (sayT x).length ≤ 18 := by
  have a1 := nmT_l (pt x 6).toNat
  have a2 := dig2_l (2 + pt (x / 8) 9)
  have a3 := dig2_l (1 + pt (x / 64) 6)
  have a4 := dig2_l (2 + pt (x / 64) 30)
  have a5 := dig2_l (2 + pt (x / 256) 5)
  have e1 : tw1047.length = 6 := rfl
  have e2 : tw1052.length = 8 := rfl
  have e3 : tw1054.length = 5 := rfl
  have e4 : ([32] : List Int).length = 1 := rfl
  unfold sayT
  split
  · omega
  · split
    · simp only [List.length_append]
      omega
    · simp only [List.length_append]
      omega
def siA (k x : Int) : List Int := tw1064 ++ [97 + k] ++ tw1066 ++ dig2 (pt (x / 4) 6) ++ tw1068 ++ dig2 (1 + pt (x / 32) 3)
theorem siA_l (k x : Int) : (siA k x).length ≤ 21 := by
  have d1 := dig2_l (pt (x / 4) 6)
  have d2 := dig2_l (1 + pt (x / 32) 3)
  have w1 : tw1064.length = 6 := rfl
  have w2 : tw1066.length = 6 := rfl
  have w3 : tw1068.length = 4 := rfl
  have w5 : ([97 + k] : List Int).length = 1 := rfl
  unfold siA
  simp only [List.length_append]
  omega
theorem sieve_a {k k1 k2 : Nat} {l3 : Value} (hb : BS0 E0 G0 L0 r0 E G L r a v t) (hc : LWC E0 r0 G0) (hs : SCR E0 G0 b) (hbl : b < E0.1) (hk : k < 3) (hL : t.length ≤ 110) (g1 : k1 + 16 ≤ 60) (g2 : k2 + 9600 ≤ 33000) (hX : x = cel E0 G0 b (k + 1)) : ∃ E' G' L' r' v', BS0 E0 G0 L0 r0 E' G' L' r' a v' (t ++ siA k x) ∧ ∀ Q, RK ML_sieves 25 [.ref b, .ref a, .int (zi (k : Int)), l3] [] (k1, k2) (E, zg G, zk L, r) Q = RK ML_sieves 80 [.ref b, .ref a, .int (zi (k : Int)), .int (zi x)] [.ref a] (k1 + 1 + 1 + 1 + 1 + 1 + 1, k2 + 600 + 600 + 600 + 600 + 600 + 600) (E', zg G', zk L', r') Q := by
  obtain ⟨hs1, ce⟩ := SCR_x (G' := G) hs hb.1 (hb.2.1 b hbl).1
  have eC := fun Q => c_cell (L := L) (r := r) (Q := Q) (k := k + 1) hs1 (by omega)
  have hx := cel_b hs (k + 1)
  rw [ce] at eC
  rw [← hX] at hx eC
  have eP := fun x n (hn : 0 < n ∧ n < 1000) h Q => c_part (x := x) (n := n) (h := h) (Q := Q) hn
  obtain ⟨-, ⟨k1047, k1052, k1054, k1064, k1066, k1068, k1070, k1076⟩, ⟨q1, q2, q3⟩, q4⟩ := id hc
  have p1 := pt_b (x / 4) 6 (by decide)
  have p2 := pt_b (x / 32) 3 (by decide)
  have p3 := pt_b (x / 128) 60 (by decide)
  have w1 : tw1064.length = 6 := rfl
  have w2 : tw1066.length = 6 := rfl
  have w3 : tw1068.length = 4 := rfl
  have w4 : tw1070.length = 6 := rfl
  have w5 : ([97 + (k : Int)] : List Int).length = 1 := rfl
  have w6 : ([32] : List Int).length = 1 := rfl
  have w7 : ([59] : List Int).length = 1 := rfl
  have d1 := dig2_l (pt (x / 4) 6)
  have d2 := dig2_l (1 + pt (x / 32) 3)
  have d3 := dig2_l (2 + pt (x / 128) 60)
  have d4 := sayT_l x
  obtain ⟨E1, G1, L1, r1, v1, h1, e1⟩ := s_text hb k1064 (by omega)
  have n1 : (t ++ tw1064).length = (t).length + (tw1064).length := List.length_append
  obtain ⟨E2, G2, L2, r2, v2, h2, e2⟩ := s_char (x := 97 + (k : Int)) h1 (by omega) (by omega)
  have n2 : (t ++ tw1064 ++ [97 + (k : Int)]).length = (t ++ tw1064).length + ([97 + (k : Int)]).length := List.length_append
  obtain ⟨E3, G3, L3, r3, v3, h3, e3⟩ := s_text h2 k1066 (by omega)
  have n3 : (t ++ tw1064 ++ [97 + (k : Int)] ++ tw1066).length = (t ++ tw1064 ++ [97 + (k : Int)]).length + (tw1066).length := List.length_append
  obtain ⟨E4, G4, L4, r4, v4, h4, e4⟩ := s_int (x := pt (x / 4) 6) h3 hc (by omega) (by omega)
  have n4 : (t ++ tw1064 ++ [97 + (k : Int)] ++ tw1066 ++ dig2 (pt (x / 4) 6)).length = (t ++ tw1064 ++ [97 + (k : Int)] ++ tw1066).length + (dig2 (pt (x / 4) 6)).length := List.length_append
  obtain ⟨E5, G5, L5, r5, v5, h5, e5⟩ := s_text h4 k1068 (by omega)
  have n5 : (t ++ tw1064 ++ [97 + (k : Int)] ++ tw1066 ++ dig2 (pt (x / 4) 6) ++ tw1068).length = (t ++ tw1064 ++ [97 + (k : Int)] ++ tw1066 ++ dig2 (pt (x / 4) 6)).length + (tw1068).length := List.length_append
  obtain ⟨E6, G6, L6, r6, v6, h6, e6⟩ := s_int (x := 1 + pt (x / 32) 3) h5 hc (by omega) (by omega)
  have n6 : (t ++ tw1064 ++ [97 + (k : Int)] ++ tw1066 ++ dig2 (pt (x / 4) 6) ++ tw1068 ++ dig2 (1 + pt (x / 32) 3)).length = (t ++ tw1064 ++ [97 + (k : Int)] ++ tw1066 ++ dig2 (pt (x / 4) 6) ++ tw1068).length + (dig2 (1 + pt (x / 32) 3)).length := List.length_append
  refine ⟨E6, G6, L6, r6, v6, ?_, fun Q => ?_⟩
  · unfold siA
    simp only [← List.append_assoc]
    exact h6
  · have ek : (1 : Int) + (k : Int) = ((k + 1 : Nat) : Int) := by omega
    rw [fL_sieves_25, fL_sieves_26, fL_sieves_27, fL_sieves_28, ek, fL_sieves_29 (by omega) (by omega), eC, fL_sieves_32 (c2_int _), fL_sieves_33, fL_sieves_34, (BS0_k hb).2, fL_sieves_36 (by omega) (by omega) (BS0_k hb).1, e1]
    rw [fL_sieves_39, fL_sieves_41, fL_sieves_42, fL_sieves_43, i2c (by omega), fL_sieves_44 (by omega) (by omega) (BS0_k h1).1, e2]
    rw [fL_sieves_47, (BS0_k h2).2, fL_sieves_49 (by omega) (by omega) (BS0_k h2).1, e3]
    rw [fL_sieves_52, fL_sieves_53, fL_sieves_54, sh2 hx, fL_sieves_55, fL_sieves_57 (by omega) (by omega), eP _ _ (by decide), fL_sieves_60 (by omega) (by omega) (BS0_k h3).1, e4]
    rw [fL_sieves_63, (BS0_k h4).2, fL_sieves_65 (by omega) (by omega) (BS0_k h4).1, e5]
    rw [fL_sieves_68, fL_sieves_69, fL_sieves_70, fL_sieves_71, sh5 hx, fL_sieves_72, fL_sieves_73 (by omega) (by omega), eP _ _ (by decide), fL_sieves_76, fL_sieves_77 (by omega) (by omega) (BS0_k h5).1, e6]
theorem sieve_b {k k1 k2 : Nat} (hb : BS0 E0 G0 L0 r0 E G L r a v t) (hc : LWC E0 r0 G0) (hk : k < 3) (hL : t.length ≤ 140) (g1 : k1 + 10 ≤ 60) (g2 : k2 + 6000 ≤ 33000) (hx : -2147483648 ≤ x ∧ x < 2147483648) : ∃ E' G' L' r' v', BS0 E0 G0 L0 r0 E' G' L' r' a v' (t ++ tw1070 ++ dig2 (2 + pt (x / 128) 60) ++ [32] ++ sayT x ++ [59]) ∧ ∀ Q, RK ML_sieves 80 [.ref b, .ref a, .int (zi (k : Int)), .int (zi x)] [.ref a] (k1, k2) (E, zg G, zk L, r) Q = RK ML_sieves 10 [.ref b, .ref a, .int (zi ((k : Int) + 1)), .int (zi x)] [] (k1 + 1 + 1 + 1 + 6 + 1, k2 + 600 + 600 + 600 + 3600 + 600) (E', zg G', zk L', r') Q := by
  have eP := fun x n (hn : 0 < n ∧ n < 1000) h Q => c_part (x := x) (n := n) (h := h) (Q := Q) hn
  obtain ⟨-, ⟨k1047, k1052, k1054, k1064, k1066, k1068, k1070, k1076⟩, ⟨q1, q2, q3⟩, q4⟩ := id hc
  have p1 := pt_b (x / 4) 6 (by decide)
  have p2 := pt_b (x / 32) 3 (by decide)
  have p3 := pt_b (x / 128) 60 (by decide)
  have w1 : tw1064.length = 6 := rfl
  have w2 : tw1066.length = 6 := rfl
  have w3 : tw1068.length = 4 := rfl
  have w4 : tw1070.length = 6 := rfl
  have w5 : ([97 + (k : Int)] : List Int).length = 1 := rfl
  have w6 : ([32] : List Int).length = 1 := rfl
  have w7 : ([59] : List Int).length = 1 := rfl
  have d1 := dig2_l (pt (x / 4) 6)
  have d2 := dig2_l (1 + pt (x / 32) 3)
  have d3 := dig2_l (2 + pt (x / 128) 60)
  have d4 := sayT_l x
  obtain ⟨E7, G7, L7, r7, v7, h7, e7⟩ := s_text hb k1070 (by omega)
  have n7 : (t ++ tw1070).length = (t).length + (tw1070).length := List.length_append
  obtain ⟨E8, G8, L8, r8, v8, h8, e8⟩ := s_int (x := 2 + pt (x / 128) 60) h7 hc (by omega) (by omega)
  have n8 : (t ++ tw1070 ++ dig2 (2 + pt (x / 128) 60)).length = (t ++ tw1070).length + (dig2 (2 + pt (x / 128) 60)).length := List.length_append
  obtain ⟨E9, G9, L9, r9, v9, h9, e9⟩ := s_char (x := 32) h8 (by omega) (by omega)
  have n9 : (t ++ tw1070 ++ dig2 (2 + pt (x / 128) 60) ++ [32]).length = (t ++ tw1070 ++ dig2 (2 + pt (x / 128) 60)).length + ([32]).length := List.length_append
  obtain ⟨E10, G10, L10, r10, v10, h10, e10⟩ := says_ok h9 hc hx (by omega)
  have n10 : (t ++ tw1070 ++ dig2 (2 + pt (x / 128) 60) ++ [32] ++ sayT x).length = (t ++ tw1070 ++ dig2 (2 + pt (x / 128) 60) ++ [32]).length + (sayT x).length := List.length_append
  obtain ⟨E11, G11, L11, r11, v11, h11, e11⟩ := s_char (x := 59) h10 (by omega) (by omega)
  have n11 : (t ++ tw1070 ++ dig2 (2 + pt (x / 128) 60) ++ [32] ++ sayT x ++ [59]).length = (t ++ tw1070 ++ dig2 (2 + pt (x / 128) 60) ++ [32] ++ sayT x).length + ([59]).length := List.length_append
  refine ⟨E11, G11, L11, r11, v11, h11, fun Q => ?_⟩
  rw [fL_sieves_80, (BS0_k hb).2, fL_sieves_82 (by omega) (by omega) (BS0_k hb).1, e7]
  rw [fL_sieves_85, fL_sieves_86, fL_sieves_87, fL_sieves_89, sh7 hx, fL_sieves_90, fL_sieves_92 (by omega) (by omega), eP _ _ (by decide), fL_sieves_95, fL_sieves_96 (by omega) (by omega) (BS0_k h7).1, e8]
  rw [fL_sieves_99, fL_sieves_101 (by omega) (by omega) (BS0_k h8).1, e9]
  rw [fL_sieves_104 (c2_ref _), fL_sieves_105, fL_sieves_106, fL_sieves_107 (by omega) (by omega), e10]
  rw [fL_sieves_110, fL_sieves_111, fL_sieves_113 (by omega) (by omega) (BS0_k h10).1, e11]
  rw [fL_sieves_116 (c2_ref _), fL_sieves_117 (c2_ref _), fL_sieves_120]
theorem q_9600 {k1 k2 K1 K2 : Nat} (m1 : k1 + 16 = K1) (m2 : k2 + 9600 = K2) : k1 + 1 + 1 + 1 + 1 + 1 + 1 + 1 + 1 + 1 + 6 + 1 = K1 ∧ k2 + 600 + 600 + 600 + 600 + 600 + 600 + 600 + 600 + 600 + 3600 + 600 = K2 := by omega
theorem q_960b {k1 k2 : Nat} (m1 : k1 + 16 ≤ 60) (m2 : k2 + 9600 ≤ 33000) : k1 + 1 + 1 + 1 + 1 + 1 + 1 + 10 ≤ 60 ∧ k2 + 600 + 600 + 600 + 600 + 600 + 600 + 6000 ≤ 33000 := by omega
theorem sieve_step {k k1 k2 K1 K2 : Nat} {l3 : Value} (hb : BS0 E0 G0 L0 r0 E G L r a v t) (hc : LWC E0 r0 G0) (hs : SCR E0 G0 b) (hbl : b < E0.1) (hk : k < 3) (hL : t.length ≤ 110) (g1 : k1 + 16 ≤ 60) (g2 : k2 + 9600 ≤ 33000) (hl3 : c2 l3 = false) (m1 : k1 + 16 = K1) (m2 : k2 + 9600 = K2) : ∃ E' G' L' r' v' l', c2 l' = false ∧ BS0 E0 G0 L0 r0 E' G' L' r' a v' (t ++ sieveT k (cel E0 G0 b (k + 1))) ∧ ∀ Q, RK ML_sieves 25 [.ref b, .ref a, .int (zi (k : Int)), l3] [] (k1, k2) (E, zg G, zk L, r) Q = RK ML_sieves 10 [.ref b, .ref a, .int (zi ((k : Int) + 1)), l'] [] (K1, K2) (E', zg G', zk L', r') Q := by
  obtain ⟨x, hX⟩ : ∃ x, x = cel E0 G0 b (k + 1) := ⟨_, rfl⟩
  have hx := cel_b hs (k + 1)
  obtain ⟨E1, G1, L1, r1, v1, h1, e1⟩ := sieve_a (l3 := l3) hb hc hs hbl hk hL g1 g2 hX
  rw [← hX] at hx ⊢
  have n0 := siA_l (k : Int) x
  have n1 : (t ++ siA k x).length = t.length + (siA k x).length := List.length_append
  obtain ⟨E2, G2, L2, r2, v2, h2, e2⟩ := sieve_b (b := b) (k := k) (x := x) (k1 := k1 + 1 + 1 + 1 + 1 + 1 + 1) (k2 := k2 + 600 + 600 + 600 + 600 + 600 + 600) h1 hc hk (by omega) (q_960b g1 g2).1 (q_960b g1 g2).2 hx
  refine ⟨E2, G2, L2, r2, v2, .int (zi x), c2_int _, ?_, fun Q => ?_⟩
  · unfold sieveT
    unfold siA at h2
    simp only [← List.append_assoc] at h2 ⊢
    exact h2
  · obtain ⟨q1, q2⟩ := q_9600 m1 m2
    rw [e1, e2, q1, q2]
/-- a new String tells u, all before E0 stands -/
def NST (E0 : AE) (G0 L0 : Nat → Nat → Int) (r0 : Nat → Nat → Option Nat) (E : AE) (G L : Nat → Nat → Int) (r : Nat → Nat → Option Nat) (s w : Nat) (u : List Int) : Prop := XT E0 E ∧ (∀ x, x < E0.1 → G x = G0 x ∧ L x = L0 x ∧ r x = r0 x) ∧ (STR E r G s w ∧ TXT E G w u) ∧ (E0.1 ≤ s ∧ E0.1 ≤ w) ∧ s < E.1 ∧ w < E.1
theorem sieves_end {k1 k2 : Nat} {l2 l3 : Value} (hb : BS0 E0 G0 L0 r0 E G L r a v t) (hc : LWC E0 r0 G0) (hs : SCR E0 G0 b) (hbl : b < E0.1) (hL : t.length ≤ 160) (g1 : k1 + 7 ≤ 60) (g2 : k2 + 3604 ≤ 33000) (hl2 : c2 l2 = false) (hl3 : c2 l3 = false) : ∃ E' G' L' r' s w, NST E0 G0 L0 r0 E' G' L' r' s w (t ++ listT (cel E0 G0 b 4)) ∧ ∀ Q, RK ML_sieves 123 [.ref b, .ref a, l2, l3] [] (k1, k2) (E, zg G, zk L, r) Q = Q (E', zg G', zk L', r') (.ref s) := by
  have eP := fun x n (hn : 0 < n ∧ n < 1000) h Q => c_part (x := x) (n := n) (h := h) (Q := Q) hn
  obtain ⟨-, ⟨k1047, k1052, k1054, k1064, k1066, k1068, k1070, k1076⟩, ⟨q1, q2, q3⟩, q4⟩ := id hc
  obtain ⟨hs1, ce⟩ := SCR_x (G' := G) hs hb.1 (hb.2.1 b hbl).1
  have eC := fun Q => c_cell (L := L) (r := r) (Q := Q) (k := 4) hs1 (by omega)
  rw [ce] at eC
  have hy := cel_b hs 4
  obtain ⟨y, hY⟩ : ∃ y, y = cel E0 G0 b 4 := ⟨_, rfl⟩
  rw [← hY] at hy eC ⊢
  have p1 := pt_b y 20 (by decide)
  have p2 := pt_b (y / 32) 9 (by decide)
  have w1 : tw1076.length = 7 := rfl
  have w6 : ([32] : List Int).length = 1 := rfl
  have w7 : ([59] : List Int).length = 1 := rfl
  have d1 := dig2_l (pt y 20)
  have d2 := dig2_l (pt y 20 + 1 + pt (y / 32) 9)
  obtain ⟨E1, G1, L1, r1, v1, h1, e1⟩ := s_text hb k1076 (by omega)
  have n1 : (t ++ tw1076).length = (t).length + (tw1076).length := List.length_append
  obtain ⟨E2, G2, L2, r2, v2, h2, e2⟩ := s_int (x := pt y 20) h1 hc (by omega) (by omega)
  have n2 : (t ++ tw1076 ++ dig2 (pt y 20)).length = (t ++ tw1076).length + (dig2 (pt y 20)).length := List.length_append
  obtain ⟨E3, G3, L3, r3, v3, h3, e3⟩ := s_char (x := 32) h2 (by omega) (by omega)
  have n3 : (t ++ tw1076 ++ dig2 (pt y 20) ++ [32]).length = (t ++ tw1076 ++ dig2 (pt y 20)).length + ([32]).length := List.length_append
  obtain ⟨E4, G4, L4, r4, v4, h4, e4⟩ := s_int (x := pt y 20 + 1 + pt (y / 32) 9) h3 hc (by omega) (by omega)
  have n4 : (t ++ tw1076 ++ dig2 (pt y 20) ++ [32] ++ dig2 (pt y 20 + 1 + pt (y / 32) 9)).length = (t ++ tw1076 ++ dig2 (pt y 20) ++ [32]).length + (dig2 (pt y 20 + 1 + pt (y / 32) 9)).length := List.length_append
  obtain ⟨E5, G5, L5, r5, v5, h5, e5⟩ := s_char (x := 59) h4 (by omega) (by omega)
  have n5 : (t ++ tw1076 ++ dig2 (pt y 20) ++ [32] ++ dig2 (pt y 20 + 1 + pt (y / 32) 9) ++ [59]).length = (t ++ tw1076 ++ dig2 (pt y 20) ++ [32] ++ dig2 (pt y 20 + 1 + pt (y / 32) 9)).length + ([59]).length := List.length_append
  obtain ⟨E6, G6, L6, r6, ⟨x6, y6⟩, f6, ⟨s6, t6⟩, e6⟩ := b_told (L := L5) h5.2.2.2.1
  have xl := h5.1.1
  obtain ⟨hs4, ce4⟩ := SCR_x (G' := G3) hs h3.1 (h3.2.1 b hbl).1
  have eC3 := fun Q => c_cell (L := L3) (r := r3) (Q := Q) (k := 4) hs4 (by omega)
  rw [ce4, ← hY] at eC3
  refine ⟨E6, G6, L6, r6, E5.1, E5.1 + 1, ⟨h5.1.trans x6, fun x hx => ?_, ⟨s6, ?_⟩, ⟨xl, by omega⟩, by omega, by omega⟩, fun Q => ?_⟩
  · obtain ⟨z1, z2, z3⟩ := f6 x (by omega)
    obtain ⟨o1, o2, o3⟩ := h5.2.1 x hx
    exact ⟨z1.trans o1, z2.trans o2, z3.trans o3⟩
  · unfold listT
    simp only [← List.append_assoc]
    exact t6
  · rw [fL_sieves_123, fL_sieves_124, show (4 : Int) = ((4 : Nat) : Int) from rfl, fL_sieves_125 (by omega) (by omega), eC, fL_sieves_128, fL_sieves_130 (by omega) (by omega), eP _ _ (by decide), fL_sieves_133 (c2_ref _), fL_sieves_134, fL_sieves_135, (BS0_k hb).2, fL_sieves_137 (by omega) (by omega) (BS0_k hb).1, e1]
    rw [fL_sieves_140, fL_sieves_141 (by omega) (by omega) (BS0_k h1).1, e2]
    rw [fL_sieves_144, fL_sieves_146 (by omega) (by omega) (BS0_k h2).1, e3]
    rw [fL_sieves_149, fL_sieves_150, fL_sieves_151, fL_sieves_152, fL_sieves_153, show (4 : Int) = ((4 : Nat) : Int) from rfl, fL_sieves_154 (by omega) (by omega), eC3, fL_sieves_157, fL_sieves_158, sh5 hy, fL_sieves_159, fL_sieves_161 (by omega) (by omega), eP _ _ (by decide), fL_sieves_164, fL_sieves_165 (by omega) (by omega) (BS0_k h3).1, e4]
    rw [fL_sieves_168, fL_sieves_170 (by omega) (by omega) (BS0_k h4).1, e5]
    rw [fL_sieves_173 (by omega) (by omega) (BS0_k h5).1, e6, fL_sieves_176]
/-- the whole text that the cells tell -/
def scrT (E : AE) (G : Nat → Nat → Int) (b : Nat) : List Int := sieveT 0 (cel E G b 1) ++ sieveT 1 (cel E G b 2) ++ (if pt (cel E G b 0) 2 = 1 then sieveT 2 (cel E G b 3) else []) ++ listT (cel E G b 4)
theorem sieveT_l (k x : Int) : (sieveT k x).length ≤ 50 := by
  have d1 := dig2_l (pt (x / 4) 6)
  have d2 := dig2_l (1 + pt (x / 32) 3)
  have d3 := dig2_l (2 + pt (x / 128) 60)
  have d4 := sayT_l x
  have w1 : tw1064.length = 6 := rfl
  have w2 : tw1066.length = 6 := rfl
  have w3 : tw1068.length = 4 := rfl
  have w4 : tw1070.length = 6 := rfl
  have w5 : ([97 + k] : List Int).length = 1 := rfl
  have w6 : ([32] : List Int).length = 1 := rfl
  have w7 : ([59] : List Int).length = 1 := rfl
  unfold sieveT
  simp only [List.length_append]
  omega
theorem sieves_ok (hc : LWC E r G) (hs : SCR E G b) : ∃ E' G' L' r' s w, NST E G L r E' G' L' r' s w (scrT E G b) ∧ ∀ Q, RK ML_sieves 0 [.ref b, jk, jk, jk] [] (0, 0) (E, zg G, zk L, r) Q = Q (E', zg G', zk L', r') (.ref s) := by
  have eP := fun x n (hn : 0 < n ∧ n < 1000) h Q => c_part (x := x) (n := n) (h := h) (Q := Q) hn
  have hbl := hs.1.2.1
  obtain ⟨E1, hE1⟩ : ∃ E1 : AE, E1 = (E.1 + 1, u1 E.2.1 E.1 (17, 4), E.2.2) := ⟨_, rfl⟩
  have x1 : XT E E1 := by
    rw [hE1]
    exact ⟨Nat.le_succ _, rfl, fun x hx => v1_a _ _ _ (Nat.ne_of_lt hx)⟩
  have n1 : E1.1 = E.1 + 1 := by rw [hE1]
  have kE : kd E1 E.1 = 17 := by
    rw [hE1]
    exact congrArg Prod.fst (v1_s _ _ _)
  obtain ⟨E2, G2, L2, r2, ⟨x2, y2⟩, f2, hB, e2⟩ := b_init (L := u1 L E.1 (fun _ => 0)) (r := u1 r E.1 (fun _ => none)) (G := u1 G E.1 (fun _ => 0)) kE (by omega) (by rw [v1_s])
  have hb : BS0 E G L r E2 G2 L2 r2 E.1 E1.1 [] := ⟨x1.trans x2, fun x hx => by
    obtain ⟨z1, z2, z3⟩ := f2 x (by omega) (by omega)
    rw [z1, z2, z3, v1_a _ _ _ (by omega), v1_a _ _ _ (by omega), v1_a _ _ _ (by omega)]
    exact ⟨rfl, rfl, rfl⟩, ⟨Nat.le_refl _, by omega⟩, hB, by omega⟩
  have eT : ∀ (E' : AE) (G' L' : Nat → Nat → Int) r' (k : Int) l3 k1 k2 Q, SCR E' G' b → cel E' G' b 0 = cel E G b 0 → (0 ≤ k ∧ k ≤ 3) → k1 ≤ 60 → k2 ≤ 33000 → RK ML_sieves 10 [.ref b, .ref E.1, .int (zi k), l3] [] (k1, k2) (E', zg G', zk L', r') Q = if k < 2 + pt (cel E G b 0) 2 then RK ML_sieves 25 [.ref b, .ref E.1, .int (zi k), l3] [] (k1, k2) (E', zg G', zk L', r') Q else RK ML_sieves 123 [.ref b, .ref E.1, .int (zi k), l3] [] (k1, k2) (E', zg G', zk L', r') Q := fun E' G' L' r' k l3 k1 k2 Q hs' ce hk g1 g2 => by
    have p2 := pt_b (cel E G b 0) 2 (by decide)
    have eC := fun Q => c_cell (L := L') (r := r') (Q := Q) (k := 0) hs' (by omega)
    rw [ce] at eC
    rw [fL_sieves_10, fL_sieves_11, fL_sieves_12, fL_sieves_13, show (0 : Int) = ((0 : Nat) : Int) from rfl, fL_sieves_14 g1 g2, eC, fL_sieves_17, fL_sieves_18 g1 g2, eP _ _ (by decide), fL_sieves_21, fL_sieves_22 (by omega) (by omega)]
  have p2 := pt_b (cel E G b 0) 2 (by decide)
  have s0 := sieveT_l 0 (cel E G b 1)
  have s1 := sieveT_l 1 (cel E G b 2)
  have s2 := sieveT_l 2 (cel E G b 3)
  have b1 := SCR_x (G' := G2) hs hb.1 (hb.2.1 b hbl).1
  obtain ⟨E3, G3, L3, r3, v3, l3, c3, h3, e3⟩ := sieve_step (b := b) (k := 0) (k1 := 2) (k2 := 20) (l3 := jk) hb hc hs hbl (by decide) (Nat.zero_le _) (by decide) (by decide) c2_jk (K1 := 18) (K2 := 9620) rfl rfl
  have m3 : ([] ++ sieveT ((0 : Nat) : Int) (cel E G b (0 + 1))).length = (sieveT 0 (cel E G b 1)).length := rfl
  have b3 := SCR_x (G' := G3) hs h3.1 (h3.2.1 b hbl).1
  obtain ⟨E4, G4, L4, r4, v4, l4, c4, h4, e4⟩ := sieve_step (b := b) (k := 1) (k1 := 18) (k2 := 9620) (l3 := l3) h3 hc hs hbl (by decide) (by omega) (by decide) (by decide) c3 (K1 := 34) (K2 := 19220) rfl rfl
  have m4 : ([] ++ sieveT ((0 : Nat) : Int) (cel E G b (0 + 1)) ++ sieveT ((1 : Nat) : Int) (cel E G b (1 + 1))).length = ([] ++ sieveT ((0 : Nat) : Int) (cel E G b (0 + 1))).length + (sieveT 1 (cel E G b 2)).length := List.length_append
  have b4 := SCR_x (G' := G4) hs h4.1 (h4.2.1 b hbl).1
  have st : ∀ Q, RK ML_sieves 0 [.ref b, jk, jk, jk] [] (0, 0) (E, zg G, zk L, r) Q = RK ML_sieves 10 [.ref b, .ref E.1, .int (zi 2), l4] [] (34, 19220) (E4, zg G4, zk L4, r4) Q := fun Q => by
    rw [fL_sieves_0 (by decide) (by decide), ← hE1, fL_sieves_3 (c2_ref _), fL_sieves_4 (by decide) (by decide) kE, e2, fL_sieves_7 (c2_ref _), fL_sieves_8, fL_sieves_9 (c2_ref _), eT _ _ _ _ _ _ _ _ _ b1.1 (b1.2 0) (by decide) (by decide) (by decide), if_pos (by omega)]
    refine (e3 Q).trans ?_
    show RK ML_sieves 10 [.ref b, .ref E.1, .int (zi 1), l3] [] (18, 9620) (E3, zg G3, zk L3, r3) Q = _
    rw [eT _ _ _ _ _ _ _ _ _ b3.1 (b3.2 0) (by decide) (by decide) (by decide), if_pos (by omega)]
    exact e4 Q
  by_cases c : pt (cel E G b 0) 2 = 1
  · obtain ⟨E5, G5, L5, r5, v5, l5, c5, h5, e5⟩ := sieve_step (b := b) (k := 2) (k1 := 34) (k2 := 19220) (l3 := l4) h4 hc hs hbl (by decide) (by omega) (by decide) (by decide) c4 (K1 := 50) (K2 := 28820) rfl rfl
    have m5 : ([] ++ sieveT ((0 : Nat) : Int) (cel E G b (0 + 1)) ++ sieveT ((1 : Nat) : Int) (cel E G b (1 + 1)) ++ sieveT ((2 : Nat) : Int) (cel E G b (2 + 1))).length = ([] ++ sieveT ((0 : Nat) : Int) (cel E G b (0 + 1)) ++ sieveT ((1 : Nat) : Int) (cel E G b (1 + 1))).length + (sieveT 2 (cel E G b 3)).length := List.length_append
    have b5 := SCR_x (G' := G5) hs h5.1 (h5.2.1 b hbl).1
    obtain ⟨E6, G6, L6, r6, s, w, h6, e6⟩ := sieves_end (b := b) (k1 := 50) (k2 := 28820) (l2 := .int (zi 3)) (l3 := l5) h5 hc hs hbl (by omega) (by decide) (by decide) (c2_int _) c5
    refine ⟨E6, G6, L6, r6, s, w, ?_, fun Q => ?_⟩
    · unfold scrT
      rw [if_pos c]
      exact h6
    · rw [st, eT _ _ _ _ _ _ _ _ _ b4.1 (b4.2 0) (by decide) (by decide) (by decide), if_pos (by omega)]
      refine (e5 Q).trans ?_
      show RK ML_sieves 10 [.ref b, .ref E.1, .int (zi 3), l5] [] (50, 28820) (E5, zg G5, zk L5, r5) Q = _
      rw [eT _ _ _ _ _ _ _ _ _ b5.1 (b5.2 0) (by decide) (by decide) (by decide), if_neg (by omega), e6]
  · obtain ⟨E6, G6, L6, r6, s, w, h6, e6⟩ := sieves_end (b := b) (k1 := 34) (k2 := 19220) (l2 := .int (zi 2)) (l3 := l4) h4 hc hs hbl (by omega) (by decide) (by decide) (c2_int _) c4
    refine ⟨E6, G6, L6, r6, s, w, ?_, fun Q => ?_⟩
    · unfold scrT
      rw [if_neg c, List.append_nil]
      exact h6
    · rw [st, eT _ _ _ _ _ _ _ _ _ b4.1 (b4.2 0) (by decide) (by decide) (by decide), if_neg (by omega), e6]
end BS
