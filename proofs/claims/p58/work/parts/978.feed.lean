/-! The law's feed: twenty letters to five whole numbers; its load. -/
/-- the letter at j, a blank behind the text -/
def bt (u : List Int) (j : Nat) : Int := if j < u.length then u.getD j 0 else 32
/-- the first m of the letters from s on in one whole number -/
def vB (u : List Int) (s : Nat) : Nat → Int
  | 0 => 0
  | m + 1 => vB u s m * 256 + bt u (s + m)
section BS
variable {E E' : AE} {G G' L L' : Nat → Nat → Int} {r r' : Nat → Nat → Option Nat} {h : AH} {Q : AH → Value → Prop} {X n a b s w cl k1 k2 : Nat} {p q : Nat → Nat} {σ τ : Nat → Nat → Int} {kk nn : Nat → Int} {ln : Nat → Nat} {lv : Nat → Nat → Int} {st fl f1 f2 x c : Int} {tb tb' : Nat → Int} {u : List Int}
theorem shl_or (hb : 0 ≤ c ∧ c < 256) : (zi x <<< (zi 8 &&& 31)) ||| zi c = zi (x * 256 + c) := by
  apply zi_ext
  have hk : (zi 8 &&& 31).toBitVec.smod 32 = BitVec.ofNat 32 8 := by decide
  have e : ((zi x <<< (zi 8 &&& 31)) ||| zi c).toUInt32.toNat = ((zi x).toUInt32.toNat <<< 8) % 4294967296 ||| (zi c).toUInt32.toNat := by
    show ((zi x <<< (zi 8 &&& 31)).toBitVec ||| (zi c).toBitVec).toNat = _
    rw [BitVec.toNat_or, Int32.toBitVec_shiftLeft, hk, BitVec.shiftLeft_eq', BitVec.toNat_shiftLeft]
    rfl
  rw [e, zi_nat, zi_nat, zi_nat]
  have e2 : ((x % 4294967296).toNat <<< 8) % 4294967296 = ((x % 4294967296).toNat % 16777216) <<< 8 := by
    rw [Nat.shiftLeft_eq, Nat.shiftLeft_eq]
    show (x % 4294967296).toNat * 256 % 4294967296 = (x % 4294967296).toNat % 16777216 * 256
    omega
  rw [e2, ← Nat.shiftLeft_add_eq_or_of_lt (show (c % 4294967296).toNat < 2 ^ 8 by show (c % 4294967296).toNat < 256; omega), Nat.shiftLeft_eq]
  show (x % 4294967296).toNat % 16777216 * 256 + (c % 4294967296).toNat = ((x * 256 + c) % 4294967296).toNat
  omega
theorem and255 (hb : 0 ≤ c ∧ c < 256) : zi c &&& zi 255 = zi c := by
  apply zi_ext
  have e : (zi c &&& zi 255).toUInt32.toNat = (zi c).toUInt32.toNat &&& 255 := by
    show ((zi c).toUInt32.toBitVec &&& BitVec.ofInt 32 255).toNat = _
    rw [BitVec.toNat_and]
    rfl
  have e3 : ∀ m : Nat, m &&& 255 = m % 256 := fun m => Nat.and_two_pow_sub_one_eq_mod m 8
  rw [e, e3, zi_nat]
  omega
/-- the letters of a text are small -/
def SM (u : List Int) : Prop := ∀ j, j < u.length → 0 ≤ u.getD j 0 ∧ u.getD j 0 < 128
theorem bt_b (hu : SM u) (j : Nat) : 0 ≤ bt u j ∧ bt u j < 128 := by
  unfold bt
  split
  · exact hu j (by assumption)
  · decide
theorem TXT_SM (ht : TXT E G w u) : SM u := fun j hj => (ht.2 j hj).2
theorem fd_step {k i : Nat} (hs : STR E r G s w) (ht : TXT E G w u) (ha : kd E a = 1) (hl : le E a = 5) (hi : i < 20) (hk : k ≤ 1000) (hu : u.length ≤ 1000) (g1 : k1 ≤ 10) (g2 : k2 ≤ 50) : RK ML_feed 17 [.ref X, .ref s, .int (zi (k : Int)), .ref a, .int (zi (i : Int))] [] (k1, k2) (E, zg G, zk L, r) Q = RK ML_feed 17 [.ref X, .ref s, .int (zi (k : Int)), .ref a, .int (zi ((i : Int) + 1))] [] (k1, k2) (E, zg (u2 G a (i / 4) (G a (i / 4) * 256 + bt u (k + i))), zk L, r) Q := by
  have eL := fun Q => cJ_length (L := L) (Q := Q) hs
  have eq : ((i : Int) / 4).toNat = i / 4 := by omega
  have bb := bt_b (TXT_SM ht) (k + i)
  rw [fL_feed_17, fL_feed_19, fL_feed_21 (by omega) (by decide), if_pos (by omega), fL_feed_24, fL_feed_25, fL_feed_27, fL_feed_28 (by omega) (by decide), fL_feed_29, fL_feed_30, fL_feed_32, fL_feed_33 (by omega) (by decide), fL_feed_34 ha (by omega) (by omega), eq]
  rw [fL_feed_35, fL_feed_37, fL_feed_38, fL_feed_39, fL_feed_41, fL_feed_42, fL_feed_43 g1 g2 hs.1, eL, ht.1, fL_feed_46 (by omega) (by omega)]
  by_cases c : k + i < u.length
  · have eb : bt u (k + i) = u.getD (k + i) 0 := if_pos c
    have en : ((k : Int) + (i : Int)).toNat = k + i := by omega
    obtain ⟨t1, t2⟩ := ht.2 (k + i) c
    have eC := fun Q => cJ_charAt (L := L) (Q := Q) (x := (k : Int) + (i : Int)) hs (by rw [ht.1]; omega) (by rw [en, t1]; omega)
    rw [en, t1] at eC
    rw [if_pos (by omega), fL_feed_49, fL_feed_50, fL_feed_51, fL_feed_53, fL_feed_54 g1 g2 hs.1, eC, ← eb, fL_feed_57, fL_feed_60, and255 (by omega), fL_feed_61, fL_feed_66, shl_or (by omega), fL_feed_67 ha (by omega) (by omega), eq, fL_feed_68 (c2_ref _), fL_feed_71]
  · have eb : bt u (k + i) = 32 := if_neg c
    rw [if_neg (by omega), fL_feed_64, fL_feed_66, shl_or (by decide), fL_feed_67 ha (by omega) (by omega), eq, eb, fL_feed_68 (c2_ref _), fL_feed_71]
def FI (G : Nat → Nat → Int) (a : Nat) (u : List Int) (k i : Nat) : Prop := ∀ q, q < 5 → G a q = vB u (k + 4 * q) (min 4 (i - 4 * q))
theorem FI_s {k i : Nat} (h : FI G a u k i) (hi : i < 20) : FI (u2 G a (i / 4) (G a (i / 4) * 256 + bt u (k + i))) a u k (i + 1) := fun q hq => by
  by_cases c : q = i / 4
  · have em : min 4 (i + 1 - 4 * q) = min 4 (i - 4 * q) + 1 := by omega
    have ek : k + 4 * q + min 4 (i - 4 * q) = k + i := by omega
    rw [em, ← c, u2_s, h q hq]
    show _ = vB u (k + 4 * q) (min 4 (i - 4 * q)) * 256 + bt u (k + 4 * q + min 4 (i - 4 * q))
    rw [ek]
  · have em : min 4 (i + 1 - 4 * q) = min 4 (i - 4 * q) := by omega
    rw [u2_i _ _ _ _ c, em]
    exact h q hq
theorem fd_loop {k : Nat} (hs : STR E r G s w) (ht : TXT E G w u) (ha : kd E a = 1) (hl : le E a = 5) (haw : a ≠ w ∧ a ≠ s) (hk : k ≤ 1000) (hu : u.length ≤ 1000) (g1 : k1 ≤ 10) (g2 : k2 ≤ 50) : ∀ (d i : Nat), i + d = 20 → ∀ G', (∀ x, x ≠ a → G' x = G x) → FI G' a u k i → ∃ G2, (∀ x, x ≠ a → G2 x = G x) ∧ FI G2 a u k 20 ∧ ∀ Q, RK ML_feed 17 [.ref X, .ref s, .int (zi (k : Int)), .ref a, .int (zi (i : Int))] [] (k1, k2) (E, zg G', zk L, r) Q = RK ML_feed 17 [.ref X, .ref s, .int (zi (k : Int)), .ref a, .int (zi ((20 : Nat) : Int))] [] (k1, k2) (E, zg G2, zk L, r) Q := by
  intro d
  induction d with
  | zero =>
    intro i hi G' hG hF
    have e : i = 20 := by omega
    subst e
    exact ⟨G', hG, hF, fun Q => rfl⟩
  | succ d ih =>
    intro i hi G' hG hF
    have hs' : STR E r G' s w := ⟨hs.1, hs.2.1, by rw [hG s (Ne.symm haw.2)]; exact hs.2.2.1, hs.2.2.2⟩
    have ht' : TXT E G' w u := ⟨ht.1, fun j hj => by rw [hG w (Ne.symm haw.1)]; exact ht.2 j hj⟩
    have e1 := fun Q => fd_step (X := X) (L := L) (Q := Q) (i := i) hs' ht' ha hl (by omega) hk hu g1 g2
    obtain ⟨G2, c1, c2, c3⟩ := ih (i + 1) (by omega) (u2 G' a (i / 4) (G' a (i / 4) * 256 + bt u (k + i))) (fun x hx => by rw [u2_a _ _ _ _ hx]; exact hG x hx) (FI_s hF (by omega))
    exact ⟨G2, c1, c2, fun Q => (e1 Q).trans (c3 Q)⟩
theorem btS_v {k : Nat} (hu : SM u) : btS (vB u k 4) = [bt u k, bt u (k + 1), bt u (k + 2), bt u (k + 3)] := by
  have b0 := bt_b hu k
  have b1 := bt_b hu (k + 1)
  have b2 := bt_b hu (k + 2)
  have b3 := bt_b hu (k + 3)
  have e : vB u k 4 = (((0 * 256 + bt u k) * 256 + bt u (k + 1)) * 256 + bt u (k + 2)) * 256 + bt u (k + 3) := rfl
  have c0 : vB u k 4 / 16777216 % 256 = bt u k := by omega
  have c1 : vB u k 4 / 65536 % 256 = bt u (k + 1) := by omega
  have c2 : vB u k 4 / 256 % 256 = bt u (k + 2) := by omega
  have c3 : vB u k 4 / 1 % 256 = bt u (k + 3) := by omega
  show [vB u k 4 / 16777216 % 256, vB u k 4 / 65536 % 256, vB u k 4 / 256 % 256, vB u k 4 / 1 % 256] = _
  rw [c0, c1, c2, c3]
theorem bts20 {k : Nat} (hu : SM u) (i : Nat) (hi : i < 20) : (btS (vB u k 4) ++ btS (vB u (k + 4) 4) ++ btS (vB u (k + 8) 4) ++ btS (vB u (k + 12) 4) ++ btS (vB u (k + 16) 4)).getD i 0 = bt u (k + i) := by
  rw [btS_v hu, btS_v hu, btS_v hu, btS_v hu, btS_v hu]
  have h : i = 0 ∨ i = 1 ∨ i = 2 ∨ i = 3 ∨ i = 4 ∨ i = 5 ∨ i = 6 ∨ i = 7 ∨ i = 8 ∨ i = 9 ∨ i = 10 ∨ i = 11 ∨ i = 12 ∨ i = 13 ∨ i = 14 ∨ i = 15 ∨ i = 16 ∨ i = 17 ∨ i = 18 ∨ i = 19 := by omega
  rcases h with h | h | h | h | h | h | h | h | h | h | h | h | h | h | h | h | h | h | h | h <;> subst h <;> rfl
theorem HI_t (h : HI E r G X n σ a kk nn τ cl ln lv st fl tb f1 f2) (ht : ∀ j : Nat, (j : Int) < fl → tb j = tb' j) : HI E r G X n σ a kk nn τ cl ln lv st fl tb' f1 f2 := ⟨h.1, h.2.1, h.2.2.1, h.2.2.2.1, fun j hj => (h.2.2.2.2.1 j hj).trans (ht j hj), h.2.2.2.2.2⟩
theorem HI_h (h : HI E r G X n σ a kk nn τ cl ln lv st fl tb f1 f2) : kd E X = 15 := by
  obtain ⟨⟨⟨p, q, h1⟩, -⟩, -⟩ := h
  exact h1.1.1
theorem fd_all (hu : u.length ≤ 180) (hX : X + 130 ≤ s ∧ X + 130 ≤ w) : ∀ (d m : Nat) (E : AE) (G L : Nat → Nat → Int) (r : Nat → Nat → Option Nat) (l3 l4 : Value), c2 l3 = false → c2 l4 = false → u.length ≤ 20 * (m + d) → m ≤ 9 → STR E r G s w → TXT E G w u → s < E.1 → w < E.1 → HI E r G X n σ a kk nn τ cl ln lv st ((20 * m : Nat) : Int) (bt u) f1 f2 → ∃ E' G' L' r' fl, HI E' r' G' X n σ a kk nn τ cl ln lv st fl (bt u) f1 f2 ∧ ((u.length : Int) ≤ fl ∧ fl ≤ 200) ∧ XT E E' ∧ (∀ x, x < E.1 → (x < X ∨ X + 130 ≤ x) → G' x = G x ∧ r' x = r x) ∧ ∀ Q, RK ML_feed 2 [.ref X, .ref s, .int (zi ((20 * m : Nat) : Int)), l3, l4] [] (m, 5 * m) (E, zg G, zk L, r) Q = Q (E', zg G', zk L', r') .null := by
  intro d
  induction d with
  | zero =>
    intro m E G L r l3 l4 c3 c4 hd hm hs ht hsE hwE hH
    have eL := fun Q => cJ_length (L := L) (Q := Q) hs
    refine ⟨E, G, L, r, _, hH, ⟨by omega, by omega⟩, XT.rf E, fun x _ _ => ⟨rfl, rfl⟩, fun Q => ?_⟩
    rw [fL_feed_2, fL_feed_3, fL_feed_4 (by omega) (by omega) hs.1, eL, ht.1, fL_feed_7 (by omega) (by omega), if_neg (by omega), fL_feed_100]
  | succ d ih =>
    intro m E G L r l3 l4 c3 c4 hd hm hs ht hsE hwE hH
    have eL := fun Q => cJ_length (L := L) (Q := Q) hs
    by_cases c : 20 * m < u.length
    · obtain ⟨E1, hE1⟩ : ∃ E1 : AE, E1 = (E.1 + 1, u1 E.2.1 E.1 (1, (5 : Int).toNat), E.2.2) := ⟨_, rfl⟩
      have x1 : XT E E1 := by
        rw [hE1]
        exact ⟨Nat.le_succ _, rfl, fun x hx => v1_a _ _ _ (Nat.ne_of_lt hx)⟩
      have n1 : E1.1 = E.1 + 1 := by rw [hE1]
      have kE : kd E1 E.1 = 1 ∧ le E1 E.1 = 5 := by
        rw [hE1]
        exact ⟨congrArg Prod.fst (v1_s _ _ _), congrArg Prod.snd (v1_s _ _ _)⟩
      obtain ⟨G1, hG1⟩ : ∃ g, g = u1 G E.1 (fun _ => (0 : Int)) := ⟨_, rfl⟩
      obtain ⟨r1, hr1⟩ : ∃ g, g = u1 r E.1 (fun _ => (none : Option Nat)) := ⟨_, rfl⟩
      have gx : ∀ x, x < E.1 → G1 x = G x ∧ r1 x = r x := fun x hx => by
        rw [hG1, hr1, v1_a _ _ _ (Nat.ne_of_lt hx), v1_a _ _ _ (Nat.ne_of_lt hx)]
        exact ⟨rfl, rfl⟩
      have hs1 : STR E1 r1 G1 s w := STR_x hs x1 ⟨hsE, hwE⟩ (gx s hsE).2 (gx s hsE).1
      have ht1 : TXT E1 G1 w u := ⟨(x1.kd hwE).2.trans ht.1, fun j hj => by rw [(gx w hwE).1]; exact ht.2 j hj⟩
      have hX1 := hH.2.1
      have hH1 := HI_x hH x1 fun x hx => gx x (by omega)
      have f0 : FI G1 E.1 u (20 * m) 0 := fun q hq => by
        have em : min 4 (0 - 4 * q) = 0 := by omega
        rw [em, hG1, v1_s]
        rfl
      obtain ⟨G2, d1, d2, d3⟩ := fd_loop (X := X) (L := u1 L E.1 (fun _ => 0)) (k1 := m + 1) (k2 := 5 * m + (5 : Int).toNat) hs1 ht1 kE.1 kE.2 ⟨by omega, by omega⟩ (show 20 * m ≤ 1000 by omega) (by omega) (by omega) (by show 5 * m + 5 ≤ 50; omega) 20 0 rfl G1 (fun x _ => rfl) f0
      have hH2 : HI E1 r1 G2 X n σ a kk nn τ cl ln lv st ((20 * m : Nat) : Int) (bt u) f1 f2 := HI_x hH1 (XT.rf E1) fun x hx => ⟨d1 x (by omega), rfl⟩
      obtain ⟨G3, e1, hH3, e3⟩ := h_feed (L := u1 L E.1 (fun _ => 0)) (v1 := G2 E.1 0) (v2 := G2 E.1 1) (v3 := G2 E.1 2) (v4 := G2 E.1 3) (v5 := G2 E.1 4) hH2 (by omega)
      have hH4 : HI E1 r1 G3 X n σ a kk nn τ cl ln lv st ((20 * (m + 1) : Nat) : Int) (bt u) f1 f2 := by
        have em : (((20 * m : Nat) : Int)) + 20 = ((20 * (m + 1) : Nat) : Int) := by omega
        rw [em] at hH3
        refine HI_t hH3 fun j hj => ?_
        show (if (j : Int) < ((20 * m : Nat) : Int) then bt u j else _) = bt u j
        by_cases c : (j : Int) < ((20 * m : Nat) : Int)
        · exact if_pos c
        · rw [if_neg c, d2 0 (by decide), d2 1 (by decide), d2 2 (by decide), d2 3 (by decide), d2 4 (by decide), Int.toNat_natCast]
          refine (bts20 (k := 20 * m) (TXT_SM ht) (j - 20 * m) (by omega)).trans ?_
          rw [show 20 * m + (j - 20 * m) = j by omega]
      have g3 : ∀ x, x < E.1 → (x < X ∨ X + 130 ≤ x) → G3 x = G x ∧ r1 x = r x := fun x hx hc => ⟨(e1 x hc).trans ((d1 x (by omega)).trans (gx x hx).1), (gx x hx).2⟩
      have hs3 : STR E1 r1 G3 s w := STR_x hs x1 ⟨hsE, hwE⟩ (gx s hsE).2 (g3 s hsE (Or.inr hX.1)).1
      have ht3 : TXT E1 G3 w u := ⟨(x1.kd hwE).2.trans ht.1, fun j hj => by rw [(g3 w hwE (Or.inr hX.2)).1]; exact ht.2 j hj⟩
      obtain ⟨E', G', L', r', fl, y1, y2, y3, y4, y5⟩ := ih (m + 1) E1 G3 (u1 L E.1 (fun _ => 0)) r1 (.ref E.1) (.int (zi ((20 : Nat) : Int))) (c2_ref _) (c2_int _) (by omega) (by omega) hs3 ht3 (by omega) (by omega) hH4
      refine ⟨E', G', L', r', fl, y1, y2, x1.trans y3, fun x hx hc => ?_, fun Q => ?_⟩
      · obtain ⟨o1, o2⟩ := y4 x (by omega) hc
        obtain ⟨o3, o4⟩ := g3 x hx hc
        exact ⟨o1.trans o3, o2.trans o4⟩
      · have hk15 := HI_h hH2
        have hm5 : 5 * m + (5 : Int).toNat = 5 * (m + 1) := by show 5 * m + 5 = _; omega
        rw [fL_feed_2, fL_feed_3, fL_feed_4 (by omega) (by omega) hs.1, eL, ht.1, fL_feed_7 (by omega) (by omega), if_pos (by omega), fL_feed_10, fL_feed_11 (by decide) (by omega) (by show 5 * m + 5 ≤ 50; omega), ← hE1, ← hG1, ← hr1, fL_feed_13 (c2_int _), fL_feed_14, fL_feed_15 (c2_ref _)]
        refine (d3 Q).trans ?_
        rw [fL_feed_17, fL_feed_19, fL_feed_21 (by decide) (by decide), if_neg (by decide), fL_feed_74, fL_feed_75, fL_feed_76, fL_feed_77 kE.1 (by omega) (by omega), fL_feed_78, fL_feed_79, fL_feed_80 kE.1 (by omega) (by omega), fL_feed_81, fL_feed_82, fL_feed_83 kE.1 (by omega) (by omega), fL_feed_84, fL_feed_85, fL_feed_86 kE.1 (by omega) (by omega), fL_feed_87, fL_feed_88, fL_feed_89 kE.1 (by omega) (by omega), fL_feed_90 (by omega) (by show 5 * m + 5 ≤ 50; omega) hk15]
        refine (e3 _).trans ?_
        rw [fL_feed_93 (c2_int _), fL_feed_94 (c2_ref _), fL_feed_97, hm5, show (((20 * m : Nat) : Int)) + 20 = ((20 * (m + 1) : Nat) : Int) by omega]
        exact y5 Q
    · refine ⟨E, G, L, r, _, hH, ⟨by omega, by omega⟩, XT.rf E, fun x _ _ => ⟨rfl, rfl⟩, fun Q => ?_⟩
      rw [fL_feed_2, fL_feed_3, fL_feed_4 (by omega) (by omega) hs.1, eL, ht.1, fL_feed_7 (by omega) (by omega), if_neg (by omega), fL_feed_100]
end BS
