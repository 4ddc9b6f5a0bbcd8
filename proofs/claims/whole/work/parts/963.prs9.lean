/-! The reference's reader: a sieve's line. -/
def wS (B : Int → Int) (n : Int) (st : StT) (i : Nat) : StT := nxS B n (mustS st (wdI B st i) 2)
theorem wS_ok (B : Int → Int) (n : Int) (T : TkT) (i : Nat) : wS B n (.ok T) i = rdWord B n (wix i) T := by
  have e : wdI B (.ok T) i = bI (isT B T (wdL (wix i)) = true) := rfl
  unfold wS rdWord
  rw [e]
  by_cases c : isT B T (wdL (wix i)) = true
  · rw [if_pos c, bI_p c]
    rfl
  · rw [if_neg c, bI_n c]
    rfl
def hdS1 (B : Int → Int) (n : Int) (cs : Nat) (T : TkT) : StT := nxS B n (mustS (.ok T) (if cs < 4 then 1 else 0) 5)
def hdS3 (B : Int → Int) (n : Int) (f g : Nat → Int) (c cs : Nat) (T : TkT) : StT := wS B n (nmT B n f g c (hdS1 B n cs T)) 1
def hdS5 (B : Int → Int) (n : Int) (f g : Nat → Int) (c cs : Nat) (T : TkT) : StT := wS B n (nbS B n (hdS3 B n f g c cs T) 0 999) 2
def hdS7 (B : Int → Int) (n : Int) (f g : Nat → Int) (c cs : Nat) (T : TkT) : StT := wS B n (nbS B n (hdS5 B n f g c cs T) 1 99) 3
def hdS8 (B : Int → Int) (n : Int) (f g : Nat → Int) (c cs : Nat) (T : TkT) : StT := nbS B n (hdS7 B n f g c cs T) 2 600
def svS (B : Int → Int) (n : Int) (f g : Nat → Int) (c cs : Nat) (T : TkT) : StT := match hdS8 B n f g c cs T with
  | .error e => .error e
  | .ok T9 => lawR B n T9
/-- the sign behind a line -/
def fiS (B : Int → Int) (n : Int) (st : StT) : StT := nxS B n (mustS st (soI st 4) 2)
theorem fiS_ok (B : Int → Int) (n : Int) (T : TkT) : fiS B n (.ok T) = rdSign B n T := by
  have e : soI (.ok T) 4 = bI (T.1 = 4) := rfl
  unfold fiS rdSign
  rw [e]
  by_cases c : T.1 = 4
  · rw [if_pos c, bI_p c]
    rfl
  · rw [if_neg c, bI_n c]
    rfl
def svP (B : Int → Int) (n : Int) (f g : Nat → Int) (c cs : Nat) (T : TkT) (x : Except ER ((Nat → Int) × TkT)) : Prop := match x with
  | .error e => fiS B n (svS B n f g c cs T) = .error e
  | .ok (σ, T4) => fiS B n (svS B n f g c cs T) = .ok T4 ∧ cs < 4 ∧ ∃ T2 T9 cn gg T10, nmT B n f g c (hdS1 B n cs T) = .ok T2 ∧ hdS8 B n f g c cs T = .ok T9 ∧ lawT B T9 ≠ -1 ∧ rdLaw B n (lawT B T9) (nxT B n T9.2.2.1) = .ok (cn, gg, T10) ∧ σ = nwS (lawT B T9) (nbV B n (hdS3 B n f g c cs T) 0 999) (nbV B n (hdS5 B n f g c cs T) 1 99) (nbV B n (hdS7 B n f g c cs T) 2 600) cn gg
theorem nb_er (B : Int → Int) (n lo hi : Int) (T : TkT) {e : ER} (h : rdNum B n lo hi T = .error e) : nbS B n (.ok T) lo hi = .error e := by
  unfold nbS
  dsimp only
  rw [h]
theorem nb_ok (B : Int → Int) (n lo hi : Int) (T : TkT) {v : Int} {T' : TkT} (h : rdNum B n lo hi T = .ok (v, T')) : nbS B n (.ok T) lo hi = .ok T' ∧ nbV B n (.ok T) lo hi = v := by
  unfold nbS nbV
  dsimp only
  rw [h]
  exact ⟨rfl, rfl⟩
theorem sv_pure (B : Int → Int) (n : Int) (f g : Nat → Int) (c cs : Nat) (T : TkT) : svP B n f g c cs T (rdSieve B n f g c cs T) := by
  unfold rdSieve
  by_cases h4 : 4 ≤ cs
  · rw [if_pos h4]
    have e1 : hdS1 B n cs T = .error (5, T) := by
      unfold hdS1
      rw [if_neg (by omega)]
      rfl
    show fiS B n (svS B n f g c cs T) = .error (5, T)
    unfold svS hdS8 hdS7 hdS5 hdS3
    rw [e1]
    rfl
  · rw [if_neg h4]
    have e1 : hdS1 B n cs T = .ok (nxT B n T.2.2.1) := by
      unfold hdS1
      rw [if_pos (by omega)]
      rfl
    have e2 : nmT B n f g c (hdS1 B n cs T) = rdName B n f g c (nxT B n T.2.2.1) := by rw [e1]; rfl
    unfold rdHead
    cases q1 : rdName B n f g c (nxT B n T.2.2.1) with
    | error e =>
      show fiS B n (svS B n f g c cs T) = .error e
      unfold svS hdS8 hdS7 hdS5 hdS3
      rw [e2, q1]
      rfl
    | ok T2 =>
      rw [q1] at e2
      dsimp only
      have e3 : hdS3 B n f g c cs T = rdWord B n 104 T2 := by
        unfold hdS3
        rw [e2]
        exact wS_ok B n T2 1
      cases q2 : rdWord B n 104 T2 with
      | error e =>
        show fiS B n (svS B n f g c cs T) = .error e
        unfold svS hdS8 hdS7 hdS5
        rw [e3, q2]
        rfl
      | ok T3 =>
        rw [q2] at e3
        dsimp only
        cases q3 : rdNum B n 0 999 T3 with
        | error e =>
          show fiS B n (svS B n f g c cs T) = .error e
          unfold svS hdS8 hdS7 hdS5
          rw [e3, nb_er B n 0 999 T3 q3]
          rfl
        | ok p =>
          obtain ⟨fr, T4⟩ := p
          obtain ⟨n3, v3⟩ := nb_ok B n 0 999 T3 q3
          dsimp only
          have e5 : hdS5 B n f g c cs T = rdWord B n 113 T4 := by
            unfold hdS5
            rw [e3, n3]
            exact wS_ok B n T4 2
          cases q4 : rdWord B n 113 T4 with
          | error e =>
            show fiS B n (svS B n f g c cs T) = .error e
            unfold svS hdS8 hdS7
            rw [e5, q4]
            rfl
          | ok T5 =>
            rw [q4] at e5
            dsimp only
            cases q5 : rdNum B n 1 99 T5 with
            | error e =>
              show fiS B n (svS B n f g c cs T) = .error e
              unfold svS hdS8 hdS7
              rw [e5, nb_er B n 1 99 T5 q5]
              rfl
            | ok p =>
              obtain ⟨by_, T6⟩ := p
              obtain ⟨n5, v5⟩ := nb_ok B n 1 99 T5 q5
              dsimp only
              have e7 : hdS7 B n f g c cs T = rdWord B n 115 T6 := by
                unfold hdS7
                rw [e5, n5]
                exact wS_ok B n T6 3
              cases q6 : rdWord B n 115 T6 with
              | error e =>
                show fiS B n (svS B n f g c cs T) = .error e
                unfold svS hdS8
                rw [e7, q6]
                rfl
              | ok T7 =>
                rw [q6] at e7
                dsimp only
                cases q7 : rdNum B n 2 600 T7 with
                | error e =>
                  show fiS B n (svS B n f g c cs T) = .error e
                  unfold svS hdS8
                  rw [e7, nb_er B n 2 600 T7 q7]
                  rfl
                | ok p =>
                  obtain ⟨ma, T8⟩ := p
                  obtain ⟨n7, v7⟩ := nb_ok B n 2 600 T7 q7
                  dsimp only
                  have e8 : hdS8 B n f g c cs T = .ok T8 := by
                    unfold hdS8
                    rw [e7, n7]
                  have e9 : svS B n f g c cs T = lawR B n T8 := by
                    unfold svS
                    rw [e8]
                  by_cases h1 : lawT B T8 = -1
                  · rw [if_pos h1]
                    show fiS B n (svS B n f g c cs T) = .error (unK T8, T8)
                    rw [e9]
                    unfold lawR
                    rw [if_pos h1]
                    rfl
                  · rw [if_neg h1]
                    dsimp only
                    unfold rdTail
                    have e10 : svS B n f g c cs T = lawS B n (lawT B T8) (nxT B n T8.2.2.1) := by
                      rw [e9]
                      unfold lawR
                      rw [if_neg h1]
                    unfold lawS at e10
                    cases q8 : rdLaw B n (lawT B T8) (nxT B n T8.2.2.1) with
                    | error e =>
                      rw [q8] at e10
                      show fiS B n (svS B n f g c cs T) = .error e
                      rw [e10]
                      rfl
                    | ok p =>
                      obtain ⟨cn, gg, T10⟩ := p
                      rw [q8] at e10
                      dsimp only at e10 ⊢
                      have e11 : fiS B n (svS B n f g c cs T) = rdSign B n T10 := by
                        rw [e10]
                        exact fiS_ok B n T10
                      cases q9 : rdSign B n T10 with
                      | error e =>
                        rw [q9] at e11
                        exact e11
                      | ok T11 =>
                        rw [q9] at e11
                        refine ⟨e11, by omega, T2, T8, cn, gg, T10, e2, e8, h1, q8, ?_⟩
                        rw [e3, e5, e7, v3, v5, v7]
/-- what reading a line may change -/
def prQ (G L G' L' : Nat → Nat → Int) (m : Nat) : Prop := (∀ x, x ≠ m → x ≠ m + 2 → x ≠ m + 6 → G' x = G x) ∧ (∀ j, ¬ (21 ≤ j ∧ j ≤ 26) → j ≠ 28 → j ≠ 29 → j ≠ 32 → G' m j = G m j) ∧ (∀ x, x ≠ m → x ≠ m + 12 → L' x = L x) ∧ ∀ j, j ≠ 30 → L' m j = L m j
section BM
variable {E : AE} {G G1 G2 G' L L' L1 L2 : Nat → Nat → Int} {r : Nat → Nat → Option Nat} {h : AH} {Q : AH → Value → Prop} {m M c cs b0 : Nat} {B : Int → Int} {T : TkT} {st : StT} {f g C : Nat → Int} {s e y x w i p v lo hi t b d n ki : Int}
theorem prQ.rf (G L : Nat → Nat → Int) (m : Nat) : prQ G L G L m := ⟨fun _ _ _ _ => rfl, fun _ _ _ _ _ => rfl, fun _ _ _ => rfl, fun _ _ => rfl⟩
theorem prQ.trans (h1 : prQ G L G1 L1 m) (h2 : prQ G1 L1 G2 L2 m) : prQ G L G2 L2 m := ⟨fun x a b d => (h2.1 x a b d).trans (h1.1 x a b d), fun j a b d e => (h2.2.1 j a b d e).trans (h1.2.1 j a b d e), fun x a b => (h2.2.2.1 x a b).trans (h1.2.2.1 x a b), fun j a => (h2.2.2.2 j a).trans (h1.2.2.2 j a)⟩
theorem prQ_N (h : prN G L G1 L1 m) : prQ G L G1 L1 m := ⟨fun x a _ _ => h.1 x a, fun j a _ _ b => h.2.1 j a b, h.2.2.1, h.2.2.2⟩
theorem prQ_V (h : prV G L G1 L1 m) : prQ G L G1 L1 m := ⟨fun x a b _ => h.1 x a b, fun j a _ _ _ => h.2.1 j a, fun x a _ => h.2.2.1 x a, h.2.2.2⟩
theorem kWd_Q (h : kWd L m) (h2 : prQ G L G1 L1 m) : kWd L1 m := fun i hi => by rw [h2.2.2.1 _ (by omega) (by omega)]; exact h i hi
theorem nmR_N (hN : nmR G L m B f g c) (h1 : G1 m 32 = G m 32) (h2 : L1 (m + 12) = L (m + 12)) : nmR G1 L1 m B f g c := ⟨h1.trans hN.1, fun i hi => by rw [h2]; exact hN.2 i hi⟩
/-- one word, from any state -/
theorem m_w (hm : shM E r m) (hK : kWd L m) (hS : rdS G L m B n st) {i : Nat} (hi : i < 12) : ∃ G' L', prW G L G' L' m ∧ rdS G' L' m B n (wS B n st i) ∧ (∀ Q, RK MX10_isWord 0 [.ref m, .int (zi (i : Int))] [] (0, 0) (E, zg G, zk L, r) Q = Q (E, zg G, zk L, r) (.int (zi (wdI B st i)))) ∧ ∀ Q, RK MX10_takes 0 [.ref m, .int (zi (wdI B st i))] [] (0, 0) (E, zg G, zk L, r) Q = Q (E, zg G', zk L', r) .null := by
  obtain ⟨G', L', a, b, e⟩ := m_takes hm hS (wdI_01 B st i) (fun z => wdI_2 z)
  exact ⟨G', L', a, b, fun Q => m_isWord hm hK hS hi, e⟩
theorem rs_head (hm : shM E r m) (hK : kWd L m) (hS : rdS G L m B n (.ok T)) (h2 : T.1 = 2) (hN : nmR G L m B f g c) (h28 : G m 28 = cs) (hcs : cs ≤ 4) (hc : c ≤ 7) (hc6 : cs < 4 → c ≤ 6) :
    ∃ G' L', prN G L G' L' m ∧ rdS G' L' m B n (hdS8 B n f g c cs T) ∧ (∀ T2, nmT B n f g c (hdS1 B n cs T) = .ok T2 → nmR G' L' m B (upN f c (nxT B n T.2.2.1).2.1) (upN g c (nxT B n T.2.2.1).2.2.1) (c + 1)) ∧ G' m 28 = cs ∧ ∀ Q, RK MX10_readsSieve 0 [.ref m, jk, jk, jk, jk] [] (0, 0) (E, zg G, zk L, r) Q = RK MX10_readsSieve 89 [.ref m, .int (zi (1824 * (cs : Int))), .int (zi (nbV B n (hdS3 B n f g c cs T) 0 999)), .int (zi (nbV B n (hdS5 B n f g c cs T) 1 99)), .int (zi (nbV B n (hdS7 B n f g c cs T) 2 600))] [] (0, 0) (E, zg G', zk L', r) Q := by
  have m0 := hm.1
  have hb : (if cs < 4 then (1 : Int) else 0) = 0 ∨ (if cs < 4 then (1 : Int) else 0) = 1 := by
    split
    · exact Or.inr rfl
    · exact Or.inl rfl
  obtain ⟨G1, f1, s1, j1, e1⟩ := m_must (y := 5) hm hS hb (by decide)
  have hok : ∀ T', mustS (.ok T) (if cs < 4 then (1 : Int) else 0) 5 = .ok T' → T' = T ∧ cs < 4 := by
    intro T' h
    unfold mustS at h
    dsimp only at h
    by_cases q : cs < 4
    · rw [if_pos q, if_pos rfl] at h
      cases h
      exact ⟨rfl, q⟩
    · rw [if_neg q, if_neg (by decide)] at h
      cases h
  obtain ⟨G2, L2, f2, s2, e2⟩ := m_goesOn hm s1 (fun T' h => by rw [(hok T' h).1]; exact Or.inl h2)
  have hh1 : nxS B n (mustS (.ok T) (if cs < 4 then (1 : Int) else 0) 5) = hdS1 B n cs T := rfl
  rw [hh1] at s2
  have fr2 : prW G L G2 L2 m := f1.trans (prW_F f2)
  have hN2 := nmR_W hN fr2
  have hK2 := kWd_c hK fr2
  have hok1 : ∀ T', hdS1 B n cs T = .ok T' → T' = nxT B n T.2.2.1 ∧ cs < 4 := by
    intro T' h
    unfold hdS1 mustS at h
    dsimp only at h
    by_cases q : cs < 4
    · rw [if_pos q, if_pos rfl] at h
      cases h
      exact ⟨rfl, q⟩
    · rw [if_neg q, if_neg (by decide)] at h
      cases h
  obtain ⟨G3, L3, f3, s3, v3, e3⟩ := m_takesName hm hK2 s2 hN2 hc (fun T' h => hc6 (hok1 T' h).2)
  have hK3 := kWd_N hK2 f3
  obtain ⟨G4, L4, f4, s4, i4, e4⟩ := m_w hm hK3 s3 (i := 1) (by decide)
  have hh3 : wS B n (nmT B n f g c (hdS1 B n cs T)) 1 = hdS3 B n f g c cs T := rfl
  rw [hh3] at s4
  have hK4 := kWd_c hK3 f4
  obtain ⟨G5, L5, f5, s5, e5⟩ := m_takesNumber (lo := 0) (hi := 999) hm s4 (by decide) (by decide)
  have hK5 := kWd_c hK4 f5
  obtain ⟨G6, L6, f6, s6, i6, e6⟩ := m_w hm hK5 s5 (i := 2) (by decide)
  have hh5 : wS B n (nbS B n (hdS3 B n f g c cs T) 0 999) 2 = hdS5 B n f g c cs T := rfl
  rw [hh5] at s6
  have hK6 := kWd_c hK5 f6
  obtain ⟨G7, L7, f7, s7, e7⟩ := m_takesNumber (lo := 1) (hi := 99) hm s6 (by decide) (by decide)
  have hK7 := kWd_c hK6 f7
  obtain ⟨G8, L8, f8, s8, i8, e8⟩ := m_w hm hK7 s7 (i := 3) (by decide)
  have hh7 : wS B n (nbS B n (hdS5 B n f g c cs T) 1 99) 3 = hdS7 B n f g c cs T := rfl
  rw [hh7] at s8
  obtain ⟨G9, L9, f9, s9, e9⟩ := m_takesNumber (lo := 2) (hi := 600) hm s8 (by decide) (by decide)
  have fr39 : prW G3 L3 G9 L9 m := ((((f4.trans f5).trans f6).trans f7).trans f8).trans f9
  have frN : prN G L G9 L9 m := ((prN_W fr2).trans f3).trans (prN_W fr39)
  have h283 : G3 m 28 = cs := by
    rw [f3.2.1 28 (by decide) (by decide), fr2.2.1 28 (by decide), h28]
  have h289 : G9 m 28 = cs := by rw [fr39.2.1 28 (by decide), h283]
  refine ⟨G9, L9, frN, s9, fun T2 h => ?_, h289, fun Q => ?_⟩
  · cases q : hdS1 B n cs T with
    | error e =>
      rw [q] at h
      cases h
    | ok T' =>
      obtain ⟨t1, t2⟩ := hok1 T' q
      have := v3 T' T2 q h
      rw [t1] at this
      exact nmR_W this fr39
  · have start : RK MX10_readsSieve 0 [.ref m, jk, jk, jk, jk] [] (0, 0) (E, zg G, zk L, r) Q = RK MX10_readsSieve 14 [.ref m, jk, jk, jk, jk] [.int (zi (if cs < 4 then (1 : Int) else 0)), .ref m] (0, 0) (E, zg G, zk L, r) Q := by
      by_cases q : cs < 4
      · have q' : (cs : Int) < 4 := by omega
        rw [if_pos q]
        simp (disch := first | assumption | exact c2_int _ | exact c2_ref _ | exact c2_jk | exact c2_null | omega | exact bI_r _ | exact bI_01 _) only [↓fX10_readsSieve_0, ↓fX10_readsSieve_1, ↓fX10_readsSieve_2, ↓fX10_readsSieve_5, ↓fX10_readsSieve_6, ↓fX10_readsSieve_9, ↓fX10_readsSieve_10, ↓fX10_readsSieve_13, ↓fX10_readsSieve_15, ↓fX10_readsSieve_18, ↓fX10_readsSieve_19, ↓fX10_readsSieve_22, ↓fX10_readsSieve_23, ↓fX10_readsSieve_26, ↓fX10_readsSieve_29, ↓fX10_readsSieve_30, ↓fX10_readsSieve_33, ↓fX10_readsSieve_34, ↓fX10_readsSieve_35, ↓fX10_readsSieve_36, ↓fX10_readsSieve_37, ↓fX10_readsSieve_38, ↓fX10_readsSieve_41, ↓fX10_readsSieve_44, ↓fX10_readsSieve_45, ↓fX10_readsSieve_46, ↓fX10_readsSieve_49, ↓fX10_readsSieve_52, ↓fX10_readsSieve_53, ↓fX10_readsSieve_54, ↓fX10_readsSieve_55, ↓fX10_readsSieve_56, ↓fX10_readsSieve_59, ↓fX10_readsSieve_62, ↓fX10_readsSieve_63, ↓fX10_readsSieve_64, ↓fX10_readsSieve_66, ↓fX10_readsSieve_69, ↓fX10_readsSieve_70, ↓fX10_readsSieve_71, ↓fX10_readsSieve_72, ↓fX10_readsSieve_73, ↓fX10_readsSieve_76, ↓fX10_readsSieve_79, ↓fX10_readsSieve_80, ↓fX10_readsSieve_81, ↓fX10_readsSieve_84, ↓fX10_readsSieve_87, ↓fX10_readsSieve_89, ↓fX10_readsSieve_90, ↓fX10_readsSieve_93, ↓fX10_readsSieve_96, ↓fX10_readsSieve_97, ↓fX10_readsSieve_98, ↓fX10_readsSieve_101, ↓fX10_readsSieve_102, ↓fX10_readsSieve_103, ↓fX10_readsSieve_104, ↓fX10_readsSieve_105, ↓fX10_readsSieve_106, ↓fX10_readsSieve_107, ↓fX10_readsSieve_110, ↓fX10_readsSieve_111, ↓fX10_readsSieve_112, ↓fX10_readsSieve_113, ↓fX10_readsSieve_114, ↓fX10_readsSieve_115, ↓fX10_readsSieve_116, ↓fX10_readsSieve_119, ↓fX10_readsSieve_120, ↓fX10_readsSieve_121, ↓fX10_readsSieve_122, ↓fX10_readsSieve_124, ↓fX10_readsSieve_125, ↓fX10_readsSieve_126, ↓fX10_readsSieve_127, ↓fX10_readsSieve_130, ↓fX10_readsSieve_131, ↓fX10_readsSieve_132, ↓fX10_readsSieve_135, ↓fX10_readsSieve_136, ↓fX10_readsSieve_137, ↓fX10_readsSieve_140, h28, q', and_self, true_and, and_true, false_and, and_false, not_true_eq_false, not_false_eq_true, or_self, true_or, or_true, false_or, or_false, ite_not, Decidable.not_not, decide_eq_true_eq, Bool.not_true, Bool.not_false, Bool.false_eq_true, Bool.not_eq_true, n10, n20, n21, n30, n31, n32, n40, n41, n42, n43, ↓reduceIte]
      · have q' : ¬ (cs : Int) < 4 := by omega
        rw [if_neg q]
        simp (disch := first | assumption | exact c2_int _ | exact c2_ref _ | exact c2_jk | exact c2_null | omega | exact bI_r _ | exact bI_01 _) only [↓fX10_readsSieve_0, ↓fX10_readsSieve_1, ↓fX10_readsSieve_2, ↓fX10_readsSieve_5, ↓fX10_readsSieve_6, ↓fX10_readsSieve_9, ↓fX10_readsSieve_10, ↓fX10_readsSieve_13, ↓fX10_readsSieve_15, ↓fX10_readsSieve_18, ↓fX10_readsSieve_19, ↓fX10_readsSieve_22, ↓fX10_readsSieve_23, ↓fX10_readsSieve_26, ↓fX10_readsSieve_29, ↓fX10_readsSieve_30, ↓fX10_readsSieve_33, ↓fX10_readsSieve_34, ↓fX10_readsSieve_35, ↓fX10_readsSieve_36, ↓fX10_readsSieve_37, ↓fX10_readsSieve_38, ↓fX10_readsSieve_41, ↓fX10_readsSieve_44, ↓fX10_readsSieve_45, ↓fX10_readsSieve_46, ↓fX10_readsSieve_49, ↓fX10_readsSieve_52, ↓fX10_readsSieve_53, ↓fX10_readsSieve_54, ↓fX10_readsSieve_55, ↓fX10_readsSieve_56, ↓fX10_readsSieve_59, ↓fX10_readsSieve_62, ↓fX10_readsSieve_63, ↓fX10_readsSieve_64, ↓fX10_readsSieve_66, ↓fX10_readsSieve_69, ↓fX10_readsSieve_70, ↓fX10_readsSieve_71, ↓fX10_readsSieve_72, ↓fX10_readsSieve_73, ↓fX10_readsSieve_76, ↓fX10_readsSieve_79, ↓fX10_readsSieve_80, ↓fX10_readsSieve_81, ↓fX10_readsSieve_84, ↓fX10_readsSieve_87, ↓fX10_readsSieve_89, ↓fX10_readsSieve_90, ↓fX10_readsSieve_93, ↓fX10_readsSieve_96, ↓fX10_readsSieve_97, ↓fX10_readsSieve_98, ↓fX10_readsSieve_101, ↓fX10_readsSieve_102, ↓fX10_readsSieve_103, ↓fX10_readsSieve_104, ↓fX10_readsSieve_105, ↓fX10_readsSieve_106, ↓fX10_readsSieve_107, ↓fX10_readsSieve_110, ↓fX10_readsSieve_111, ↓fX10_readsSieve_112, ↓fX10_readsSieve_113, ↓fX10_readsSieve_114, ↓fX10_readsSieve_115, ↓fX10_readsSieve_116, ↓fX10_readsSieve_119, ↓fX10_readsSieve_120, ↓fX10_readsSieve_121, ↓fX10_readsSieve_122, ↓fX10_readsSieve_124, ↓fX10_readsSieve_125, ↓fX10_readsSieve_126, ↓fX10_readsSieve_127, ↓fX10_readsSieve_130, ↓fX10_readsSieve_131, ↓fX10_readsSieve_132, ↓fX10_readsSieve_135, ↓fX10_readsSieve_136, ↓fX10_readsSieve_137, ↓fX10_readsSieve_140, h28, q', and_self, true_and, and_true, false_and, and_false, not_true_eq_false, not_false_eq_true, or_self, true_or, or_true, false_or, or_false, ite_not, Decidable.not_not, decide_eq_true_eq, Bool.not_true, Bool.not_false, Bool.false_eq_true, Bool.not_eq_true, n10, n20, n21, n30, n31, n32, n40, n41, n42, n43, ↓reduceIte]
    have i4' : ∀ Q, RK MX10_isWord 0 [.ref m, .int (zi 1)] [] (0, 0) (E, zg G3, zk L3, r) Q = _ := i4
    have i6' : ∀ Q, RK MX10_isWord 0 [.ref m, .int (zi 2)] [] (0, 0) (E, zg G5, zk L5, r) Q = _ := i6
    have i8' : ∀ Q, RK MX10_isWord 0 [.ref m, .int (zi 3)] [] (0, 0) (E, zg G7, zk L7, r) Q = _ := i8
    rw [start]
    simp (disch := first | assumption | exact c2_int _ | exact c2_ref _ | exact c2_jk | exact c2_null | omega | exact bI_r _ | exact bI_01 _) only [↓fX10_readsSieve_0, ↓fX10_readsSieve_1, ↓fX10_readsSieve_2, ↓fX10_readsSieve_5, ↓fX10_readsSieve_6, ↓fX10_readsSieve_9, ↓fX10_readsSieve_10, ↓fX10_readsSieve_13, ↓fX10_readsSieve_14, ↓fX10_readsSieve_15, ↓fX10_readsSieve_18, ↓fX10_readsSieve_19, ↓fX10_readsSieve_22, ↓fX10_readsSieve_23, ↓fX10_readsSieve_26, ↓fX10_readsSieve_29, ↓fX10_readsSieve_30, ↓fX10_readsSieve_33, ↓fX10_readsSieve_34, ↓fX10_readsSieve_35, ↓fX10_readsSieve_36, ↓fX10_readsSieve_37, ↓fX10_readsSieve_38, ↓fX10_readsSieve_41, ↓fX10_readsSieve_44, ↓fX10_readsSieve_45, ↓fX10_readsSieve_46, ↓fX10_readsSieve_49, ↓fX10_readsSieve_52, ↓fX10_readsSieve_53, ↓fX10_readsSieve_54, ↓fX10_readsSieve_55, ↓fX10_readsSieve_56, ↓fX10_readsSieve_59, ↓fX10_readsSieve_62, ↓fX10_readsSieve_63, ↓fX10_readsSieve_64, ↓fX10_readsSieve_66, ↓fX10_readsSieve_69, ↓fX10_readsSieve_70, ↓fX10_readsSieve_71, ↓fX10_readsSieve_72, ↓fX10_readsSieve_73, ↓fX10_readsSieve_76, ↓fX10_readsSieve_79, ↓fX10_readsSieve_80, ↓fX10_readsSieve_81, ↓fX10_readsSieve_84, ↓fX10_readsSieve_87, ↓fX10_readsSieve_90, ↓fX10_readsSieve_93, ↓fX10_readsSieve_96, ↓fX10_readsSieve_97, ↓fX10_readsSieve_98, ↓fX10_readsSieve_101, ↓fX10_readsSieve_102, ↓fX10_readsSieve_103, ↓fX10_readsSieve_104, ↓fX10_readsSieve_105, ↓fX10_readsSieve_106, ↓fX10_readsSieve_107, ↓fX10_readsSieve_110, ↓fX10_readsSieve_111, ↓fX10_readsSieve_112, ↓fX10_readsSieve_113, ↓fX10_readsSieve_114, ↓fX10_readsSieve_115, ↓fX10_readsSieve_116, ↓fX10_readsSieve_119, ↓fX10_readsSieve_120, ↓fX10_readsSieve_121, ↓fX10_readsSieve_122, ↓fX10_readsSieve_124, ↓fX10_readsSieve_125, ↓fX10_readsSieve_126, ↓fX10_readsSieve_127, ↓fX10_readsSieve_130, ↓fX10_readsSieve_131, ↓fX10_readsSieve_132, ↓fX10_readsSieve_135, ↓fX10_readsSieve_136, ↓fX10_readsSieve_137, ↓fX10_readsSieve_140, ↓e1, ↓e2, ↓e3, h283, ↓i4', ↓e4, ↓e5, ↓i6', ↓e6, ↓e7, ↓i8', ↓e8, ↓e9, and_self, true_and, and_true, false_and, and_false, not_true_eq_false, not_false_eq_true, or_self, true_or, or_true, false_or, or_false, ite_not, Decidable.not_not, decide_eq_true_eq, Bool.not_true, Bool.not_false, Bool.false_eq_true, Bool.not_eq_true, n10, n20, n21, n30, n31, n32, n40, n41, n42, n43, ↓reduceIte]
theorem m_readsSieve (hm : shM E r m) (hK : kWd L m) (hS : rdS G L m B n (.ok T)) (h2 : T.1 = 2) (hN : nmR G L m B f g c) (h28 : G m 28 = cs) (hcs : cs ≤ 4) (hc : c ≤ 7) (hc6 : cs < 4 → c ≤ 6) (hz : ∀ q, 1824 * cs ≤ q → q < 7296 → G (m + 2) q = 0) :
    ∃ G' L', prQ G L G' L' m ∧ G' (m + 6) = G (m + 6) ∧ G' m 29 = G m 29 ∧ rdS G' L' m B n (svS B n f g c cs T) ∧ (∀ σ T4, rdSieve B n f g c cs T = .ok (σ, T4) → nmR G' L' m B (upN f c (nxT B n T.2.2.1).2.1) (upN g c (nxT B n T.2.2.1).2.2.1) (c + 1) ∧ G' m 28 = (cs : Int) + 1 ∧ (∀ k, k < 1824 → G' (m + 2) (1824 * cs + k) = σ k) ∧ ∀ q, ¬ (1824 * cs ≤ q ∧ q < 1824 * cs + 1824) → G' (m + 2) q = G (m + 2) q) ∧ ∀ Q, RK MX10_readsSieve 0 [.ref m, jk, jk, jk, jk] [] (0, 0) (E, zg G, zk L, r) Q = Q (E, zg G', zk L', r) .null := by
  have m0 := hm.1
  obtain ⟨ka2, la2, ra2⟩ := hm.2.2.1
  obtain ⟨G1, L1, f1, s1, n1, h281, e1⟩ := rs_head hm hK hS h2 hN h28 hcs hc hc6
  have pure := sv_pure B n f g c cs T
  have g1 := fun Q => m_good (Q := Q) hm s1
  have x2 : G1 (m + 2) = G (m + 2) := f1.1 _ (by omega)
  cases q : hdS8 B n f g c cs T with
  | error e =>
    have es : svS B n f g c cs T = .error e := by
      unfold svS
      rw [q]
    rw [q] at s1 g1
    have g1' : ∀ Q, RK MX10_good 0 [.ref m] [] (0, 0) (E, zg G1, zk L1, r) Q = Q (E, zg G1, zk L1, r) (.int (zi 0)) := g1
    refine ⟨G1, L1, prQ_N f1, f1.1 _ (by omega), f1.2.1 29 (by decide) (by decide), by rw [es]; exact s1, fun σ T4 h => ?_, fun Q => ?_⟩
    · rw [h] at pure
      obtain ⟨-, -, T2, T9, cn, gg, T10, -, p2, -⟩ := pure
      rw [q] at p2
      cases p2
    · rw [e1 Q]
      simp (disch := first | assumption | exact c2_int _ | exact c2_ref _ | exact c2_jk | exact c2_null | omega | exact bI_r _ | exact bI_01 _) only [↓fX10_readsSieve_0, ↓fX10_readsSieve_1, ↓fX10_readsSieve_2, ↓fX10_readsSieve_5, ↓fX10_readsSieve_6, ↓fX10_readsSieve_9, ↓fX10_readsSieve_10, ↓fX10_readsSieve_13, ↓fX10_readsSieve_14, ↓fX10_readsSieve_15, ↓fX10_readsSieve_18, ↓fX10_readsSieve_19, ↓fX10_readsSieve_22, ↓fX10_readsSieve_23, ↓fX10_readsSieve_26, ↓fX10_readsSieve_29, ↓fX10_readsSieve_30, ↓fX10_readsSieve_33, ↓fX10_readsSieve_34, ↓fX10_readsSieve_35, ↓fX10_readsSieve_36, ↓fX10_readsSieve_37, ↓fX10_readsSieve_38, ↓fX10_readsSieve_41, ↓fX10_readsSieve_44, ↓fX10_readsSieve_45, ↓fX10_readsSieve_46, ↓fX10_readsSieve_49, ↓fX10_readsSieve_52, ↓fX10_readsSieve_53, ↓fX10_readsSieve_54, ↓fX10_readsSieve_55, ↓fX10_readsSieve_56, ↓fX10_readsSieve_59, ↓fX10_readsSieve_62, ↓fX10_readsSieve_63, ↓fX10_readsSieve_64, ↓fX10_readsSieve_66, ↓fX10_readsSieve_69, ↓fX10_readsSieve_70, ↓fX10_readsSieve_71, ↓fX10_readsSieve_72, ↓fX10_readsSieve_73, ↓fX10_readsSieve_76, ↓fX10_readsSieve_79, ↓fX10_readsSieve_80, ↓fX10_readsSieve_81, ↓fX10_readsSieve_84, ↓fX10_readsSieve_87, ↓fX10_readsSieve_89, ↓fX10_readsSieve_90, ↓fX10_readsSieve_93, ↓fX10_readsSieve_96, ↓fX10_readsSieve_97, ↓fX10_readsSieve_98, ↓fX10_readsSieve_101, ↓fX10_readsSieve_102, ↓fX10_readsSieve_103, ↓fX10_readsSieve_104, ↓fX10_readsSieve_105, ↓fX10_readsSieve_106, ↓fX10_readsSieve_107, ↓fX10_readsSieve_110, ↓fX10_readsSieve_111, ↓fX10_readsSieve_112, ↓fX10_readsSieve_113, ↓fX10_readsSieve_114, ↓fX10_readsSieve_115, ↓fX10_readsSieve_116, ↓fX10_readsSieve_119, ↓fX10_readsSieve_120, ↓fX10_readsSieve_121, ↓fX10_readsSieve_122, ↓fX10_readsSieve_124, ↓fX10_readsSieve_125, ↓fX10_readsSieve_126, ↓fX10_readsSieve_127, ↓fX10_readsSieve_130, ↓fX10_readsSieve_131, ↓fX10_readsSieve_132, ↓fX10_readsSieve_135, ↓fX10_readsSieve_136, ↓fX10_readsSieve_137, ↓fX10_readsSieve_140, ↓g1', and_self, true_and, and_true, false_and, and_false, not_true_eq_false, not_false_eq_true, or_self, true_or, or_true, false_or, or_false, ite_not, Decidable.not_not, decide_eq_true_eq, Bool.not_true, Bool.not_false, Bool.false_eq_true, Bool.not_eq_true, n10, n20, n21, n30, n31, n32, n40, n41, n42, n43, ↓reduceIte]
  | ok T9 =>
    have hcs3 : cs ≤ 3 := by
      rcases Nat.lt_or_ge cs 4 with z | z
      · omega
      · have e5 : hdS1 B n cs T = .error (5, T) := by
          unfold hdS1
          rw [if_neg (by omega)]
          rfl
        unfold hdS8 hdS7 hdS5 hdS3 at q
        rw [e5] at q
        cases q
    have es : svS B n f g c cs T = lawR B n T9 := by
      unfold svS
      rw [q]
    rw [q] at s1 g1
    have g1' : ∀ Q, RK MX10_good 0 [.ref m] [] (0, 0) (E, zg G1, zk L1, r) Q = Q (E, zg G1, zk L1, r) (.int (zi 1)) := g1
    have hK1 := kWd_N hK f1
    generalize hfr : nbV B n (hdS3 B n f g c cs T) 0 999 = fr at e1
    generalize hby : nbV B n (hdS5 B n f g c cs T) 1 99 = by_ at e1
    generalize hma : nbV B n (hdS7 B n f g c cs T) 2 600 = ma at e1
    let G2 : Nat → Nat → Int := u2 (u2 (u2 G1 (m + 2) (1824 * cs + 1) fr) (m + 2) (1824 * cs + 2) by_) (m + 2) (1824 * cs + 3) ma
    have s2 : rdS G2 L1 m B n (.ok T9) := rdS_2 (rdS_2 (rdS_2 s1))
    have c2 : ∀ q, G2 (m + 2) q = if q = 1824 * cs + 3 then ma else if q = 1824 * cs + 2 then by_ else if q = 1824 * cs + 1 then fr else G (m + 2) q := fun q => by
      show (if m + 2 = m + 2 ∧ q = 1824 * cs + 3 then ma else if m + 2 = m + 2 ∧ q = 1824 * cs + 2 then by_ else if m + 2 = m + 2 ∧ q = 1824 * cs + 1 then fr else G1 (m + 2) q) = _
      rw [x2]
      simp only [true_and]
    obtain ⟨G3, L3, f3, s3, v3, e3⟩ := m_readsLaw (b0 := 1824 * cs) hm hK1 (by omega) s2 rfl (fun q hq => by
      rw [c2, if_neg (by omega), if_neg (by omega), if_neg (by omega)]
      exact hz q (by omega) (by omega))
    have fr2 : prV G1 L1 G2 L1 m := (prV_2.trans prV_2).trans prV_2
    have fr13 : prV G1 L1 G3 L3 m := fr2.trans f3
    have h283 : G3 m 28 = cs := by rw [fr13.2.1 28 (by decide), h281]
    let G4 : Nat → Nat → Int := u2 G3 m 28 ((cs : Int) + 1)
    have fr4 : prQ G3 L3 G4 L3 m := ⟨fun x a b d => u2_a _ _ _ _ a, fun j a b d e => u2_i _ _ _ _ b, fun _ _ _ => rfl, fun _ _ => rfl⟩
    have s4 : rdS G4 L3 m B n (lawR B n T9) := by
      refine rdS_c s3 (fun j a b => u2_i _ _ _ _ ?_) (u2_a _ _ _ _ (by omega)) rfl
      omega
    refine ⟨G4, L3, ((prQ_N f1).trans (prQ_V fr13)).trans fr4, ?_, ?_, by rw [es]; exact s4, fun σ T4 h => ?_, fun Q => ?_⟩
    · show u2 G3 m 28 _ (m + 6) = _
      rw [u2_a _ _ _ _ (by omega), fr13.1 _ (by omega) (by omega), f1.1 _ (by omega)]
    · show u2 G3 m 28 _ m 29 = _
      rw [u2_i _ _ _ _ (by decide), fr13.2.1 29 (by decide), f1.2.1 29 (by decide) (by decide)]
    · rw [h] at pure
      obtain ⟨p0, -, T2, T9', cn, gg, T10, p1, p2, p3, p4, p5⟩ := pure
      rw [q] at p2
      cases p2
      rw [hfr, hby, hma] at p5
      have c4 : G4 (m + 2) = lwF (1824 * cs) (lawT B T9) cn gg (G2 (m + 2)) := by
        show u2 G3 m 28 _ (m + 2) = _
        rw [u2_a _ _ _ _ (by omega)]
        exact v3 cn gg T10 p3 p4
      refine ⟨nmR_N (n1 T2 p1) ?_ ?_, u2_s _ _ _ _, fun k hk => ?_, fun q hq => ?_⟩
      · show u2 G3 m 28 _ m 32 = _
        rw [u2_i _ _ _ _ (by decide), fr13.2.1 32 (by decide)]
      · exact fr13.2.2.1 _ (by omega)
      · rw [c4, p5]
        unfold lwF nwS
        by_cases k0 : k = 0
        · rw [if_pos (by omega), if_pos k0]
        · rw [if_neg (by omega), if_neg k0]
          by_cases k7 : k = 7
          · rw [if_pos (by omega), if_neg (by omega), if_neg (by omega), if_neg (by omega), if_pos k7]
          · rw [if_neg (by omega)]
            by_cases k8 : 8 ≤ k ∧ k < 20
            · rw [if_pos (by omega), if_neg (by omega), if_neg (by omega), if_neg (by omega), if_neg k7, if_pos k8, show 1824 * cs + k - 1824 * cs - 8 = k - 8 by omega]
            · rw [if_neg (by omega), c2]
              by_cases k1 : k = 1
              · rw [if_neg (by omega), if_neg (by omega), if_pos (by omega), if_pos k1]
              · by_cases k2 : k = 2
                · rw [if_neg (by omega), if_pos (by omega), if_neg k1, if_pos k2]
                · by_cases k3 : k = 3
                  · rw [if_pos (by omega), if_neg k1, if_neg k2, if_pos k3]
                  · rw [if_neg (by omega), if_neg (by omega), if_neg (by omega), if_neg k1, if_neg k2, if_neg k3, if_neg k7, if_neg k8]
                    exact hz _ (by omega) (by omega)
      · rw [c4]
        unfold lwF
        rw [if_neg (by omega), if_neg (by omega), if_neg (by omega), c2, if_neg (by omega), if_neg (by omega), if_neg (by omega)]
    · have i1 : (1824 * (cs : Int) + 1).toNat = 1824 * cs + 1 := by omega
      have i2 : (1824 * (cs : Int) + 2).toNat = 1824 * cs + 2 := by omega
      have i3 : (1824 * (cs : Int) + 3).toNat = 1824 * cs + 3 := by omega
      have eG : u2 (u2 (u2 G1 (m + 2) (1824 * cs + 1) fr) (m + 2) (1824 * cs + 2) by_) (m + 2) (1824 * cs + 3) ma = G2 := rfl
      have e4 : u2 G3 m 28 ((cs : Int) + 1) = G4 := rfl
      have e3' : ∀ Q, RK MX10_readsLaw 0 [.ref m, .int (zi (1824 * (cs : Int))), jk, jk] [] (0, 0) (E, zg G2, zk L1, r) Q = Q (E, zg G3, zk L3, r) .null := fun Q => by
        have := e3 Q
        rw [show ((1824 * cs : Nat) : Int) = 1824 * (cs : Int) by omega] at this
        exact this
      rw [e1 Q]
      simp (disch := first | assumption | exact c2_int _ | exact c2_ref _ | exact c2_jk | exact c2_null | omega | exact bI_r _ | exact bI_01 _) only [↓fX10_readsSieve_0, ↓fX10_readsSieve_1, ↓fX10_readsSieve_2, ↓fX10_readsSieve_5, ↓fX10_readsSieve_6, ↓fX10_readsSieve_9, ↓fX10_readsSieve_10, ↓fX10_readsSieve_13, ↓fX10_readsSieve_14, ↓fX10_readsSieve_15, ↓fX10_readsSieve_18, ↓fX10_readsSieve_19, ↓fX10_readsSieve_22, ↓fX10_readsSieve_23, ↓fX10_readsSieve_26, ↓fX10_readsSieve_29, ↓fX10_readsSieve_30, ↓fX10_readsSieve_33, ↓fX10_readsSieve_34, ↓fX10_readsSieve_35, ↓fX10_readsSieve_36, ↓fX10_readsSieve_37, ↓fX10_readsSieve_38, ↓fX10_readsSieve_41, ↓fX10_readsSieve_44, ↓fX10_readsSieve_45, ↓fX10_readsSieve_46, ↓fX10_readsSieve_49, ↓fX10_readsSieve_52, ↓fX10_readsSieve_53, ↓fX10_readsSieve_54, ↓fX10_readsSieve_55, ↓fX10_readsSieve_56, ↓fX10_readsSieve_59, ↓fX10_readsSieve_62, ↓fX10_readsSieve_63, ↓fX10_readsSieve_64, ↓fX10_readsSieve_66, ↓fX10_readsSieve_69, ↓fX10_readsSieve_70, ↓fX10_readsSieve_71, ↓fX10_readsSieve_72, ↓fX10_readsSieve_73, ↓fX10_readsSieve_76, ↓fX10_readsSieve_79, ↓fX10_readsSieve_80, ↓fX10_readsSieve_81, ↓fX10_readsSieve_84, ↓fX10_readsSieve_87, ↓fX10_readsSieve_89, ↓fX10_readsSieve_90, ↓fX10_readsSieve_93, ↓fX10_readsSieve_96, ↓fX10_readsSieve_97, ↓fX10_readsSieve_98, ↓fX10_readsSieve_101, ↓fX10_readsSieve_102, ↓fX10_readsSieve_103, ↓fX10_readsSieve_104, ↓fX10_readsSieve_105, ↓fX10_readsSieve_106, ↓fX10_readsSieve_107, ↓fX10_readsSieve_110, ↓fX10_readsSieve_111, ↓fX10_readsSieve_112, ↓fX10_readsSieve_113, ↓fX10_readsSieve_114, ↓fX10_readsSieve_115, ↓fX10_readsSieve_116, ↓fX10_readsSieve_119, ↓fX10_readsSieve_120, ↓fX10_readsSieve_121, ↓fX10_readsSieve_122, ↓fX10_readsSieve_124, ↓fX10_readsSieve_125, ↓fX10_readsSieve_126, ↓fX10_readsSieve_127, ↓fX10_readsSieve_130, ↓fX10_readsSieve_131, ↓fX10_readsSieve_132, ↓fX10_readsSieve_135, ↓fX10_readsSieve_136, ↓fX10_readsSieve_137, ↓fX10_readsSieve_140, ↓g1', i1, i2, i3, eG, ↓e3', h283, e4, and_self, true_and, and_true, false_and, and_false, not_true_eq_false, not_false_eq_true, or_self, true_or, or_true, false_or, or_false, ite_not, Decidable.not_not, decide_eq_true_eq, Bool.not_true, Bool.not_false, Bool.false_eq_true, Bool.not_eq_true, n10, n20, n21, n30, n31, n32, n40, n41, n42, n43, ↓reduceIte]
end BM
