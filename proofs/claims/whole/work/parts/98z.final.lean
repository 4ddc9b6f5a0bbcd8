/-! THE CLAIM OUT OF ONE WALK OF THE LAW'S BODY. Your part is whole_start (and what it stands on); all else here is the same for every law, but numbers. -/
def R_law : String := "SieveHouseLaw"
def lw_P (b : Addr) (xs : List Int32) (args : Array Value) (s : State) : Prop := args = #[.ref b] ∧ s.IntsAt b xs ∧ xs.length ≤ 3072 ∧ (Jvm.Cond.and given_1 narrow_1).before args s = true
def lw_Q (_ : Array Value) (s : State) (o : Outcome) (t : State) : Prop := o = .returned (some (.int 1)) ∧ Framed s o t [] 600000 7302250
def lw_Z (below : List Frame) (a : Array Value) (s : State) : State → Prop := fun t => ∃ o, t.status = .running ∧ Ended t below o ∧ lw_Q a s o t
/-- the law's own end, with 1 on the stack, nothing written that was there before, its room as the claim has it -/
theorem lw_ret {p : Program} {l : Launch} {e : Env} {s : State} {m : MethodId} {below : List Frame} {meth : Method} {c : Code} {b : Nat} (hx : p.tables.exec = Jvm.exec) (hb : c.code = code) (hr : meth.sig.returnType = ret) (hlocks : meth.locks = false) {pc : Nat} {H : Heap} {ls : Array Slot} (hdg : decode code pc = .ok (.ireturn, 1)) : W p l e room_1 s m #[Value.ref b] below meth c H [] 600000 7302250 (lw_Z below #[Value.ref b] s) (F0 m pc ls [.int 1]) := by
  intro T hT X
  obtain ⟨fs, hret, hrun, hended, hW, hframe⟩ := X.leave (v := some (.int 1)) (hlocks := hlocks) (fun h => by rw [hr] at h; cases h)
  have hmeth' : T.vm.method? m = some meth := X.method'
  refine ⟨T.setFrames fs, ?_, .returned (some (.int 1)), hrun, hended, rfl, ⟨_, rfl⟩, hW, hframe⟩
  jvm_step X.here [X.here.top, hx, hb, hdg, hmeth', hr, ret, narrow_b1]
  (try refine ⟨rfl, ?_⟩); (try refine ⟨rfl, ?_⟩)
  first | (intro acts; rw [hret _ acts rfl rfl rfl]) | rw [hret _ _ rfl rfl rfl]
  exact Steps.refl _
/-- what holds at the law's entry: the machine, the code, the tables' words (any of lw_tbl by 'hts w (by decide +kernel)'), the script of L ints xs at the cell b, what the Statement gives of the start (any of its parts by flat_of_before) -/
def lw_At (p : Program) (s : State) (m : MethodId) (meth : Method) (c : Code) (b L : Nat) (xs : Nat → Int32) : Prop :=
  p.tables.exec = Jvm.exec ∧ c.code = code ∧ meth.sig.returnType = ret ∧ c.maxLocals = 4 ∧ s.vm.findClass R_law = some m.cls ∧ (∀ w ∈ lw_tbl, w.before #[Value.ref b] s = true) ∧ va_X b L xs s s.heap ∧ b < s.heap.size ∧ meth.locks = false ∧ (Jvm.Cond.and given_1 narrow_1).before #[Value.ref b] s = true ∧ meth.name = "law"
def stX : List String := ["sieve", "list", "from", "by", "many", "lucky", "flavius", "ludic", "prime", "fixed", "told", "rounds"]
def stW : List Nat := [354, 440, 430, 431, 432, 433, 434, 435, 436, 437, 439, 438]
theorem stW_ok : ∀ i, i < 12 → lw_tbl[stW.getD i 0]? = some (Cond.stringRef RX5 (stT.getD i 0) (stX.getD i "")) := by decide +kernel
theorem stT_idx : ∀ i, i < 12 → stT.idxOf (stT.getD i 0) = i := by decide
def tm (i : Nat) : Term := Term.string RX5 (stT.getD i 0)
theorem pm_ex : ∀ i, i < 12 → Cond.exactly (tm i) "java/lang/String" ∈ flatC (Jvm.Cond.and given_1 narrow_1) := by decide +kernel
theorem pm_co : ∀ i, i < 12 → Cond.eq (.field (tm i) "java/lang/String" "coder" "B") (.int 0) ∈ flatC (Jvm.Cond.and given_1 narrow_1) := by decide +kernel
theorem pm_ar : ∀ i, i < 12 → Cond.arrayOf (.field (tm i) "java/lang/String" "value" "[B") .byte ∈ flatC (Jvm.Cond.and given_1 narrow_1) := by decide +kernel
theorem pm_le : ∀ i, i < 12 → Cond.eq (.length (.field (tm i) "java/lang/String" "value" "[B")) (.int (Int32.ofNat (slen.getD i 0))) ∈ flatC (Jvm.Cond.and given_1 narrow_1) := by decide +kernel
theorem pm_el : ∀ i, i < 12 → ∀ j, j < slen.getD i 0 → Cond.eq (.elem (.field (tm i) "java/lang/String" "value" "[B") (.int (Int32.ofNat j))) (.int ((stL.getD i []).getD j 0)) ∈ flatC (Jvm.Cond.and given_1 narrow_1) := by decide +kernel
theorem pm_ne : ∀ i, i < 12 → ∀ j, j < 12 → i ≠ j → Cond.not (Cond.eq (tm i) (tm j)) ∈ flatC (Jvm.Cond.and given_1 narrow_1) ∨ Cond.not (Cond.eq (tm j) (tm i)) ∈ flatC (Jvm.Cond.and given_1 narrow_1) := by decide +kernel
theorem pm_cs : Cond.eq (.static "java/lang/String" "COMPACT_STRINGS" "Z") (.int 1) ∈ flatC (Jvm.Cond.and given_1 narrow_1) := by decide +kernel
theorem pm_si : Cond.isRef (.static "jdk/internal/util/Preconditions" "SIOOBE_FORMATTER" "Ljava/util/function/BiFunction;") ∈ flatC (Jvm.Cond.and given_1 narrow_1) := by decide +kernel
theorem s0_HR {P : SP} {s : State} (hsz : p_bs P = s.heap.size) (hA : KS P s) : HR P (s0 s.heap.size (p_b P) (p_L P) (p_xs P) (p_aK P)) s.heap := by
  refine ⟨rfl, fun a => ?_, fun i hi => ?_⟩
  · have hk : (arow (s0 s.heap.size (p_b P) (p_L P) (p_xs P) (p_aK P)) a).1 = s0_k (p_b P) (p_L P) (p_aK P) a := rfl
    have hv : (arow (s0 s.heap.size (p_b P) (p_L P) (p_xs P) (p_aK P)) a).2.1 = s0_i (p_b P) (p_xs P) (p_aK P) a := rfl
    unfold HX
    rw [hk, hv]
    unfold s0_k s0_i
    by_cases hab : a = p_b P
    · rw [if_pos hab]
      refine ⟨fun h1 h2 => absurd h2 (by show ¬ 7 ≤ 6; decide), fun _ => ⟨hab, rfl, fun j hj => ?_⟩, fun c hc h => absurd h (by show ¬ 7 = 10 + c; omega), fun h => absurd h (by show ¬ 7 = 20; decide)⟩
      rw [if_pos hab]
    · rw [if_neg hab]
      cases hf : (List.range 12).find? (fun i => p_aK P i == a) with
      | none => exact ⟨fun h1 h2 => absurd h1 (by decide), fun h => absurd h (by decide), fun c hc h => absurd h (by show ¬ 0 = 10 + c; omega), fun h => absurd h (by decide)⟩
      | some i =>
        have h1 := List.find?_some hf
        have h2 := List.mem_range.mp (List.mem_of_find?_eq_some hf)
        have h3 : p_aK P i = a := by simpa using h1
        refine ⟨fun _ h => absurd h (by show ¬ 20 ≤ 6; decide), fun h => absurd h (by show ¬ 20 = 7; decide), fun c hc h => absurd h (by show ¬ 20 = 10 + c; omega), fun _ => ⟨i, h2, h3.symm, rfl, fun j hj => ?_⟩⟩
        rw [if_neg hab]
  · show p_aK P (stT.idxOf (stT.getD i 0)) = _
    rw [stT_idx i hi]
theorem arr_of {s : State} {args : Array Value} {ty : FieldType} (h : (Cond.arrayClass ty).before args s = true) : ∃ cA, ArrOfT s cA ty ∧ s.vm.findClass ("[" ++ ty.toString) = some cA := by
  obtain ⟨c, k, comp, h1, h2, h3⟩ := Cond.arrayClass_spec h
  exact ⟨c, fun n z => ⟨fun k h => (by cases h), k, h2, comp, h3⟩, h1⟩
theorem arq_of {s : State} {C : String} (h : va_AO C s) : ∃ cA, ArrOfT s cA (.object C) ∧ va_RA s cA (.object C) := by
  obtain ⟨comp, c, k, h1, -, h2, h3, h4⟩ := Cond.arrayOver_spec (h : (Cond.arrayOver (.object C)).before #[] s = true)
  exact ⟨c, fun n z => ⟨fun k h => (by cases h), k, h2, comp, h3⟩, k, comp, h2, h3, h1, h4⟩
/-- the law of one script, from the entry -/
theorem whole_start {p : Program} {e : Env} {s : State} {m : MethodId} {below : List Frame} {meth : Method} {c : Code} (l : Launch) (hflags : l.flags = flags0) {b L : Nat} {xs : Nat → Int32} (hL : L ≤ 3072) (C0 : lw_At p s m meth c b L xs) : W p l e room_1 s m #[Value.ref b] below meth c s.heap [] 0 0 (lw_Z below #[Value.ref b] s) (entryFrame m ([Value.ref b] : List Value).toArray 4) := by
  obtain ⟨hx, hb, hr, hml, hown, hts, hX, hbl, hlocks, hgv, hname⟩ := C0
  have hflat := flat_of_before _ hgv
  have hTB : ∀ w ∈ TB, w.before #[Value.ref b] s = true := fun w hw => hts w (List.mem_filter.mp hw).1
  have hA : ∀ a : Nat, a < s.heap.size → ¬ (fun q : Nat => s.heap.size ≤ q) a := fun a h => Nat.not_le.mpr h
  -- classes
  have hk : ∀ c, c < 7 → ∃ (cC : ClassId) (iS : Nat → Nat), u_Kn s (RO c) (TO c) (NO c) cC iS := fun c hc => by
    obtain ⟨h1, h2, h3, h4, h5, h6⟩ := kf_all c hc
    exact u_known hTB h2 (hTB _ h5)
  have hk2 : ∀ c, ∃ q : ClassId × (Nat → Nat), c < 7 → u_Kn s (RO c) (TO c) (NO c) q.1 q.2 := fun c => by
    by_cases hc : c < 7
    · obtain ⟨x, y, h⟩ := hk c hc
      exact ⟨(x, y), fun _ => h⟩
    · exact ⟨(0, fun _ => 0), fun h => absurd h hc⟩
  obtain ⟨dq, hdq⟩ := Classical.axiomOfChoice hk2
  -- array classes
  obtain ⟨t1, a1, b1⟩ := arr_of (hTB _ ac_int)
  obtain ⟨t2, a2, b2⟩ := arr_of (hTB _ ac_byte)
  obtain ⟨t3, a3, b3⟩ := arr_of (hTB _ ac_boolean)
  obtain ⟨t4, a4, b4⟩ := arr_of (hTB _ ac_long)
  have ho7 : va_AO RX7 s := va_AO.of (hts _ (List.mem_of_getElem? (i := 98) (by decide +kernel)))
  have ho2 : va_AO RX2 s := va_AO.of (hts _ (List.mem_of_getElem? (i := 100) (by decide +kernel)))
  obtain ⟨t5, a5, b5⟩ := arq_of ho7
  obtain ⟨t6, a6, b6⟩ := arq_of ho2
  -- Strings
  obtain ⟨adK, adV, hvS, hev⟩ := vk_Sof (tm := tm) (N := 12) (len := slen) (byt := stL) (s := s) (args := #[Value.ref b]) (A := fun q => s.heap.size ≤ q) (fun i hi => Nat.lt_of_le_of_lt (sl_small i hi) (by decide)) (fun i hi => hflat _ (pm_ex i hi)) (fun i hi => hflat _ (pm_co i hi)) (fun i hi => hflat _ (pm_ar i hi)) (fun i hi => hflat _ (pm_le i hi)) (fun i hi j hj => hflat _ (pm_el i hi j hj)) (fun i j hi hj hij => (pm_ne i hi j hj hij).imp (hflat _) (hflat _)) hA
  let P : SP := (((fun c => (dq c).1, fun c => (dq c).2), fun k => if k = 1 then t1 else if k = 2 then t2 else if k = 3 then t3 else if k = 4 then t4 else if k = 5 then t5 else t6), (s.heap.size, b, L, xs), (adK, adV))
  have hKS : KS P s := by
    refine ⟨⟨⟨fun c q hq => ?_, fun k q hq => ?_⟩, ho7, ho2, fun w hw => va_Nw.of (NW_tab hw) (hts w (List.mem_filter.mp hw).1)⟩, ⟨hX, hbl, Nat.lt_of_le_of_lt hL (by decide), Nat.le_refl _⟩, ⟨hvS, fun i hi => ⟨stX.getD i "", vk_R.of (hts _ (List.mem_of_getElem? (stW_ok i hi))) (hev i hi)⟩⟩, ?_, ?_⟩
    · match c, hq with
      | 0, hq => cases hq; exact hdq 0 (by decide)
      | 1, hq => cases hq; exact hdq 1 (by decide)
      | 2, hq => cases hq; exact hdq 2 (by decide)
      | 3, hq => cases hq; exact hdq 3 (by decide)
      | 4, hq => cases hq; exact hdq 4 (by decide)
      | 5, hq => cases hq; exact hdq 5 (by decide)
      | 6, hq => cases hq; exact hdq 6 (by decide)
      | c + 7, hq => simp [vwCl] at hq
    · match k, hq with
      | 0, hq => cases hq; exact ⟨a1, b1⟩
      | 1, hq => cases hq; exact ⟨a2, b2⟩
      | 2, hq => cases hq; exact ⟨a3, b3⟩
      | 3, hq => cases hq; exact ⟨a4, b4⟩
      | 4, hq => cases hq; exact ⟨a5, b5⟩
      | 5, hq => cases hq; exact ⟨a6, b6⟩
      | k + 6, hq => simp [tys6] at hq
    · exact va_Zof (hts _ (List.mem_of_getElem? (i := 368) (by decide +kernel))) (hTB _ cini_14) (va_eqt (hflat _ pm_cs)) hA
    · exact va_Zqof (hts _ (List.mem_of_getElem? (i := 384) (by decide +kernel))) (hTB _ cini_17) (hflat _ pm_si) hA
  have hHR : HR P (s0 s.heap.size b L xs adK) s.heap := s0_HR (P := P) rfl hKS
  have hne : ∀ i, i < 12 → adK i < s.heap.size ∧ adK i ≠ b := by
    intro i hi
    obtain ⟨⟨cell, q1, q2, q3, q4⟩, -, ⟨cf, k, fi, f, cell2, w1, w2, w3, w4, w5, w6⟩, -⟩ := hvS.1 i hi
    refine ⟨(Array.getElem?_eq_some_iff.mp q1).1, fun hab => ?_⟩
    obtain ⟨scr, x1, x2, x3, x4, x5⟩ := hX
    rw [hab] at w3
    have hc : cell2 = scr := Option.some.inj (w3.symm.trans x1)
    subst hc
    have hlt : f.slot < L := by rw [← x4]; exact (Array.getElem?_eq_some_iff.mp w5).1
    have := (x5 _ hlt).symm.trans w5
    cases this
  obtain ⟨n, r, hrun, hres⟩ := law_ok s.heap.size b L xs adK hbl hL hne hvS.2
  rw [lg_entry_eq]
  have CC : CX P ML_law p room_1 s m #[Value.ref b] meth c := ⟨⟨hx, hb, hml, hown, hTB⟩, ⟨hname, hr, hlocks⟩, ⟨by decide, by decide, Nat.le_refl _, Nat.le_refl _⟩, hKS⟩
  refine body P l n ML_law 0 _ [] (0, 0) _ r hrun (by decide) (Nat.zero_le _) (Nat.zero_le _) p e room_1 s m #[Value.ref b] below meth c s.heap [] _ _ CC ⟨hHR, va_S.rf, LR_entry ML_law [.ref b] (Nat.le_of_ble_eq_true rfl)⟩ ?_
  intro pc la st H' locs' hR hh hS
  rcases hR with ⟨x, hd, rfl, hv, t, ht, hn⟩ | ⟨hd, rfl, hv, nm, ht⟩ | ⟨hd, rfl, ht⟩
  · have hx1 : x = 1 := by
      have := hv.symm.trans hres
      cases this
      rfl
    subst hx1
    exact va_forget hS.2.2 (lw_ret hx hb hr hlocks hd)
  · cases ht
  · cases ht
set_option maxHeartbeats 4000000 in
theorem lw_walk (l : Launch) (hflags : l.flags = flags0) (b : Addr) (xs : List Int32) : MetFree l x (headSpec (Jvm.Cond.code x code maxLocals ret :: tables_1) room_1) (lw_P b xs) (fun _ _ _ _ _ => True) lw_Q := by
  refine MetFree.of_bodyS (code := code) (maxLocals := maxLocals) (ret := ret) (by decide) ?_ ?_
  · intro args s m h hn
    obtain ⟨meth, c, h1, h2, h3, h4, h5, h6, -, -⟩ := Cond.code_spec hn (atoms_spec (ws := Jvm.Cond.code x code maxLocals ret :: tables_1) h _ List.mem_cons_self)
    exact ⟨meth, c, h1, h2, h3, h4, h5, h6⟩
  · intro p e s m args below meth c s₁ B hml0 hP _
    obtain ⟨rfl, hx, hbd, hgv⟩ := hP
    obtain ⟨scr, harrAt, hlist, hof, hsmall⟩ := hx
    obtain ⟨hcb, hkn, -, -⟩ := State.arrayAt?_spec harrAt
    have hown : s.vm.findClass R_law = some m.cls := findClass_of_methodNamed B.named
    have hts0 : ∀ c ∈ (Jvm.Cond.code x code maxLocals ret :: tables_1), c.before #[Value.ref b] s = true := atoms_spec (ws := Jvm.Cond.code x code maxLocals ret :: tables_1) B.pre
    have hts : ∀ w ∈ lw_tbl, w.before #[Value.ref b] s = true := k2_hts_sels lw_privs (fun w hw => hts0 w (List.mem_cons_of_mem _ hw)) lw_privs_ok
    have hml : c.maxLocals = 4 := B.maxLocals_eq (hts0 _ List.mem_cons_self)
    have X₀ : Stand p l e room_1 s m #[Value.ref b] below meth c s₁ [] 0 0 := Stand.of_body B
    have hh0 : s₁.heap = s.heap := by rw [B.state]; rfl
    have hsz : scr.slots.size = xs.length := by rw [← Array.length_toList, hlist, List.length_map]
    have hval : ∀ j : Nat, j < xs.length → scr.slots[j]? = some (.int (xs.getD j 0)) := fun j hj => by
      rw [← Array.getElem?_toList, hlist]
      simp [hj]
    have hbl : b < s.heap.size := (Array.getElem?_eq_some_iff.mp hcb).1
    have hX : va_X b xs.length (fun j => xs.getD j 0) s s.heap := ⟨scr, hcb, hof, hkn, hsz, hval⟩
    have K : W p l e room_1 s m #[Value.ref b] below meth c s₁.heap [] 0 0 (lw_Z below #[Value.ref b] s) (entryFrame m ([Value.ref b] : List Value).toArray 4) := by
      rw [hh0]
      exact whole_start l hflags hbd ⟨B.exec, B.bytes, B.returns, hml, hown, hts, hX, hbl, B.notSynchronized, hgv, (name_of_methodNamed B.named B.method).1⟩
    obtain ⟨t, a1, o, b1, b2, b3⟩ := K s₁ rfl X₀
    exact ⟨t, o, a1, b1, b2, b3⟩
theorem lw_pre_spec {args : Array Value} {s : State} (h : (Jvm.Cond.and given_1 narrow_1).before args s = true) (hr : rest_1_c.before args s = true) : ∃ (b : Addr) (xs : List Int32), lw_P b xs args s := by
  have hs := flat_of_before _ h
  have hq := flat_of_before _ hr
  have hc : (Cond.count 1).before args s = true := hs _ (by decide +kernel)
  have harr : (Cond.arrayOf (.arg 0) .int).before args s = true := hs _ (by decide +kernel)
  have hle : (Cond.le (.length (.arg 0)) (.int 3072)).before args s = true := hs _ (by decide +kernel)
  have hlen : (Cond.isInt (.length (.arg 0))).before args s = true := hq _ (by decide +kernel)
  have hall : (Cond.all (.arg 0) (.isInt (.elem (.arg 0) (.index 0)))).before args s = true := hq _ (by decide +kernel)
  obtain ⟨b, xs, hb, hx⟩ := State.ints_of_pre rfl harr hlen hall
  have hsm : xs.length < 2 ^ 31 := hx.choose_spec.2.2.2
  have hev : (Term.length (.arg 0)).eval args s none [] s = some (.int xs.length.toInt32) := hx.length_eval hb
  have hv := Cond.le_ints hev (show (Term.int 3072).eval args s none [] s = some (.int 3072) from rfl)
  have hd : xs.length.toInt32 ≤ 3072 := by
    simpa [Cond.before, Cond.holds, hv] using hle
  have hN : xs.length ≤ 3072 := (Int32.ofNat_le_ofNat hsm (by decide)).mp (show Int32.ofNat xs.length ≤ Int32.ofNat 3072 from hd)
  exact ⟨b, xs, Cond.one_arg hc (show args[0]? = some (.ref b) from hb), hx, hN, h⟩
theorem lw_comes (l : Launch) (hflags : l.flags = flags0) : Comes l x (Jvm.Cond.code x code maxLocals ret :: tables_1) room_1 (fun tb e args s => Calls_1 tb e args s ∧ rest_1 tb e args s ∧ Pre_1 tb e args s)
    (fun _ _ args s o t => lw_Q args s o t) := by
  intro p e ha hc hk s m args below hf hfit hheap happ hpre
  obtain ⟨b, xs, hP⟩ := lw_pre_spec hpre.2.2 hpre.2.1
  obtain ⟨k, o, h1, h2, h3, hQ⟩ := lw_walk l hflags b xs p e ha hc hk s m args below hf ((Spec.applies_iff_loose hf).mp happ).1 hP trivial
  exact ⟨k, o, h1, h2, h3, hQ⟩
theorem lw_frame {s t : State} {o : Outcome} {args : Array Value} (h : Framed s o t [] 600000 7302250) :
    Framed s o t (fieldLocs frame_1_writes args s ++ arrayLocs frame_1_arrays args s ++ staticLocs frame_1_statics s) 600000 7302250 := h
theorem lw_limb (L : Cond) (hL : ∀ (args : Array Value) (s t : State), L.after args s (.returned (some (.int 1))) t = true) :
    ArmFor flags0 classFile x code maxLocals ret World_1 tables_1 room_1 Calls_1 rest_1 Pre_1
      (fun tb e a s o t => postC L tb e a s o t ∧ Framed s o t (fieldLocs frame_1_writes a s ++ arrayLocs frame_1_arrays a s ++ staticLocs frame_1_statics s) 600000 7302250) := by
  intro l hflags _ _ p e ha hc hk s m args below hf hfit hheap happ hpre
  obtain ⟨k, o, h1, h2, h3, rfl, hF⟩ := lw_comes l hflags p e ha hc hk s m args below hf hfit hheap happ hpre
  exact ⟨k, _, h1, h2, h3, hL args s _, lw_frame hF⟩
theorem i_vc : Claimed_1_1 ∧ Claimed_1_2 := ⟨lw_limb limb_1_1 (fun args s t => by simp [limb_1_1, Cond.after, Cond.holds, Cond.value]), lw_limb limb_1_2 (fun args s t => Cond.after_iff.mpr (by
  first | (rw [show limb_1_2 = Cond.eq .result (.int 1) from rfl, Cond.eq_ints (x := 1) (y := 1) rfl rfl]; simp; done) | (simp [limb_1_2, Cond.value, Term.eval]; done)))⟩
