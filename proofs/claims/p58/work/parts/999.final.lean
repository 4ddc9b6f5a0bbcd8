/-! THE CLAIM OUT OF ONE WALK OF THE LAW'S BODY. Your part is whole_start (and what it stands on); all else here is the same for every law, but numbers. -/
def R_law : String := "SieveHouseLaw"
def lw_P (b : Addr) (xs : List Int32) (args : Array Value) (s : State) : Prop := args = #[.ref b] ∧ s.IntsAt b xs ∧ xs.length ≤ 260 ∧ (Jvm.Cond.and given_1 narrow_1).before args s = true
def lw_Q (_ : Array Value) (s : State) (o : Outcome) (t : State) : Prop := o = .returned (some (.int 1)) ∧ Framed s o t [] 600000 7302250
def lw_Z (below : List Frame) (a : Array Value) (s : State) : State → Prop := fun t => ∃ o, t.status = .running ∧ Ended t below o ∧ lw_Q a s o t
/-- the law's own end, with 1 on the stack, nothing written that was there before, its room as the claim has it -/
theorem lw_ret {p : Program} {l : Launch} {e : Env} {s : State} {m : MethodId} {below : List Frame} {meth : Method} {c : Code} {b : Nat} (hx : p.tables.exec = Jvm.exec) (hb : c.code = code) (hr : meth.sig.returnType = ret) (hlocks : meth.locks = false) {pc : Nat} {H : Heap} {ls : Array Slot} (hdg : decode code pc = .ok (.ireturn, 1)) : W p l e room_1 s m #[Value.ref b] below meth c H [] 600000 7302250 (lw_Z below #[Value.ref b] s) (F0 m pc ls [.int 1]) := by
  intro T hT X
  obtain ⟨fs, hret, hrun, hended, hW, hframe⟩ := X.leave (v := some (.int 1)) (hlocks := hlocks) (fun h => by rw [hr] at h; cases h)
  have hmeth' : T.vm.method? m = some meth := X.method'
  refine ⟨T.setFrames fs, ?_, .returned (some (.int 1)), hrun, hended, rfl, ⟨_, rfl⟩, hW, hframe⟩
  jvm_step X.here [X.here.top, hx, hb, hdg, hmeth', hr, ret, narrow_b1]
  (try refine ⟨rfl, ?_⟩); (try refine ⟨rfl, ?_⟩)
  first | (intro acts; rw [hret _ acts rfl rfl rfl]) | rw [hret _ _ rfl rfl rfl]
  exact Steps.refl _
/-- what holds at the law's entry: the machine, the code, the tables' words (any of lw_tbl by 'hts w (by decide +kernel)'), the script of L ints xs at the cell b, what the Statement gives of the start (any of its parts by flat_of_before) -/
def lw_At (p : Program) (s : State) (m : MethodId) (meth : Method) (c : Code) (b L : Nat) (xs : Nat → Int32) : Prop :=
  p.tables.exec = Jvm.exec ∧ c.code = code ∧ meth.sig.returnType = ret ∧ c.maxLocals = 9 ∧ s.vm.findClass R_law = some m.cls ∧ (∀ w ∈ lw_tbl, w.before #[Value.ref b] s = true) ∧ va_X b L xs s s.heap ∧ b < s.heap.size ∧ meth.locks = false ∧ (Jvm.Cond.and given_1 narrow_1).before #[Value.ref b] s = true ∧ meth.name = "law"
/-- one side of an equation that is a reference tells the other -/
theorem eq_refR {args : Array Value} {s : State} {t u : Term} {a : Nat} (h : (Cond.eq t u).before args s = true) (ht : t.eval args s none [] s = some (.ref a)) : u.eval args s none [] s = some (.ref a) := by
  cases hv : u.eval args s none [] s with
  | none => simp [Cond.before, Cond.holds, Cond.value, ht, hv] at h
  | some w =>
    simp only [Cond.before, Cond.holds, Cond.value, ht, hv] at h
    cases w <;> simp_all
theorem eq_refL {args : Array Value} {s : State} {t u : Term} {a : Nat} (h : (Cond.eq t u).before args s = true) (hu : u.eval args s none [] s = some (.ref a)) : t.eval args s none [] s = some (.ref a) := by
  cases hv : t.eval args s none [] s with
  | none => simp [Cond.before, Cond.holds, Cond.value, hu, hv] at h
  | some w =>
    simp only [Cond.before, Cond.holds, Cond.value, hu, hv] at h
    cases w <;> simp_all
/-- a private method of a class, asked of a class that another of its methods is selected from -/
theorem sel_below {B : String} {y z : MethodName} {args : Array Value} {s : State} (hy : y.cls ≠ "java/lang/invoke/MethodHandle" ∧ y.cls ≠ "java/lang/invoke/VarHandle") (hz : z.cls = y.cls) (hsel : (Cond.selects B z z).before args s = true) (hpriv : (Cond.privateMethod y).before args s = true) (hinst : (Cond.instanceMethod y).before args s = true) : (Cond.selects B y y).before args s = true := by
  obtain ⟨c, r, m, q1, q2, q3, q4, mk0, q5, q6⟩ := Cond.selects_spec (args := args) (first := s) (o := none) (s := s) (idx := []) (cls := B) (x := z) (y := z) hsel
  obtain ⟨mk, methM, hnamed, hmethM, -, -⟩ := Cond.instanceMethod_spec hinst
  have hfound : s.methodFound? y.cls y.name y.desc = some mk := State.methodFound?_of_named hnamed hy
  have hsl : selectMethod {} s.vm c mk = .method mk := selectMethod_private hmethM (Cond.privateMethod_at hpriv mk methM hnamed hmethM)
  have hcls : mk.cls = m.cls := by
    have h1 := findClass_of_methodNamed hnamed
    have h2 := findClass_of_methodNamed q3
    rw [hz] at h2
    exact Option.some.inj (h1.symm.trans h2)
  simp only [Cond.before, Cond.holds, Cond.value, q1, hfound, hnamed, hsl, hcls, q5]
  simp
  exact q6
theorem arr_of {s : State} {args : Array Value} {ty : FieldType} (h : (Cond.arrayClass ty).before args s = true) : ∃ cA, ArrOfT s cA ty ∧ s.vm.findClass ("[" ++ ty.toString) = some cA := by
  obtain ⟨c, k, comp, h1, h2, h3⟩ := Cond.arrayClass_spec h
  exact ⟨c, fun n z => ⟨fun k h => (by cases h), k, h2, comp, h3⟩, h1⟩
theorem arq_of {s : State} {C : String} (h : va_AO C s) : ∃ cA, ArrOfT s cA (.object C) ∧ va_RA s cA (.object C) := by
  obtain ⟨comp, c, k, h1, -, h2, h3, h4⟩ := Cond.arrayOver_spec (h : (Cond.arrayOver (.object C)).before #[] s = true)
  exact ⟨c, fun n z => ⟨fun k h => (by cases h), k, h2, comp, h3⟩, k, comp, h2, h3, h1, h4⟩
/-- arrays of unlike types stand apart -/
theorem ty_apart {s : State} {c : Cell} {t t' : FieldType} (h : s.isArrayOf c t) (h' : s.isArrayOf c t') : t = t' := by
  obtain ⟨-, k, hk, comp, hc⟩ := h
  obtain ⟨-, k', hk', comp', hc'⟩ := h'
  have e := Option.some.inj (hk.symm.trans hk')
  subst e
  have := hc.symm.trans hc'
  cases this
  rfl
/-- an object of a class that can be made is no array -/
theorem ob_apart {s : State} {c : Cell} {t : FieldType} {C : String} {n : Nat} {args : Array Value} (hi : (Cond.instantiable C n).before args s = true) (hc : s.vm.findClass C = some c.cls) (h : s.isArrayOf c t) : False := by
  obtain ⟨c0, k0, h1, h2, h3, -⟩ := Cond.instantiable_spec hi
  obtain ⟨-, k, hk, comp, hk2⟩ := h
  have e := Option.some.inj (h1.symm.trans hc)
  subst e
  have e2 := Option.some.inj (h2.symm.trans hk)
  subst e2
  rw [hk2] at h3
  cases h3
theorem len_of {n N : Nat} (hN : N < 2 ^ 31) {M : Nat} (hM : M < 2 ^ 31) (h1 : n.toInt32 = Int32.ofNat N) (h2 : n.toInt32 = Int32.ofNat M) : N = M := by
  have e := h1.symm.trans h2
  have a1 : (Int32.ofNat N).toInt = (N : Int) := by
    rw [← Int32.ofInt_eq_ofNat]
    exact zi_t ⟨by omega, by omega⟩
  have a2 : (Int32.ofNat M).toInt = (M : Int) := by
    rw [← Int32.ofInt_eq_ofNat]
    exact zi_t ⟨by omega, by omega⟩
  rw [e] at a1
  omega
theorem s0_HR {P : SP} {s : State} {ns : Nat} (hsz : p_bs P = s.heap.size) (hA : KS P s) (hD : DJ s.heap.size (p_b P) (p_aK P) (p_aV P) (p_aL P)) (hns : (if ns = 0 then Value.null else .ref (ns - 1)) = p_sio P) : HR P (s0 s.heap.size (p_b P) (p_L P) (p_xs P) (p_aK P) (p_aV P) (p_aL P) ns) s.heap := by
  refine ⟨rfl, fun a => ?_, fun i hi => s0_eI hi, rfl, rfl, rfl, hns⟩
  have hk : (arow (s0 s.heap.size (p_b P) (p_L P) (p_xs P) (p_aK P) (p_aV P) (p_aL P) ns) a).1 = s0_k (p_b P) (p_L P) (p_aK P) (p_aV P) (p_aL P) a := rfl
  have hv : (arow (s0 s.heap.size (p_b P) (p_L P) (p_xs P) (p_aK P) (p_aV P) (p_aL P) ns) a).2.1 = s0_i (p_b P) (p_xs P) (p_aK P) (p_aV P) a := rfl
  have hr : (arow (s0 s.heap.size (p_b P) (p_L P) (p_xs P) (p_aK P) (p_aV P) (p_aL P) ns) a).2.2.2 = s0_r (p_aK P) (p_aV P) (p_aL P) a := rfl
  unfold HX
  rw [hk, hv, hr]
  by_cases hab : a = p_b P
  · have e : s0_k (p_b P) (p_L P) (p_aK P) (p_aV P) (p_aL P) a = (7, p_L P) := if_pos hab
    rw [e]
    refine ⟨fun h => absurd h (by show ¬ isA 7 = true; decide), fun _ => ⟨hab, rfl, fun j _ => if_pos hab⟩, fun c hc h => absurd h (by show ¬ 7 = 10 + c; omega), fun h => absurd h (by show ¬ 7 = 18; decide), fun h => absurd h (by show ¬ 7 = 9; decide), fun h => absurd h (by show ¬ 7 = 8; decide), fun h => absurd h (by show ¬ 7 = 2; decide)⟩
  · cases hf : fK (p_aK P) 20 a with
    | some i =>
      obtain ⟨i1, i2⟩ := fK_ok hf
      obtain ⟨k1, k2, k3⟩ := s0_K (L := p_L P) (xs := p_xs P) hD i1
      rw [i2, k1]
      refine ⟨fun h => absurd h (by decide), fun h => absurd h (by decide), fun c hc h => absurd h (by show ¬ 18 = 10 + c; omega), fun _ => ⟨i, i1, rfl, k2 1, k3⟩, fun h => absurd h (by decide), fun h => absurd h (by decide), fun h => absurd h (by decide)⟩
    | none =>
      cases hg : fK (p_aV P) 22 a with
      | some i =>
        obtain ⟨i1, i2⟩ := fK_ok hg
        obtain ⟨v1, v2⟩ := s0_V (L := p_L P) (xs := p_xs P) hD i1
        rw [i2, v1]
        refine ⟨fun h => absurd h (by show ¬ isA 9 = true; decide), fun h => absurd h (by show ¬ 9 = 7; decide), fun c hc h => absurd h (by show ¬ 9 = 10 + c; omega), fun h => absurd h (by show ¬ 9 = 18; decide), fun _ => ⟨i, i1, rfl, rfl, fun j _ => v2 j⟩, fun h => absurd h (by show ¬ 9 = 8; decide), fun h => absurd h (by show ¬ 9 = 2; decide)⟩
      | none =>
        by_cases haL : a = p_aL P
        · obtain ⟨l1, l2⟩ := s0_L (L := p_L P) hD
          rw [haL, l1]
          refine ⟨fun h => absurd h (by decide), fun h => absurd h (by decide), fun c hc h => absurd h (by show ¬ 8 = 10 + c; omega), fun h => absurd h (by decide), fun h => absurd h (by decide), fun _ => ⟨rfl, rfl, l2⟩, fun h => absurd h (by decide)⟩
        · have e : s0_k (p_b P) (p_L P) (p_aK P) (p_aV P) (p_aL P) a = (0, 0) := by
            unfold s0_k
            rw [if_neg hab, hf]
            dsimp only
            rw [hg]
            dsimp only
            rw [if_neg haL]
          rw [e]
          refine ⟨fun h => absurd h (by decide), fun h => absurd h (by decide), fun c hc h => absurd h (by show ¬ 0 = 10 + c; omega), fun h => absurd h (by decide), fun h => absurd h (by decide), fun h => absurd h (by decide), fun h => absurd h (by decide)⟩
/-- what the Statement gives of the start, as the relations of the small machine have it -/
theorem start_KS {s : State} {b L : Nat} {xs : Nat → Int32} (hL : L ≤ 260) (hts : ∀ w ∈ lw_tbl, w.before #[Value.ref b] s = true) (hX : va_X b L xs s s.heap) (hbl : b < s.heap.size) (hgv : (Jvm.Cond.and given_1 narrow_1).before #[Value.ref b] s = true) : ∃ P : SP, (p_bs P = s.heap.size ∧ p_b P = b ∧ p_L P = L ∧ p_xs P = xs) ∧ (∀ w ∈ TB, w.before #[Value.ref b] s = true) ∧ KS P s ∧ DJ s.heap.size b (p_aK P) (p_aV P) (p_aL P) ∧ ∃ ns : Nat, (if ns = 0 then Value.null else .ref (ns - 1)) = p_sio P := by
  have hflat := flat_of_before _ hgv
  have hSel : (Cond.selects "java/lang/StringBuilder" (⟨"java/lang/AbstractStringBuilder", "isLatin1", "()Z"⟩ : MethodName) (⟨"java/lang/AbstractStringBuilder", "isLatin1", "()Z"⟩ : MethodName)).before #[Value.ref b] s = true := (hts _ (List.mem_of_getElem? (i := 704) (by decide +kernel)))
  have hX8 : ∀ w ∈ tblX, w.before #[Value.ref b] s = true := by
    intro w hw
    rcases List.mem_append.mp hw with hw | hw
    · exact hts w hw
    · simp only [slB, List.mem_cons, List.not_mem_nil, or_false] at hw
      rcases hw with h | h | h | h
      · rw [h]
        exact sel_below (z := (⟨"java/lang/AbstractStringBuilder", "isLatin1", "()Z"⟩ : MethodName)) ⟨by decide, by decide⟩ rfl hSel (hts _ (List.mem_of_getElem? (i := 667) (by decide +kernel))) (hts _ (List.mem_of_getElem? (i := 668) (by decide +kernel)))
      · rw [h]
        exact sel_below (z := (⟨"java/lang/AbstractStringBuilder", "isLatin1", "()Z"⟩ : MethodName)) ⟨by decide, by decide⟩ rfl hSel (hts _ (List.mem_of_getElem? (i := 671) (by decide +kernel))) (hts _ (List.mem_of_getElem? (i := 672) (by decide +kernel)))
      · rw [h]
        exact sel_below (z := (⟨"java/lang/AbstractStringBuilder", "isLatin1", "()Z"⟩ : MethodName)) ⟨by decide, by decide⟩ rfl hSel (hts _ (List.mem_of_getElem? (i := 723) (by decide +kernel))) (hts _ (List.mem_of_getElem? (i := 724) (by decide +kernel)))
      · rw [h]
        exact sel_below (z := (⟨"java/lang/AbstractStringBuilder", "isLatin1", "()Z"⟩ : MethodName)) ⟨by decide, by decide⟩ rfl hSel (hts _ (List.mem_of_getElem? (i := 727) (by decide +kernel))) (hts _ (List.mem_of_getElem? (i := 728) (by decide +kernel)))
  have hTB : ∀ w ∈ TB, w.before #[Value.ref b] s = true := fun w hw => hX8 w (List.mem_filter.mp hw).1
  have hA : ∀ a : Nat, a < s.heap.size → ¬ (fun q : Nat => s.heap.size ≤ q) a := fun a h => Nat.not_le.mpr h
  -- classes
  have hk : ∀ c, c < 8 → ∃ (cC : ClassId) (iS : Nat → Nat), u_Kn s (RO c) (TO c) (NO c) cC iS := fun c hc => by
    obtain ⟨h1, h2, h3, h4, h5, h6⟩ := kf_all c hc
    exact u_known hTB h2 (hTB _ h5)
  have hk2 : ∀ c, ∃ q : ClassId × (Nat → Nat), c < 8 → u_Kn s (RO c) (TO c) (NO c) q.1 q.2 := fun c => by
    by_cases hc : c < 8
    · obtain ⟨x, y, h⟩ := hk c hc
      exact ⟨(x, y), fun _ => h⟩
    · exact ⟨(0, fun _ => 0), fun h => absurd h hc⟩
  obtain ⟨dq, hdq⟩ := Classical.axiomOfChoice hk2
  -- array classes
  obtain ⟨t1, a1, b1⟩ := arr_of (hTB _ ac_int)
  obtain ⟨t2, a2, b2⟩ := arr_of (hTB _ ac_byte)
  have ho7 : va_AO RX7 s := va_AO.of (hts _ (List.mem_of_getElem? (i := 38) (by decide +kernel)))
  have ho2 : va_AO RX2 s := va_AO.of (hts _ (List.mem_of_getElem? (i := 40) (by decide +kernel)))
  obtain ⟨t5, a5, b5⟩ := arq_of ho7
  obtain ⟨t6, a6, b6⟩ := arq_of ho2
  -- Strings
  obtain ⟨adK, adV0, hvS, hev⟩ := vk_Sof (tm := tm) (N := 20) (len := slen) (byt := bL) (s := s) (args := #[Value.ref b]) (A := fun q => s.heap.size ≤ q) (fun i hi => Nat.lt_of_le_of_lt (sl_small i (by omega)) (by decide)) (fun i hi => hflat _ (pm_ex i hi)) (fun i hi => hflat _ (pm_co i hi)) (fun i hi => hflat _ (pm_ar i hi)) (fun i hi => hflat _ (pm_le i hi)) (fun i hi j hj => hflat _ (pm_el i hi j hj)) (fun i j hi hj h => (pm_ne i hi j hj h).imp (hflat _) (hflat _)) hA
  -- the digits' tables
  have hdg : ∀ k, k < 2 → ∃ t : Nat, (tD k).eval #[Value.ref b] s none [] s = some (.ref t) ∧ va_T .byte t (slen.getD (20 + k) 0) (fun j => .int ((bL.getD (20 + k) []).getD j 0)) (fun q => s.heap.size ≤ q) s s.heap := fun k hk =>
    va_Tof (f := fun j => .int ((bL.getD (20 + k) []).getD j 0)) (A := fun q => s.heap.size ≤ q) (Nat.lt_of_le_of_lt (sl_small (20 + k) (by omega)) (by decide)) (hflat _ (pm_da k hk).1) (va_eqt (hflat _ (pm_da k hk).2)) (fun j hj => va_eqt (hflat _ (pm_de k hk j hj))) hA
  obtain ⟨d0, hd0, hT0⟩ := hdg 0 (by decide)
  obtain ⟨d1, hd1, hT1⟩ := hdg 1 (by decide)
  let adV : Nat → Nat := fun i => if i < 20 then adV0 i else if i = 20 then d0 else d1
  have hTV : ∀ i, i < 22 → va_T .byte (adV i) (slen.getD i 0) (fun j => .int ((bL.getD i []).getD j 0)) (fun q => s.heap.size ≤ q) s s.heap := fun i hi => by
    by_cases h20 : i < 20
    · have e : adV i = adV0 i := if_pos h20
      rw [e]
      exact (hvS.1 i h20).2.2.2
    · have hd : i = 20 ∨ i = 21 := by omega
      rcases hd with z | z
      · subst z
        exact hT0
      · subst z
        exact hT1
  -- the law's row
  obtain ⟨aL, haL, hTL⟩ := va_Tof (tm := tL) (ty := .object "java/lang/String") (N := 4) (f := fun j => .ref (adK (5 + j))) (args := #[Value.ref b]) (s := s) (A := fun q => s.heap.size ≤ q) (by decide) (hflat _ pm_la.1) (va_eqt (hflat _ pm_la.2)) (fun j hj => eq_refL (hflat _ (pm_l2 j hj).1) (eq_refR (hflat _ (pm_l2 j hj).2) (hev (5 + j) (by omega)))) hA
  have hIS : (Cond.instantiable "java/lang/String" 4).before #[Value.ref b] s = true := (hts _ (List.mem_of_getElem? (i := 811) (by decide +kernel)))
  -- the statics
  have hZ1 := va_Zof (hts _ (List.mem_of_getElem? (i := 431) (by decide +kernel))) (hts _ (List.mem_of_getElem? (i := 13) (by decide +kernel))) (va_eqt (hflat _ pm_cs)) hA
  have hZ2 := va_Zqof (hts _ (List.mem_of_getElem? (i := 447) (by decide +kernel))) (hts _ (List.mem_of_getElem? (i := 19) (by decide +kernel))) (hflat _ pm_si) hA
  have hZ3 := va_Zof (hts _ (List.mem_of_getElem? (i := 784) (by decide +kernel))) (hts _ (List.mem_of_getElem? (i := 21) (by decide +kernel))) hd0 hA
  have hZ4 := va_Zof (hts _ (List.mem_of_getElem? (i := 786) (by decide +kernel))) (hts _ (List.mem_of_getElem? (i := 21) (by decide +kernel))) hd1 hA
  have hZ5 := va_Zof (hts _ (List.mem_of_getElem? (i := 801) (by decide +kernel))) (hts _ (List.mem_of_getElem? (i := 4) (by decide +kernel))) haL hA
  have hsio : ∃ w : Value, (∃ ns : Nat, (if ns = 0 then Value.null else .ref (ns - 1)) = w) ∧ va_Z "jdk/internal/util/Preconditions" "SIOOBE_FORMATTER" "Ljava/util/function/BiFunction;" w (fun q => s.heap.size ≤ q) s s.heap := by
    rcases hZ2 with h | ⟨q, h⟩
    · exact ⟨.null, ⟨0, rfl⟩, h⟩
    · exact ⟨.ref q, ⟨q + 1, rfl⟩, h⟩
  obtain ⟨w, ⟨ns, hns⟩, hZw⟩ := hsio
  let P : SP := (((fun c => (dq c).1, fun c => (dq c).2), fun k => if k = 1 then t1 else if k = 2 then t2 else if k = 5 then t5 else t6), (s.heap.size, b, L, xs), (adK, adV, aL, w))
  have hKS : KS P s := by
    refine ⟨⟨⟨fun c q hq => ?_, fun k q hq => ?_⟩, ho7, ho2, fun w hw => va_Nw.of (NW_tab hw) (hX8 w (List.mem_filter.mp hw).1)⟩, ⟨hX, hbl, Nat.lt_of_le_of_lt hL (by decide), Nat.le_refl _⟩, ⟨fun i hi => ?_, hTV, hTL, hZ1, hZw, hZ3, hZ4, hZ5⟩, fun i hi => ⟨stX.getD i "", vk_R.of (hts _ (List.mem_of_getElem? (stW_ok i hi))) (hev i hi)⟩⟩
    · match c, hq with
      | 0, hq => cases hq; exact hdq 0 (by decide)
      | 1, hq => cases hq; exact hdq 1 (by decide)
      | 2, hq => cases hq; exact hdq 2 (by decide)
      | 3, hq => cases hq; exact hdq 3 (by decide)
      | 4, hq => cases hq; exact hdq 4 (by decide)
      | 5, hq => cases hq; exact hdq 5 (by decide)
      | 6, hq => cases hq; exact hdq 6 (by decide)
      | 7, hq => cases hq; exact hdq 7 (by decide)
      | c + 8, hq => simp [vwC2] at hq
    · match k, hq with
      | 0, hq => cases hq; exact ⟨a1, b1⟩
      | 1, hq => cases hq; exact ⟨a2, b2⟩
      | 2, hq => cases hq; exact ⟨a5, b5⟩
      | 3, hq => cases hq; exact ⟨a6, b6⟩
      | k + 4, hq => simp [tys4] at hq
    · obtain ⟨h1, h2, h3, -⟩ := hvS.1 i hi
      refine ⟨h1, h2, ?_⟩
      have e : adV i = adV0 i := if_pos hi
      show va_OF "java/lang/String" "value" "[B" (.ref (adV i)) _ _ _ _
      rw [e]
      exact h3
  have inH : ∀ {a : Nat} {c : Cell}, s.heap[a]? = some c → a < s.heap.size := fun h => (Array.getElem?_eq_some_iff.mp h).1
  have hDJ : DJ s.heap.size b adK adV aL := by
    obtain ⟨scr, x1, x2, x3, x4, x5⟩ := hX
    refine ⟨hbl, fun i hi => ?_, fun i hi => ?_, ?_, hvS.2, fun i j hi hj e => ?_⟩
    · obtain ⟨⟨cell, q1, q2, q3, q4⟩, -⟩ := hvS.1 i hi
      refine ⟨inH q1, fun hab => ?_⟩
      rw [hab] at q1
      have hc : cell = scr := Option.some.inj (q1.symm.trans x1)
      subst hc
      exact ob_apart hIS q3 x2
    · obtain ⟨cv, y1, y2, y3, y4, y5, y6, y7⟩ := hTV i hi
      refine ⟨inH y1, fun hab => ?_, fun k hk hab => ?_⟩
      · rw [hab] at y1
        have hc : cv = scr := Option.some.inj (y1.symm.trans x1)
        subst hc
        exact absurd (ty_apart x2 y2) (by decide)
      · obtain ⟨⟨cell, q1, q2, q3, q4⟩, -⟩ := hvS.1 k hk
        rw [hab] at q1
        have hc : cell = cv := Option.some.inj (q1.symm.trans y1)
        subst hc
        exact ob_apart hIS q3 y2
    · obtain ⟨cv, y1, y2, y3, y4, y5, y6, y7⟩ := hTL
      refine ⟨inH y1, fun hab => ?_, fun k hk hab => ?_, fun k hk hab => ?_⟩
      · rw [hab] at y1
        have hc : cv = scr := Option.some.inj (y1.symm.trans x1)
        subst hc
        exact absurd (ty_apart x2 y2) (by simp)
      · obtain ⟨⟨cell, q1, q2, q3, q4⟩, -⟩ := hvS.1 k hk
        rw [hab] at q1
        have hc : cell = cv := Option.some.inj (q1.symm.trans y1)
        subst hc
        exact ob_apart hIS q3 y2
      · obtain ⟨c2', z1, z2, -⟩ := hTV k hk
        rw [hab] at z1
        have hc : c2' = cv := Option.some.inj (z1.symm.trans y1)
        subst hc
        exact absurd (ty_apart z2 y2) (by simp)
    · obtain ⟨cv, y1, y2, y3, y4, y5, y6, y7⟩ := hTV i hi
      obtain ⟨cw, z1, z2, z3, z4, z5, z6, z7⟩ := hTV j hj
      rw [e] at y1
      have hc : cv = cw := Option.some.inj (y1.symm.trans z1)
      subst hc
      have hl := len_of (Nat.lt_of_le_of_lt (sl_small i hi) (by decide)) (Nat.lt_of_le_of_lt (sl_small j hj) (by decide)) y5 z5
      refine bL_inj hi hj hl fun k hk => ?_
      exact Value.int.inj (Option.some.inj ((y6 k hk).symm.trans (z6 k (by omega))))
  exact ⟨P, ⟨rfl, rfl, rfl, rfl⟩, hTB, hKS, hDJ, ns, hns⟩
/-- the law of one script, from the entry -/
theorem whole_start {p : Program} {e : Env} {s : State} {m : MethodId} {below : List Frame} {meth : Method} {c : Code} (l : Launch) (hflags : l.flags = flags0) {b L : Nat} {xs : Nat → Int32} (hL : L ≤ 260) (C0 : lw_At p s m meth c b L xs) : W p l e room_1 s m #[Value.ref b] below meth c s.heap [] 0 0 (lw_Z below #[Value.ref b] s) (entryFrame m ([Value.ref b] : List Value).toArray 9) := by
  obtain ⟨hx, hb, hr, hml, hown, hts, hX, hbl, hlocks, hgv, hname⟩ := C0
  obtain ⟨P, ⟨p1, p2, p3, p4⟩, hTB, hKS, hDJ, ns, hns⟩ := start_KS hL hts hX hbl hgv
  rw [← p2] at hDJ
  have hHR := s0_HR (P := P) p1 hKS hDJ hns
  obtain ⟨n, r, hrun, hres⟩ := law_ok (xs := p_xs P) (ns := ns) (L := p_L P) (by rw [p3]; exact hL) hDJ
  rw [p2] at hrun
  rw [p2] at hHR
  rw [lg_entry_eq]
  have CC : CX P ML_law p room_1 s m #[Value.ref b] meth c := ⟨⟨hx, hb, hml, hown, hTB⟩, ⟨hname, hr, hlocks⟩, ⟨by decide, by decide, Nat.le_refl _, Nat.le_refl _⟩, hKS⟩
  refine body P l n ML_law 0 _ [] (0, 0) _ r hrun (by decide) (Nat.zero_le _) (Nat.zero_le _) p e room_1 s m #[Value.ref b] below meth c s.heap [] _ _ CC ⟨hHR, va_S.rf, LR_entry ML_law [.ref b] (Nat.le_of_ble_eq_true rfl)⟩ ?_
  intro pc la st H' locs' hR hh hS
  rcases hR with ⟨x, hd, rfl, hv, t, ht, hn⟩ | ⟨hd, rfl, hv, ⟨nm, ht⟩ | ⟨nm, ht⟩⟩ | ⟨hd, rfl, ht⟩
  · have hx1 : x = 1 := by
      have := hv.symm.trans hres
      cases this
      rfl
    subst hx1
    exact va_forget (fun q hq => by have := hS.2.2 q hq; unfold p_A at this; rw [p1] at this; exact this) (lw_ret hx hb hr hlocks hd)
  · cases ht
  · cases ht
  · cases ht
set_option maxHeartbeats 4000000 in
theorem lw_walk (l : Launch) (hflags : l.flags = flags0) (b : Addr) (xs : List Int32) : MetFree l x (headSpec (Jvm.Cond.code x code maxLocals ret :: tables_1) room_1) (lw_P b xs) (fun _ _ _ _ _ => True) lw_Q := by
  refine MetFree.of_bodyS (code := code) (maxLocals := maxLocals) (ret := ret) (by decide) ?_ ?_
  · intro args s m h hn
    obtain ⟨meth, c, h1, h2, h3, h4, h5, h6, -, -⟩ := Cond.code_spec hn (atoms_spec (ws := Jvm.Cond.code x code maxLocals ret :: tables_1) h _ List.mem_cons_self)
    exact ⟨meth, c, h1, h2, h3, h4, h5, h6⟩
  · intro p e s m args below meth c s₁ B hml0 hP _
    obtain ⟨rfl, hx, hbd, hgv⟩ := hP
    obtain ⟨scr, harrAt, hlist, hof, hsmall⟩ := hx
    obtain ⟨hcb, hkn, -, -⟩ := State.arrayAt?_spec harrAt
    have hown : s.vm.findClass R_law = some m.cls := findClass_of_methodNamed B.named
    have hts0 : ∀ c ∈ (Jvm.Cond.code x code maxLocals ret :: tables_1), c.before #[Value.ref b] s = true := atoms_spec (ws := Jvm.Cond.code x code maxLocals ret :: tables_1) B.pre
    have hts : ∀ w ∈ lw_tbl, w.before #[Value.ref b] s = true := k2_hts_sels lw_privs (fun w hw => hts0 w (List.mem_cons_of_mem _ hw)) lw_privs_ok
    have hml : c.maxLocals = 9 := B.maxLocals_eq (hts0 _ List.mem_cons_self)
    have X₀ : Stand p l e room_1 s m #[Value.ref b] below meth c s₁ [] 0 0 := Stand.of_body B
    have hh0 : s₁.heap = s.heap := by rw [B.state]; rfl
    have hsz : scr.slots.size = xs.length := by rw [← Array.length_toList, hlist, List.length_map]
    have hval : ∀ j : Nat, j < xs.length → scr.slots[j]? = some (.int (xs.getD j 0)) := fun j hj => by
      rw [← Array.getElem?_toList, hlist]
      simp [hj]
    have hbl : b < s.heap.size := (Array.getElem?_eq_some_iff.mp hcb).1
    have hX : va_X b xs.length (fun j => xs.getD j 0) s s.heap := ⟨scr, hcb, hof, hkn, hsz, hval⟩
    have K : W p l e room_1 s m #[Value.ref b] below meth c s₁.heap [] 0 0 (lw_Z below #[Value.ref b] s) (entryFrame m ([Value.ref b] : List Value).toArray 9) := by
      rw [hh0]
      exact whole_start l hflags hbd ⟨B.exec, B.bytes, B.returns, hml, hown, hts, hX, hbl, B.notSynchronized, hgv, (name_of_methodNamed B.named B.method).1⟩
    obtain ⟨t, a1, o, b1, b2, b3⟩ := K s₁ rfl X₀
    exact ⟨t, o, a1, b1, b2, b3⟩
theorem lw_pre_spec {args : Array Value} {s : State} (h : (Jvm.Cond.and given_1 narrow_1).before args s = true) (hr : rest_1_c.before args s = true) : ∃ (b : Addr) (xs : List Int32), lw_P b xs args s := by
  have hs := flat_of_before _ h
  have hq := flat_of_before _ hr
  have hc : (Cond.count 1).before args s = true := hs _ (by decide +kernel)
  have harr : (Cond.arrayOf (.arg 0) .int).before args s = true := hs _ (by decide +kernel)
  have hle : (Cond.le (.length (.arg 0)) (.int 260)).before args s = true := hs _ (by decide +kernel)
  have hlen : (Cond.isInt (.length (.arg 0))).before args s = true := hq _ (by decide +kernel)
  have hall : (Cond.all (.arg 0) (.isInt (.elem (.arg 0) (.index 0)))).before args s = true := hq _ (by decide +kernel)
  obtain ⟨b, xs, hb, hx⟩ := State.ints_of_pre rfl harr hlen hall
  have hsm : xs.length < 2 ^ 31 := hx.choose_spec.2.2.2
  have hev : (Term.length (.arg 0)).eval args s none [] s = some (.int xs.length.toInt32) := hx.length_eval hb
  have hv := Cond.le_ints hev (show (Term.int 260).eval args s none [] s = some (.int 260) from rfl)
  have hd : xs.length.toInt32 ≤ 260 := by
    simpa [Cond.before, Cond.holds, hv] using hle
  have hN : xs.length ≤ 260 := (Int32.ofNat_le_ofNat hsm (by decide)).mp (show Int32.ofNat xs.length ≤ Int32.ofNat 260 from hd)
  exact ⟨b, xs, Cond.one_arg hc (show args[0]? = some (.ref b) from hb), hx, hN, h⟩
theorem lw_comes (l : Launch) (hflags : l.flags = flags0) : Comes l x (Jvm.Cond.code x code maxLocals ret :: tables_1) room_1 (fun tb e args s => Calls_1 tb e args s ∧ rest_1 tb e args s ∧ Pre_1 tb e args s)
    (fun _ _ args s o t => lw_Q args s o t) := by
  intro p e ha hc hk s m args below hf hfit hheap happ hpre
  obtain ⟨b, xs, hP⟩ := lw_pre_spec hpre.2.2 hpre.2.1
  obtain ⟨k, o, h1, h2, h3, hQ⟩ := lw_walk l hflags b xs p e ha hc hk s m args below hf ((Spec.applies_iff_loose hf).mp happ).1 hP trivial
  exact ⟨k, o, h1, h2, h3, hQ⟩
theorem lw_frame {s t : State} {o : Outcome} {args : Array Value} (h : Framed s o t [] 600000 7302250) :
    Framed s o t (fieldLocs frame_1_writes args s ++ arrayLocs frame_1_arrays args s ++ staticLocs frame_1_statics s) 600000 7302250 := h
theorem lw_limb (L : Cond) (hL : ∀ (args : Array Value) (s t : State), L.after args s (.returned (some (.int 1))) t = true) :
    ArmFor flags0 classFile x code maxLocals ret World_1 tables_1 room_1 Calls_1 rest_1 Pre_1
      (fun tb e a s o t => postC L tb e a s o t ∧ Framed s o t (fieldLocs frame_1_writes a s ++ arrayLocs frame_1_arrays a s ++ staticLocs frame_1_statics s) 600000 7302250) := by
  intro l hflags _ _ p e ha hc hk s m args below hf hfit hheap happ hpre
  obtain ⟨k, o, h1, h2, h3, rfl, hF⟩ := lw_comes l hflags p e ha hc hk s m args below hf hfit hheap happ hpre
  exact ⟨k, _, h1, h2, h3, hL args s _, lw_frame hF⟩
theorem i_vc : Claimed_1_1 ∧ Claimed_1_2 := ⟨lw_limb limb_1_1 (fun args s t => by simp [limb_1_1, Cond.after, Cond.holds, Cond.value]), lw_limb limb_1_2 (fun args s t => Cond.after_iff.mpr (by
  first | (rw [show limb_1_2 = Cond.eq .result (.int 1) from rfl, Cond.eq_ints (x := 1) (y := 1) rfl rfl]; simp; done) | (simp [limb_1_2, Cond.value, Term.eval]; done)))⟩
