/-! SOUNDNESS of the small machine: calls. -/
abbrev WS (M : MI) : List Cond := Cond.code (m_y M) (m_b M) (m_ml M) (m_ret M) :: TB
def RM (M : MI) : Room := { frames := m_fr M, cells := m_mc M, slots := m_ms M, locals := m_lo M }
def PC (P : SP) (as : List Value) (h : AH) : Array Value → State → Prop := fun a U => a = as.toArray ∧ HR P h U.heap ∧ KS P U
def rv (M : MI) (v : Value) : Option Value := if (m_ret M).isSome = true then some v else none
def QC (P : SP) (M : MI) (r : AH × Value) : Array Value → State → Outcome → State → Prop := fun _ st oc t => oc = .returned (rv M r.2) ∧ HR P r.1 t.heap ∧ va_F (p_A P) st t
def CT (P : SP) (l : Launch) (M : MI) (as : List Value) (h : AH) (r : AH × Value) : Prop := Met l (m_y M) (WS M) (RM M) (PC P as h) (QC P M r) (m_mc M) (m_ms M) (p_A P)
theorem WS_good {M : MI} (hm : mB M) : GoodIn TB (WS M) := fun w hw => by
  rcases List.mem_cons.mp hw with h | h
  · rw [h]
    exact TB_good _ hm.1.1
  · exact TB_good w h
theorem PC_blind {P : SP} {as : List Value} {h : AH} : FrameBlind (PC P as h) := fun a U g mk q => ⟨q.1, q.2.1, q.2.2.same rfl rfl⟩
theorem catsum : ∀ l : List Value, (l.map fun v => v.category).sum ≤ 2 * l.length
  | [] => Nat.le_refl 0
  | v :: l => by
    have h1 := catsum l
    have h2 : v.category ≤ 2 := by rcases lv_cat v with q | q <;> omega
    simp only [List.map_cons, List.sum_cons, List.length_cons]
    omega
section SN
variable {p : Program} {l : Launch} {e : Env} {R : Room} {s : State} {m : MethodId} {args : Array Value} {below : List Frame} {meth : Method} {c : Code} {H : Heap} {locs : List Loc} {P : SP} {M M' : MI} {len pc i : Nat} {ls st rest : List Value} {la : Array Slot} {k : Nat × Nat} {h : AH} {r : SRr} {Q : State → Prop} {a : Array Value} {r' : AH × Value}
def SC (p : Program) (l : Launch) (e : Env) (R : Room) (s : State) (m : MethodId) (args : Array Value) (below : List Frame) (meth : Method) (c : Code) (P : SP) (M : MI) (pc : Nat) (la : Array Slot) (ls st : List Value) (k : Nat × Nat) (H : Heap) (locs : List Loc) (h : AH) (r : SRr) : Prop :=
  ∃ (M' : MI) (as st' : List Value), r = .inr (.inl (M', as, pc + 3, ls, st', (m_ret M').isSome)) ∧ (m_own M' < 14 ∧ mB M' ∧ (fl2 as).length ≤ m_ml M') ∧ (k.1 + m_mc M' ≤ m_mc M ∧ k.2 + m_ms M' ≤ m_ms M) ∧ ∀ r' : AH × Value, CT P l M' as h r' → ∀ Q : State → Prop,
    (∀ (H' : Heap) (locs' : List Loc), BX P s (m_ml M) H' locs' ls la r'.1 → W p l e R s m args below meth c H' locs' (k.1 + m_mc M') (k.2 + m_ms M') Q (F0 m (pc + 3) la (if (m_ret M').isSome = true then r'.2 :: st' else st'))) → W p l e R s m args below meth c H locs k.1 k.2 Q (F0 m pc la st)
theorem call_fin (B : BX P s (m_ml M) H locs ls la h) (hr : va_Run p l e R s m args below meth c H locs k.1 k.2 (m_mc M') (m_ms M') (F0 m pc la st) rest (QC P M' r' a) (p_A P))
    (kk : ∀ (H' : Heap) (locs' : List Loc), BX P s (m_ml M) H' locs' ls la r'.1 → W p l e R s m args below meth c H' locs' (k.1 + m_mc M') (k.2 + m_ms M') Q (F0 m (pc + 3) la (if (m_ret M').isSome = true then r'.2 :: rest else rest))) : W p l e R s m args below meth c H locs k.1 k.2 Q (F0 m pc la st) := by
  intro T hT X
  obtain ⟨v, st₀, t, T', L, h0, X', hL, e1, e2, ⟨hv, hh, hz, hf⟩, go⟩ := hr T hT X
  have hv2 : v = rv M' r'.2 := Outcome.returned.inj hv
  subst hv2
  rw [h0] at hz hf
  obtain ⟨t2, a1, b1⟩ := kk T'.heap (locs ++ L) ⟨by rw [e1]; exact hh, ⟨by rw [e1]; exact Nat.le_trans B.2.1.1 hz, fun q h1 h2 => by rw [e1, hf q (Nat.lt_of_lt_of_le h1 B.2.1.1) h2]; exact B.2.1.2.1 q h1 h2, fun q hq => by
    rcases List.mem_append.mp hq with g | g
    · exact B.2.1.2.2 q g
    · exact hL q g⟩, B.2.2⟩ T' rfl X'
  have e3 : (rv M' r'.2).toList ++ rest = if (m_ret M').isSome = true then r'.2 :: rest else rest := by
    unfold rv
    split <;> rfl
  refine ⟨t2, go t2 ?_, b1⟩
  show Steps p.tables e below (T'.setTop (F0 m (pc + 3) la ((rv M' r'.2).toList ++ rest))) t2
  rw [e3]
  exact a1
theorem xcall_inv (he : x_call M M' pc ls st k = some r) : ((m_fr M' + 1 ≤ m_fr M ∧ 19 + m_ml M' + m_lo M' ≤ m_lo M ∧ k.1 + m_mc M' ≤ m_mc M ∧ k.2 + m_ms M' ≤ m_ms M) ∧ m_na M' ≤ st.length ∧ st.length ≤ m_na M' + 4 ∧ (fl2 (st.take (m_na M')).reverse).length ≤ m_ml M') ∧ r = .inr (.inl (M', (st.take (m_na M')).reverse, pc + 3, ls, st.drop (m_na M'), (m_ret M').isSome)) := by
  obtain ⟨h1, h2⟩ := it_inv he
  exact ⟨h1, (Option.some.inj h2).symm⟩
theorem CX.rmc (C : CX P M p R s m args meth c) (h : m_fr M' + 1 ≤ m_fr M ∧ 19 + m_ml M' + m_lo M' ≤ m_lo M) : (RM M').frames + 1 ≤ R.frames ∧ 8 + (m_ml M' + 11) + (RM M').locals ≤ R.locals := by
  have h1 := C.2.2.1.1
  have h2 := C.2.2.1.2.1
  show m_fr M' + 1 ≤ R.frames ∧ 8 + (m_ml M' + 11) + m_lo M' ≤ R.locals
  omega
theorem CX.pre (C : CX P M p R s m args meth c) (B : BX P s (m_ml M) H locs ls la h) (as : List Value) (U : State) (hU : U.heap = H) (hW : s.WarmedH U.vm) : PC P as h as.toArray U := ⟨rfl, by rw [hU]; exact B.1, C.2.2.2.go (by rw [hU]; exact B.2.1) hW⟩
theorem rest4 {n : Nat} (h : st.length ≤ n + 4) : 2 * (F0 m pc la st).monitorRoom + ((st.drop n).map fun v => v.category).sum ≤ 8 := by
  have h1 := catsum (st.drop n)
  rw [List.length_drop] at h1
  show 2 * 0 + _ ≤ 8
  omega
theorem CX.nw (C : CX P M p R s m args meth c) {w : Cond} (hw : w ∈ NW) : va_Nw w s := C.2.2.2.1.2.2.2 w hw
theorem CX.cb (C : CX P M p R s m args meth c) (n : Nat) (hm : mB M') (hp : (parseMethodDescriptor (m_y M').desc).map (fun d => d.parameters.length) = some n) (hl : nL (m_own M) i (m_y M')) (h : m_fr M' + 1 ≤ m_fr M ∧ 19 + m_ml M' + m_lo M' ≤ m_lo M) : CallB R s args (RN (m_own M)) i (m_y M') (m_b M') (m_ml M') (m_ret M') (WS M') (RM M') (m_mc M') (m_ms M') n :=
  callB_of n C.1.2.2.2.2 (WS_good hm) rfl rfl rfl (C.tb hm.1.2) (C.tb hl) ⟨hm.2.1.1, hm.2.1.2, hp⟩ (C.rmc h)
theorem CX.cn (C : CX P M p R s m args meth c) (n : Nat) {host : String} (hm : mB M') (hp : (parseMethodDescriptor (m_y M').desc).map (fun d => d.parameters.length) = some n) (hl : Cond.methodLinkNest (RN (m_own M)) i (m_y M') host ∈ NW) (h : m_fr M' + 1 ≤ m_fr M ∧ 19 + m_ml M' + m_lo M' ≤ m_lo M) : va_CN R s args (RN (m_own M)) i (m_y M') host (m_b M') (m_ml M') (m_ret M') (WS M') (RM M') (m_mc M') (m_ms M') n :=
  va_cnB n C.1.2.2.2.2 (WS_good hm) rfl rfl rfl (C.nw hl) (C.tb hm.1.2) ⟨hm.2.1.1, hm.2.1.2, hp⟩ (C.rmc h)
theorem sc_static (C : CX P M p R s m args meth c) (B : BX P s (m_ml M) H locs ls la h) (hd : decode (m_b M) pc = .ok (.invokestatic i, 3)) (ho : m_own M' < 14) (hm : mB M') (hs : mS M') (hl : nL (m_own M) i (m_y M') ∨ nN (m_own M) i (m_y M')) (he : x_call M M' pc ls st k = some r) : SC p l e R s m args below meth c P M pc la ls st k H locs h r := by
  obtain ⟨⟨⟨f1, f2, f3, f4⟩, g1, g2, g3⟩, hr⟩ := xcall_inv he
  refine ⟨M', _, _, hr, ⟨ho, hm, g3⟩, ⟨f3, f4⟩, fun r' hM Q kk => ?_⟩
  have hrm := C.room (x := m_mc M') (y := m_ms M') ⟨f3, f4⟩
  have hlen : (st.take (m_na M')).reverse.length = m_na M' := by rw [List.length_reverse, List.length_take, Nat.min_eq_left g1]
  have hst : (F0 m pc la st).stack = ((st.take (m_na M')).reverse).reverse ++ st.drop (m_na M') := by
    rw [List.reverse_reverse, List.take_append_drop]
  rcases hl with hl | ⟨host, hl⟩
  · exact call_fin B (va_runS C.1 hM ⟨C.cb _ hm hs.2 hl ⟨f1, f2⟩, C.tb hs.1⟩ ⟨PC_blind, C.pre B _⟩ rfl hlen B.2.2.size hst (rest4 g2) hd hrm) kk
  · exact call_fin B (va_runSN C.1 hM ⟨C.cn _ hm hs.2 hl ⟨f1, f2⟩, C.tb hs.1, trivial⟩ ⟨PC_blind, C.pre B _⟩ rfl hlen B.2.2.size hst (rest4 g2) hd hrm) kk
theorem take_recv {n : Nat} {b : Nat} (h1 : 1 ≤ n) (h2 : st[n - 1]? = some (.ref b)) : (st.take n).reverse = .ref b :: (st.take (n - 1)).reverse := by
  obtain ⟨j, rfl⟩ : ∃ j, n = j + 1 := ⟨n - 1, by omega⟩
  rw [Nat.add_sub_cancel] at h2
  rw [Nat.add_sub_cancel, List.take_add_one, h2]
  simp
theorem xinst_inv (he : x_inst M M' pc ls st k h = some r) : ∃ b, st[m_na M' - 1]? = some (.ref b) ∧ kd h.1 b = 10 + oc (m_own M') ∧ x_call M M' pc ls st k = some r := by
  unfold x_inst at he
  split at he
  · obtain ⟨h1, h2⟩ := it_inv he
    exact ⟨_, by assumption, h1, h2⟩
  · cases he
theorem CX.recv (C : CX P M p R s m args meth c) (B : BX P s (m_ml M) H locs ls la h) {b cj : Nat} (hc : cj < 7) (hk : kd h.1 b = 10 + cj) : ∃ cellB : Cell, H[b]? = some cellB ∧ cellB.vm.isStatics = false ∧ s.vm.findClass (RO cj) = some cellB.cls := by
  obtain ⟨-, cell, q1, q2, q3, -⟩ := ob_at B.1 hc hk
  obtain ⟨kcl, -⟩ := kf_all cj hc
  exact ⟨cell, q1, by rw [q3]; rfl, by rw [q2]; exact (C.2.2.2.1.1.1 cj _ kcl).2.1⟩
theorem sc_virt (C : CX P M p R s m args meth c) (B : BX P s (m_ml M) H locs ls la h) (hd : decode (m_b M) pc = .ok (.invokevirtual i, 3)) (ho : m_own M' < 14) (hm : mB M') (hs : mV M') (hl : nL (m_own M) i (m_y M') ∨ nN (m_own M) i (m_y M')) (he : x_inst M M' pc ls st k h = some r) : SC p l e R s m args below meth c P M pc la ls st k H locs h r := by
  obtain ⟨b, hb, hk, he⟩ := xinst_inv he
  obtain ⟨⟨⟨f1, f2, f3, f4⟩, g1, g2, g3⟩, hr⟩ := xcall_inv he
  obtain ⟨⟨w1, w2⟩, ⟨w3, w4⟩, w5, w6⟩ := hs
  refine ⟨M', _, _, hr, ⟨ho, hm, g3⟩, ⟨f3, f4⟩, fun r' hM Q kk => ?_⟩
  have hrm := C.room (x := m_mc M') (y := m_ms M') ⟨f3, f4⟩
  have hrc := C.recv B w5 hk
  rw [w6] at hrc
  have ers := take_recv w4 hb
  rw [ers] at hM
  have hlen : (st.take (m_na M' - 1)).reverse.length = m_na M' - 1 := by rw [List.length_reverse, List.length_take, Nat.min_eq_left (by omega)]
  have hst : (F0 m pc la st).stack = ((st.take (m_na M' - 1)).reverse).reverse ++ .ref b :: st.drop (m_na M') := by
    have e1 := congrArg List.reverse ers
    rw [List.reverse_reverse, List.reverse_cons] at e1
    show st = _
    rw [← List.singleton_append, ← List.append_assoc, ← e1, List.take_append_drop]
  rcases hl with hl | ⟨host, hl⟩
  · exact call_fin B (va_runV C.1 hM ⟨C.cb _ hm w3 hl ⟨f1, f2⟩, C.tb w1, C.tb w2⟩ ⟨PC_blind, hrc, C.pre B _⟩ rfl hlen B.2.2.size hst (rest4 g2) hd hrm) kk
  · exact call_fin B (va_runVN C.1 hM ⟨C.cn _ hm w3 hl ⟨f1, f2⟩, C.tb w1, C.tb w2⟩ ⟨PC_blind, hrc, C.pre B _⟩ rfl hlen B.2.2.size hst (rest4 g2) hd hrm) kk
theorem sc_spec (C : CX P M p R s m args meth c) (B : BX P s (m_ml M) H locs ls la h) (hd : decode (m_b M) pc = .ok (.invokespecial i, 3)) (ho : m_own M' < 14) (hm : mB M') (hs : mC M') (hl : nL (m_own M) i (m_y M') ∨ nN (m_own M) i (m_y M')) (he : x_inst M M' pc ls st k h = some r) : SC p l e R s m args below meth c P M pc la ls st k H locs h r := by
  obtain ⟨b, hb, hk, he⟩ := xinst_inv he
  obtain ⟨⟨⟨f1, f2, f3, f4⟩, g1, g2, g3⟩, hr⟩ := xcall_inv he
  obtain ⟨w1, ⟨w3, w4⟩, w5, w6⟩ := hs
  refine ⟨M', _, _, hr, ⟨ho, hm, g3⟩, ⟨f3, f4⟩, fun r' hM Q kk => ?_⟩
  have hrm := C.room (x := m_mc M') (y := m_ms M') ⟨f3, f4⟩
  have ers := take_recv w4 hb
  rw [ers] at hM
  have hlen : (st.take (m_na M' - 1)).reverse.length = m_na M' - 1 := by rw [List.length_reverse, List.length_take, Nat.min_eq_left (by omega)]
  have hst : (F0 m pc la st).stack = ((st.take (m_na M' - 1)).reverse).reverse ++ .ref b :: st.drop (m_na M') := by
    have e1 := congrArg List.reverse ers
    rw [List.reverse_reverse, List.reverse_cons] at e1
    show st = _
    rw [← List.singleton_append, ← List.append_assoc, ← e1, List.take_append_drop]
  rcases hl with hl | ⟨host, hl⟩
  · have h1 := C.cb _ hm w3 hl ⟨f1, f2⟩
    rw [w6] at h1
    exact call_fin B (va_runI C.1 hM ⟨h1, w5, C.tb w1⟩ ⟨PC_blind, C.pre B _⟩ rfl hlen B.2.2.size hst (rest4 g2) hd hrm) kk
  · have h1 := C.cn _ hm w3 hl ⟨f1, f2⟩
    rw [w6] at h1
    exact call_fin B (va_runIN C.1 hM ⟨h1, w5, C.tb w1⟩ ⟨PC_blind, C.pre B _⟩ rfl hlen B.2.2.size hst (rest4 g2) hd hrm) kk
/-! the JDK's own: String.length, charAt -/
def PCs (P : SP) (as : List Value) : Array Value → State → Prop := fun a U => a = as.toArray ∧ KS P U
def QCs (v : Option Value) : Array Value → State → Outcome → State → Prop := fun _ st oc t => oc = .returned v ∧ t.heap = st.heap
theorem PCs_blind {as : List Value} : FrameBlind (PCs P as) := fun a U g mk q => ⟨q.1, q.2.same rfl rfl⟩
theorem pure_go {v : Option Value} {k1 k2 : Nat} (hr : va_Run p l e R s m args below meth c H locs k1 k2 0 0 (F0 m pc la st) rest (QCs v a) (fun _ => False)) (kk : W p l e R s m args below meth c H locs k1 k2 Q (F0 m (pc + 3) la (v.toList ++ rest))) : W p l e R s m args below meth c H locs k1 k2 Q (F0 m pc la st) := by
  intro T hT X
  obtain ⟨v', st₀, t, T', L, h0, X', hL, e1, e2, ⟨hv, hh⟩, go⟩ := hr T hT X
  have hv2 : v' = v := Outcome.returned.inj hv
  subst hv2
  have hLn : L = [] := by
    cases L with
    | nil => rfl
    | cons x L => exact absurd (hL x List.mem_cons_self) id
  subst hLn
  rw [List.append_nil] at X'
  obtain ⟨t2, a1, b1⟩ := kk T' (by rw [e1, hh, h0]) X'
  exact ⟨t2, go t2 a1, b1⟩
theorem jd_of {as : List Value} {v : Option Value} (M : MI) (hm : mB M) (hc : m_mc M = 0 ∧ m_ms M = 0) (hl : (fl2 as).length ≤ m_ml M)
    (body : ∀ (p : Program) (e : Env) (s : State) (m : MethodId) (below : List Frame) (meth : Method) (c : Code) (la : Array Slot), CX P M p (RM M) s m as.toArray meth c → LR (m_ml M) (loc M as) la → W p l e (RM M) s m as.toArray below meth c s.heap [] 0 0 (MQ below (QCs v) as.toArray s 0 0 (fun _ => False)) (F0 m 0 la [])) : Met l (m_y M) (WS M) (RM M) (PCs P as) (QCs v) 0 0 (fun _ => False) := by
  refine Met.ofW (cc := m_b M) (maxL := m_ml M) (ret := m_ret M) hm.2.2.1 rfl ?_
  intro p e s m args below meth c s₁ B hml hv
  obtain ⟨rfl, hK⟩ := hv
  have hts := atoms_spec (ws := WS M) B.pre
  have hown : s.vm.findClass (m_y M).cls = some m.cls := findClass_of_methodNamed B.named
  rw [hm.2.2.2] at hown
  rw [lg_entry_eq]
  exact body p e s m below meth c _ ⟨⟨B.exec, B.bytes, hml, hown, fun w hw => hts w (List.mem_cons_of_mem _ hw)⟩, ⟨(name_of_methodNamed B.named B.method).1, B.returns, B.notSynchronized⟩, ⟨Nat.le_refl _, Nat.le_refl _, Nat.le_refl _, Nat.le_refl _⟩, hK⟩ (LR_entry M as hl)
theorem CX.str (C : CX P M p R s m args meth c) (i : Nat) (hi : i < 12) : va_O "java/lang/String" (p_aK P i) (p_A P) s s.heap ∧ va_OF "java/lang/String" "coder" "B" (.int 0) (p_aK P i) (p_A P) s s.heap ∧ va_OF "java/lang/String" "value" "[B" (.ref (p_aV P i)) (p_aK P i) (p_A P) s s.heap ∧ va_T .byte (p_aV P i) (slen.getD i 0) (fun j => .int ((stL.getD i []).getD j 0)) (p_A P) s s.heap := C.2.2.2.2.2.1.1.1 i hi
theorem CX.cst (C : CX P M p R s m args meth c) : va_Z "java/lang/String" "COMPACT_STRINGS" "Z" (.int 1) (p_A P) s s.heap := C.2.2.2.2.2.2.1
theorem CX.sio (C : CX P M p R s m args meth c) : va_Zq "jdk/internal/util/Preconditions" "SIOOBE_FORMATTER" "Ljava/util/function/BiFunction;" (p_A P) s s.heap := C.2.2.2.2.2.2.2
theorem CX.preS (C : CX P M p R s m args meth c) (hS : va_S (p_A P) s.heap H locs) (as : List Value) (U : State) (hU : U.heap = H) (hW : s.WarmedH U.vm) : PCs P as as.toArray U := ⟨rfl, C.2.2.2.go (by rw [hU]; exact hS) hW⟩
theorem CX.jv (C : CX P M p R s m args meth c) (hS : va_S (p_A P) s.heap H locs) (hz : la.size = m_ml M) {v : Option Value} {k1 k2 b n : Nat} {As : List Value} (hm : mB M') (hc : m_mc M' = 0 ∧ m_ms M' = 0) (hw : Cond.instanceMethod (m_y M') ∈ TB ∧ Cond.selects (m_y M').cls (m_y M') (m_y M') ∈ TB) (hl : nL (m_own M) i (m_y M')) (hcl : (m_y M').cls = "java/lang/String") (hp : (parseMethodDescriptor (m_y M').desc).map (fun d => d.parameters.length) = some n) (hf : m_fr M' + 1 ≤ m_fr M ∧ 19 + m_ml M' + m_lo M' ≤ m_lo M)
    (hM : Met l (m_y M') (WS M') (RM M') (PCs P (.ref b :: As)) (QCs v) 0 0 (fun _ => False)) {j : Nat} (hj : j < 12) (hb : b = p_aK P j) (hn : As.length = n) (hst : st = As.reverse ++ .ref b :: rest) (hr : rest.length ≤ 4) (hk : k1 ≤ R.cells ∧ k2 ≤ R.slots) (hd : decode (m_b M) pc = .ok (.invokevirtual i, 3))
    (kk : W p l e R s m args below meth c H locs k1 k2 Q (F0 m (pc + 3) la (v.toList ++ rest))) : W p l e R s m args below meth c H locs k1 k2 Q (F0 m pc la st) := by
  subst hb
  obtain ⟨cell, q1, q2, q3, -⟩ := (C.str j hj).1.kept hS.2.1
  have h1 := C.cb n hm hp hl hf
  rw [hc.1, hc.2] at h1
  have hcs := catsum rest
  exact pure_go (va_runV C.1 hM ⟨h1, C.tb hw.1, C.tb hw.2⟩ ⟨PCs_blind, ⟨cell, q1, q2, by rw [hcl]; exact q3⟩, C.preS hS _⟩ rfl hn hz hst (by show 2 * 0 + _ ≤ 8; omega) hd hk) kk
theorem CX.js (C : CX P M p R s m args meth c) (hS : va_S (p_A P) s.heap H locs) (hz : la.size = m_ml M) {v : Option Value} {k1 k2 n : Nat} {As : List Value} (hm : mB M') (hc : m_mc M' = 0 ∧ m_ms M' = 0) (hw : Cond.static (m_y M') ∈ TB) (hl : nL (m_own M) i (m_y M')) (hp : (parseMethodDescriptor (m_y M').desc).map (fun d => d.parameters.length) = some n) (hf : m_fr M' + 1 ≤ m_fr M ∧ 19 + m_ml M' + m_lo M' ≤ m_lo M)
    (hM : Met l (m_y M') (WS M') (RM M') (PCs P As) (QCs v) 0 0 (fun _ => False)) (hn : As.length = n) (hst : st = As.reverse ++ rest) (hr : rest.length ≤ 4) (hk : k1 ≤ R.cells ∧ k2 ≤ R.slots) (hd : decode (m_b M) pc = .ok (.invokestatic i, 3))
    (kk : W p l e R s m args below meth c H locs k1 k2 Q (F0 m (pc + 3) la (v.toList ++ rest))) : W p l e R s m args below meth c H locs k1 k2 Q (F0 m pc la st) := by
  have h1 := C.cb n hm hp hl hf
  rw [hc.1, hc.2] at h1
  have hcs := catsum rest
  exact pure_go (va_runS C.1 hM ⟨h1, C.tb hw⟩ ⟨PCs_blind, C.preS hS _⟩ rfl hn hz hst (by show 2 * 0 + _ ≤ 8; omega) hd hk) kk
theorem j_coder (l : Launch) (P : SP) (i : Nat) (hi : i < 12) : Met l (m_y MJ0_coder_7d493) (WS MJ0_coder_7d493) (RM MJ0_coder_7d493) (PCs P [.ref (p_aK P i)]) (QCs (some (.int 0))) 0 0 (fun _ => False) := jd_of MJ0_coder_7d493 mB_MJ0_coder_7d493 ⟨rfl, rfl⟩ (Nat.le_of_ble_eq_true rfl) fun p e s m below meth c la C hl => by
  have hS : va_S (p_A P) s.heap s.heap [] := va_S.rf
  refine va_gets C.1.1 C.1.2.1 C.cst hS C.1.2.2.2.1 (C.tb (TB_in 367 (by decide +kernel) rfl)) (fun x h => h) dJ0_coder_7d493_0 ?_
  refine lv_if_eq C.1.1 C.1.2.1 dJ0_coder_7d493_3 (tgt := 13) (by decide) (fun h => absurd h (by decide)) fun _ => ?_
  refine lv_aload_n C.1.1 C.1.2.1 dJ0_coder_7d493_6 rfl (hl.get (i := 0) rfl rfl) ?_
  refine vk_getf C.1.1 C.1.2.1 (C.str i hi).2.1 hS C.1.2.2.2.1 (C.tb (TB_in 1693 (by decide +kernel) rfl)) (fun x h => h) dJ0_coder_7d493_7 ?_
  refine lv_goto C.1.1 C.1.2.1 dJ0_coder_7d493_10 (tgt := 14) (by decide) ?_
  exact W.zret (ty := .byte) C.1.1 C.1.2.1 C.2.1.2.1 rfl (fun t h _ => ⟨rfl, h⟩) (fun q h => absurd h List.not_mem_nil) dJ0_coder_7d493_14 C.2.1.2.2
theorem j_isLatin1 (l : Launch) (P : SP) (i : Nat) (hi : i < 12) : Met l (m_y MJ0_isLatin1_aae02) (WS MJ0_isLatin1_aae02) (RM MJ0_isLatin1_aae02) (PCs P [.ref (p_aK P i)]) (QCs (some (.int 1))) 0 0 (fun _ => False) := jd_of MJ0_isLatin1_aae02 mB_MJ0_isLatin1_aae02 ⟨rfl, rfl⟩ (Nat.le_of_ble_eq_true rfl) fun p e s m below meth c la C hl => by
  have hS : va_S (p_A P) s.heap s.heap [] := va_S.rf
  refine va_gets C.1.1 C.1.2.1 C.cst hS C.1.2.2.2.1 (C.tb (TB_in 367 (by decide +kernel) rfl)) (fun x h => h) dJ0_isLatin1_aae02_0 ?_
  refine lv_if_eq C.1.1 C.1.2.1 dJ0_isLatin1_aae02_3 (tgt := 17) (by decide) (fun h => absurd h (by decide)) fun _ => ?_
  refine lv_aload_n C.1.1 C.1.2.1 dJ0_isLatin1_aae02_6 rfl (hl.get (i := 0) rfl rfl) ?_
  refine vk_getf C.1.1 C.1.2.1 (C.str i hi).2.1 hS C.1.2.2.2.1 (C.tb (TB_in 1693 (by decide +kernel) rfl)) (fun x h => h) dJ0_isLatin1_aae02_7 ?_
  refine lv_if_ne C.1.1 C.1.2.1 dJ0_isLatin1_aae02_10 (tgt := 17) (by decide) (fun h => absurd rfl h) fun _ => ?_
  refine lv_iconst C.1.1 C.1.2.1 dJ0_isLatin1_aae02_13 (v := 1) (by decide) ?_
  refine lv_goto C.1.1 C.1.2.1 dJ0_isLatin1_aae02_14 (tgt := 18) (by decide) ?_
  exact W.zret (ty := .boolean) C.1.1 C.1.2.1 C.2.1.2.1 rfl (fun t h _ => ⟨rfl, h⟩) (fun q h => absurd h List.not_mem_nil) dJ0_isLatin1_aae02_18 C.2.1.2.2
theorem shr0 (x : Int32) : x >>> ((0 : Int32) &&& 31) = x := by
  rw [show ((0 : Int32) &&& 31) = 0 from by decide]
  exact Int32.shiftRight_zero
theorem j_length (l : Launch) (P : SP) (i : Nat) (hi : i < 12) : Met l (m_y MJ0_length_8abf5) (WS MJ0_length_8abf5) (RM MJ0_length_8abf5) (PCs P [.ref (p_aK P i)]) (QCs (some (.int (nI (slen.getD i 0))))) 0 0 (fun _ => False) := jd_of MJ0_length_8abf5 mB_MJ0_length_8abf5 ⟨rfl, rfl⟩ (Nat.le_of_ble_eq_true rfl) fun p e s m below meth c la C hl => by
  have hS : va_S (p_A P) s.heap s.heap [] := va_S.rf
  obtain ⟨scr, s1, s2, s3, s4, s5, s6, s7⟩ := (C.str i hi).2.2.2
  refine lv_aload_n C.1.1 C.1.2.1 dJ0_length_8abf5_0 rfl (hl.get (i := 0) rfl rfl) ?_
  refine vk_getf C.1.1 C.1.2.1 (C.str i hi).2.2.1 hS C.1.2.2.2.1 (C.tb (TB_in 1692 (by decide +kernel) rfl)) (fun x h => h) dJ0_length_8abf5_1 ?_
  refine W.alen (n := nI (slen.getD i 0)) C.1.1 C.1.2.1 s1 s2 s5 rfl rfl dJ0_length_8abf5_4 ?_
  refine lv_aload_n C.1.1 C.1.2.1 dJ0_length_8abf5_5 rfl (hl.get (i := 0) rfl rfl) ?_
  refine C.jv (M' := MJ0_coder_7d493) (v := some (.int 0)) (n := 0) (As := []) (rest := [.int (nI (slen.getD i 0))]) hS hl.size mB_MJ0_coder_7d493 ⟨rfl, rfl⟩ ⟨TB_in 364 (by decide +kernel) rfl, TB_in 365 (by decide +kernel) rfl⟩ (TB_in 363 (by decide +kernel) rfl) rfl (by decide +kernel) ⟨Nat.le_of_ble_eq_true rfl, Nat.le_of_ble_eq_true rfl⟩ (j_coder l P i hi) hi rfl rfl rfl (Nat.le_of_ble_eq_true rfl) ⟨Nat.zero_le _, Nat.zero_le _⟩ dJ0_length_8abf5_6 ?_
  refine lv_ishr C.1.1 C.1.2.1 dJ0_length_8abf5_9 ?_
  rw [shr0]
  exact W.zret (ty := .int) C.1.1 C.1.2.1 C.2.1.2.1 rfl (fun t h _ => ⟨rfl, h⟩) (fun q h => absurd h List.not_mem_nil) dJ0_length_8abf5_10 C.2.1.2.2
theorem j_pre (l : Launch) (P : SP) (x n : Int32) (f : Value) (hx : ¬ x < 0) (hxn : x < n) (hf : (fl2 [Value.int x, .int n, f]).length ≤ 3) : Met l (m_y MJ3_checkIndex_8e157) (WS MJ3_checkIndex_8e157) (RM MJ3_checkIndex_8e157) (PCs P [.int x, .int n, f]) (QCs (some (.int x))) 0 0 (fun _ => False) := jd_of MJ3_checkIndex_8e157 mB_MJ3_checkIndex_8e157 ⟨rfl, rfl⟩ hf fun p e s m below meth c la C hl => by
  have hS : va_S (p_A P) s.heap s.heap [] := va_S.rf
  refine lv_iload_n C.1.1 C.1.2.1 dJ3_checkIndex_8e157_0 rfl (hl.get (i := 0) rfl rfl) ?_
  refine lv_if_lt C.1.1 C.1.2.1 dJ3_checkIndex_8e157_1 (tgt := 9) (by decide) (fun h => absurd h hx) fun _ => ?_
  refine lv_iload_n C.1.1 C.1.2.1 dJ3_checkIndex_8e157_4 rfl (hl.get (i := 0) rfl rfl) ?_
  refine lv_iload_n C.1.1 C.1.2.1 dJ3_checkIndex_8e157_5 rfl (hl.get (i := 1) rfl rfl) ?_
  refine lv_icmp_lt C.1.1 C.1.2.1 dJ3_checkIndex_8e157_6 (tgt := 16) (by decide) (fun _ => ?_) fun h => absurd hxn h
  refine lv_iload_n C.1.1 C.1.2.1 dJ3_checkIndex_8e157_16 rfl (hl.get (i := 0) rfl rfl) ?_
  exact W.zret (ty := .int) C.1.1 C.1.2.1 C.2.1.2.1 rfl (fun t h _ => ⟨rfl, h⟩) (fun q h => absurd h List.not_mem_nil) dJ3_checkIndex_8e157_17 C.2.1.2.2
theorem j_checkIndex (l : Launch) (P : SP) (x n : Int32) (hx : ¬ x < 0) (hxn : x < n) : Met l (m_y MJ0_checkIndex_df160) (WS MJ0_checkIndex_df160) (RM MJ0_checkIndex_df160) (PCs P [.int x, .int n]) (QCs none) 0 0 (fun _ => False) := jd_of MJ0_checkIndex_df160 mB_MJ0_checkIndex_df160 ⟨rfl, rfl⟩ (Nat.le_of_ble_eq_true rfl) fun p e s m below meth c la C hl => by
  have hS : va_S (p_A P) s.heap s.heap [] := va_S.rf
  refine lv_iload_n C.1.1 C.1.2.1 dJ0_checkIndex_df160_0 rfl (hl.get (i := 0) rfl rfl) ?_
  refine lv_iload_n C.1.1 C.1.2.1 dJ0_checkIndex_df160_1 rfl (hl.get (i := 1) rfl rfl) ?_
  rcases C.sio with hz | ⟨t, hz⟩
  · refine va_gets C.1.1 C.1.2.1 hz hS C.1.2.2.2.1 (C.tb (TB_in 383 (by decide +kernel) rfl)) (fun x h => h) dJ0_checkIndex_df160_2 ?_
    refine C.js (M' := MJ3_checkIndex_8e157) (v := some (.int x)) (n := 3) (As := [.int x, .int n, .null]) (rest := []) hS hl.size mB_MJ3_checkIndex_8e157 ⟨rfl, rfl⟩ (TB_in 386 (by decide +kernel) rfl) (TB_in 385 (by decide +kernel) rfl) (by decide +kernel) ⟨Nat.le_of_ble_eq_true rfl, Nat.le_of_ble_eq_true rfl⟩ (j_pre l P x n .null hx hxn (Nat.le_of_ble_eq_true rfl)) rfl rfl (by decide) ⟨Nat.zero_le _, Nat.zero_le _⟩ dJ0_checkIndex_df160_5 ?_
    refine lv_pop C.1.1 C.1.2.1 dJ0_checkIndex_df160_8 rfl ?_
    exact W.vret C.1.1 C.1.2.1 C.2.1.2.1 (fun t h _ => ⟨rfl, h⟩) (fun q h => absurd h List.not_mem_nil) dJ0_checkIndex_df160_9 C.2.1.2.2
  · refine va_gets C.1.1 C.1.2.1 hz hS C.1.2.2.2.1 (C.tb (TB_in 383 (by decide +kernel) rfl)) (fun x h => h) dJ0_checkIndex_df160_2 ?_
    refine C.js (M' := MJ3_checkIndex_8e157) (v := some (.int x)) (n := 3) (As := [.int x, .int n, (.ref t)]) (rest := []) hS hl.size mB_MJ3_checkIndex_8e157 ⟨rfl, rfl⟩ (TB_in 386 (by decide +kernel) rfl) (TB_in 385 (by decide +kernel) rfl) (by decide +kernel) ⟨Nat.le_of_ble_eq_true rfl, Nat.le_of_ble_eq_true rfl⟩ (j_pre l P x n (.ref t) hx hxn (Nat.le_of_ble_eq_true rfl)) rfl rfl (by decide) ⟨Nat.zero_le _, Nat.zero_le _⟩ dJ0_checkIndex_df160_5 ?_
    refine lv_pop C.1.1 C.1.2.1 dJ0_checkIndex_df160_8 rfl ?_
    exact W.vret C.1.1 C.1.2.1 C.2.1.2.1 (fun t h _ => ⟨rfl, h⟩) (fun q h => absurd h List.not_mem_nil) dJ0_checkIndex_df160_9 C.2.1.2.2
theorem st_small : ∀ i, i < 12 → ∀ j, j < slen.getD i 0 → (((stL.getD i []).getD j 0 &&& 255).toUInt32 % 65536).toInt32 = (stL.getD i []).getD j 0 ∧ narrow .char (.int ((stL.getD i []).getD j 0)) = .int ((stL.getD i []).getD j 0) := by decide +kernel
theorem sl_small : ∀ i, i < 12 → slen.getD i 0 ≤ 8 := by decide +kernel
theorem j_latin (l : Launch) (P : SP) (i : Nat) (hi : i < 12) (x : Int32) (hx : ¬ x < 0) (hxn : x.toNatClampNeg < slen.getD i 0) : Met l (m_y MJ1_charAt_3b067) (WS MJ1_charAt_3b067) (RM MJ1_charAt_3b067) (PCs P [.ref (p_aV P i), .int x]) (QCs (some (.int ((stL.getD i []).getD x.toNatClampNeg 0)))) 0 0 (fun _ => False) := jd_of MJ1_charAt_3b067 mB_MJ1_charAt_3b067 ⟨rfl, rfl⟩ (Nat.le_of_ble_eq_true rfl) fun p e s m below meth c la C hl => by
  have hS : va_S (p_A P) s.heap s.heap [] := va_S.rf
  obtain ⟨scr, s1, s2, s3, s4, s5, s6, s7⟩ := (C.str i hi).2.2.2
  have hlt : x < nI (slen.getD i 0) := by
    have h8 := sl_small i hi
    have e1 : (nI (slen.getD i 0)).toInt = (slen.getD i 0 : Int) := Int32.toInt_ofNat_of_lt (by omega)
    have e2 : (x.toInt.toNat : Nat) < slen.getD i 0 := hxn
    rw [Int32.lt_iff_toInt_lt, e1]
    omega
  have h65 := st_small i hi _ hxn
  refine lv_iload_n C.1.1 C.1.2.1 dJ1_charAt_3b067_0 rfl (hl.get (i := 1) rfl rfl) ?_
  refine lv_aload_n C.1.1 C.1.2.1 dJ1_charAt_3b067_1 rfl (hl.get (i := 0) rfl rfl) ?_
  refine W.alen (n := nI (slen.getD i 0)) C.1.1 C.1.2.1 s1 s2 s5 rfl rfl dJ1_charAt_3b067_2 ?_
  refine C.js (M' := MJ0_checkIndex_df160) (v := none) (n := 2) (As := [.int x, .int (nI (slen.getD i 0))]) (rest := []) hS hl.size mB_MJ0_checkIndex_df160 ⟨rfl, rfl⟩ (TB_in 381 (by decide +kernel) rfl) (TB_in 380 (by decide +kernel) rfl) (by decide +kernel) ⟨Nat.le_of_ble_eq_true rfl, Nat.le_of_ble_eq_true rfl⟩ (j_checkIndex l P x _ hx hlt) rfl rfl (by decide) ⟨Nat.zero_le _, Nat.zero_le _⟩ dJ1_charAt_3b067_3 ?_
  refine lv_aload_n C.1.1 C.1.2.1 dJ1_charAt_3b067_6 rfl (hl.get (i := 0) rfl rfl) ?_
  refine lv_iload_n C.1.1 C.1.2.1 dJ1_charAt_3b067_7 rfl (hl.get (i := 1) rfl rfl) ?_
  refine W.bald (v := .int ((stL.getD i []).getD x.toNatClampNeg 0)) C.1.1 C.1.2.1 s1 s2 s3 (fun q => q.elim hx fun q => absurd (Nat.le_trans s4 q) (Nat.not_le.mpr hxn)) (s6 _ hxn) rfl rfl dJ1_charAt_3b067_8 ?_
  refine lv_sipush C.1.1 C.1.2.1 dJ1_charAt_3b067_9 (v := 255) (by decide) ?_
  refine lv_iand C.1.1 C.1.2.1 dJ1_charAt_3b067_12 ?_
  refine lv_i2c C.1.1 C.1.2.1 dJ1_charAt_3b067_13 h65.1 ?_
  exact W.zret (ty := .char) C.1.1 C.1.2.1 C.2.1.2.1 h65.2 (fun t h _ => ⟨rfl, h⟩) (fun q h => absurd h List.not_mem_nil) dJ1_charAt_3b067_14 C.2.1.2.2
theorem j_charAt (l : Launch) (P : SP) (i : Nat) (hi : i < 12) (x : Int32) (hx : ¬ x < 0) (hxn : x.toNatClampNeg < slen.getD i 0) : Met l (m_y MJ0_charAt_5068e) (WS MJ0_charAt_5068e) (RM MJ0_charAt_5068e) (PCs P [.ref (p_aK P i), .int x]) (QCs (some (.int ((stL.getD i []).getD x.toNatClampNeg 0)))) 0 0 (fun _ => False) := jd_of MJ0_charAt_5068e mB_MJ0_charAt_5068e ⟨rfl, rfl⟩ (Nat.le_of_ble_eq_true rfl) fun p e s m below meth c la C hl => by
  have hS : va_S (p_A P) s.heap s.heap [] := va_S.rf
  have h65 := st_small i hi _ hxn
  refine lv_aload_n C.1.1 C.1.2.1 dJ0_charAt_5068e_0 rfl (hl.get (i := 0) rfl rfl) ?_
  refine C.jv (M' := MJ0_isLatin1_aae02) (v := some (.int 1)) (n := 0) (As := []) (rest := []) hS hl.size mB_MJ0_isLatin1_aae02 ⟨rfl, rfl⟩ ⟨TB_in 374 (by decide +kernel) rfl, TB_in 375 (by decide +kernel) rfl⟩ (TB_in 373 (by decide +kernel) rfl) rfl (by decide +kernel) ⟨Nat.le_of_ble_eq_true rfl, Nat.le_of_ble_eq_true rfl⟩ (j_isLatin1 l P i hi) hi rfl rfl rfl (by decide) ⟨Nat.zero_le _, Nat.zero_le _⟩ dJ0_charAt_5068e_1 ?_
  refine lv_if_eq C.1.1 C.1.2.1 dJ0_charAt_5068e_4 (tgt := 16) (by decide) (fun h => absurd h (by decide)) fun _ => ?_
  refine lv_aload_n C.1.1 C.1.2.1 dJ0_charAt_5068e_7 rfl (hl.get (i := 0) rfl rfl) ?_
  refine vk_getf C.1.1 C.1.2.1 (C.str i hi).2.2.1 hS C.1.2.2.2.1 (C.tb (TB_in 1692 (by decide +kernel) rfl)) (fun x h => h) dJ0_charAt_5068e_8 ?_
  refine lv_iload_n C.1.1 C.1.2.1 dJ0_charAt_5068e_11 rfl (hl.get (i := 1) rfl rfl) ?_
  refine C.js (M' := MJ1_charAt_3b067) (v := some (.int ((stL.getD i []).getD x.toNatClampNeg 0))) (n := 2) (As := [.ref (p_aV P i), .int x]) (rest := []) hS hl.size mB_MJ1_charAt_3b067 ⟨rfl, rfl⟩ (TB_in 378 (by decide +kernel) rfl) (TB_in 377 (by decide +kernel) rfl) (by decide +kernel) ⟨Nat.le_of_ble_eq_true rfl, Nat.le_of_ble_eq_true rfl⟩ (j_latin l P i hi x hx hxn) rfl rfl (by decide) ⟨Nat.zero_le _, Nat.zero_le _⟩ dJ0_charAt_5068e_12 ?_
  exact W.zret (ty := .char) C.1.1 C.1.2.1 C.2.1.2.1 h65.2 (fun t h _ => ⟨rfl, h⟩) (fun q h => absurd h List.not_mem_nil) dJ0_charAt_5068e_15 C.2.1.2.2
theorem sn_invokevirtual (ho : m_own M < 14) (hk : k.1 ≤ m_mc M ∧ k.2 ≤ m_ms M) (C : CX P M p R s m args meth c) (B : BX P s (m_ml M) H locs ls la h) (hd : decode (m_b M) pc = .ok (.invokevirtual i, len)) (he : ex M (.invokevirtual i) len pc ls st k h = some r) : Sx p l e R s m args below meth c P M pc la st k H locs r ∨ SC p l e R s m args below meth c P M pc la ls st k H locs h r := by
  obtain ⟨h9, hE⟩ := ln_inv he; subst h9; replace he := hE; clear hE
  split at he
  · rename_i M' hq
    have hL := lk_ok ho hq
    exact Or.inr (sc_virt C B hd hL.2.2.2 hL.1 hL.2.2.1 (Or.inl hL.2.1) he)
  · rename_i M' hq
    have hL := lk_ok ho hq
    exact Or.inr (sc_virt C B hd hL.2.2.2 hL.1 hL.2.2.1 (Or.inr hL.2.1) he)
  · rename_i M' hq
    obtain ⟨hm, hl, hq⟩ := lk_ok ho hq
    replace hq : M' = MJ0_length_8abf5 := hq
    subst hq
    obtain ⟨b, st, hq, hE⟩ := pr_inv he; subst hq; replace he := hE; clear hE
    obtain ⟨⟨hkk, g1, g2, g3⟩, he⟩ := it_inv he
    obtain ⟨j, hj, e1, e2, e3⟩ := (B.1.2.1 b).2.2.2 hkk
    have e2 : le h.1 b = slen.getD j 0 := e2
    rw [e2] at he
    exact Or.inl (Sx.n he fun Q kk => C.jv (v := some (.int (nI (slen.getD j 0)))) (n := 0) (As := []) (rest := st) B.2.1 B.2.2.size hm ⟨rfl, rfl⟩ ⟨TB_in 360 (by decide +kernel) rfl, TB_in 361 (by decide +kernel) rfl⟩ hl rfl (by decide +kernel) ⟨g1, g2⟩ (e1 ▸ j_length l P j hj) hj e1 rfl rfl (by omega) (C.room (k := k) (x := 0) (y := 0) hk) hd (kk _ _ _ B))
  · rename_i M' hq
    obtain ⟨hm, hl, hq⟩ := lk_ok ho hq
    replace hq : M' = MJ0_charAt_5068e := hq
    subst hq
    obtain ⟨b, x, st, hq, hE⟩ := pir_inv he; subst hq; replace he := hE; clear hE
    obtain ⟨⟨⟨hkk, g1, g2, g3⟩, hi⟩, he⟩ := it_inv he
    obtain ⟨j, hj, e1, e2, e3⟩ := (B.1.2.1 b).2.2.2 hkk
    have e2 : le h.1 b = slen.getD j 0 := e2
    rw [e2] at hi
    have hlt : x.toNatClampNeg < slen.getD j 0 := Nat.not_le.mp fun q => inr_in hi (Or.inr q)
    have e4 : h.2.1 b x.toNatClampNeg = (stL.getD j []).getD x.toNatClampNeg 0 := e3 _ (by show _ < le h.1 b; rw [e2]; exact hlt)
    rw [e4] at he
    exact Or.inl (Sx.n he fun Q kk => C.jv (v := some (.int ((stL.getD j []).getD x.toNatClampNeg 0))) (n := 1) (As := [.int x]) (rest := st) B.2.1 B.2.2.size hm ⟨rfl, rfl⟩ ⟨TB_in 370 (by decide +kernel) rfl, TB_in 371 (by decide +kernel) rfl⟩ hl rfl (by decide +kernel) ⟨g1, g2⟩ (e1 ▸ j_charAt l P j hj x (fun q => inr_in hi (Or.inl q)) hlt) hj e1 rfl rfl (by omega) (C.room (k := k) (x := 0) (y := 0) hk) hd (kk _ _ _ B))
  · cases he
theorem sn_invokestatic (ho : m_own M < 14) (hk : k.1 ≤ m_mc M ∧ k.2 ≤ m_ms M) (C : CX P M p R s m args meth c) (B : BX P s (m_ml M) H locs ls la h) (hd : decode (m_b M) pc = .ok (.invokestatic i, len)) (he : ex M (.invokestatic i) len pc ls st k h = some r) : Sx p l e R s m args below meth c P M pc la st k H locs r ∨ SC p l e R s m args below meth c P M pc la ls st k H locs h r := by
  obtain ⟨h9, hE⟩ := ln_inv he; subst h9; replace he := hE; clear hE
  split at he
  · rename_i M' hq
    have hL := lk_ok ho hq
    exact Or.inr (sc_static C B hd hL.2.2.2 hL.1 hL.2.2.1 (Or.inl hL.2.1) he)
  · rename_i M' hq
    have hL := lk_ok ho hq
    exact Or.inr (sc_static C B hd hL.2.2.2 hL.1 hL.2.2.1 (Or.inr hL.2.1) he)
  · rename_i M' hq
    obtain ⟨hl, hq⟩ := lk_ok ho hq
    replace hq : M' = MJ9_min_7cf53 := hq
    subst hq
    obtain ⟨x, y, st, hq, hE⟩ := pi2_inv he; subst hq; replace he := hE; clear hE
    obtain ⟨⟨g1, g2, g3⟩, he⟩ := it_inv he
    have h1 := C.2.2.1.1
    have h2 := C.2.2.1.2.1
    have h3 := catsum st
    have h4 := (C.room (k := k) (x := 0) (y := 0) hk)
    exact Or.inl (Sx.n he fun Q kk => va_mmin C.1.1 C.1.2.1 (C.1.2.2.1.trans B.2.2.size.symm) C.1.2.2.2.1 (C.tb (by rw [mmin_w.2.2]; exact hl)) (C.tb mmin_w.1) (C.tb cini_13) (C.tb mmin_w.2.1) (by omega) (by omega) h4.1 h4.2 hd (kk _ _ _ B))
  · rename_i M' hq
    obtain ⟨hl, hq⟩ := lk_ok ho hq
    replace hq : M' = MJ9_max_7cf53 := hq
    subst hq
    obtain ⟨x, y, st, hq, hE⟩ := pi2_inv he; subst hq; replace he := hE; clear hE
    obtain ⟨⟨g1, g2, g3⟩, he⟩ := it_inv he
    have h1 := C.2.2.1.1
    have h2 := C.2.2.1.2.1
    have h3 := catsum st
    have h4 := (C.room (k := k) (x := 0) (y := 0) hk)
    exact Or.inl (Sx.n he fun Q kk => va_mmax C.1.1 C.1.2.1 (C.1.2.2.1.trans B.2.2.size.symm) C.1.2.2.2.1 (C.tb (by rw [mmax_w.2.2]; exact hl)) (C.tb mmax_w.1) (C.tb cini_13) (C.tb mmax_w.2.1) (by omega) (by omega) h4.1 h4.2 hd (kk _ _ _ B))
  · cases he
theorem sn_invokespecial (ho : m_own M < 14) (hk : k.1 ≤ m_mc M ∧ k.2 ≤ m_ms M) (C : CX P M p R s m args meth c) (B : BX P s (m_ml M) H locs ls la h) (hd : decode (m_b M) pc = .ok (.invokespecial i, len)) (he : ex M (.invokespecial i) len pc ls st k h = some r) : Sx p l e R s m args below meth c P M pc la st k H locs r ∨ SC p l e R s m args below meth c P M pc la ls st k H locs h r := by
  obtain ⟨h9, hE⟩ := ln_inv he; subst h9; replace he := hE; clear hE
  split at he
  · rename_i M' hq
    have hL := lk_ok ho hq
    exact Or.inr (sc_spec C B hd hL.2.2.2 hL.1 hL.2.2.1 (Or.inl hL.2.1) he)
  · rename_i M' hq
    have hL := lk_ok ho hq
    exact Or.inr (sc_spec C B hd hL.2.2.2 hL.1 hL.2.2.1 (Or.inr hL.2.1) he)
  · obtain ⟨⟨⟨h1, h2⟩, h3, h4, h5⟩, he⟩ := it_inv he
    obtain ⟨b, st, hq, hE⟩ := pr_inv he; subst hq; replace he := hE; clear hE
    have hl := ob_ok _ ho (by rw [← h1]; exact h2)
    rw [← h1] at hl
    have h6 := catsum st
    have h7 := C.2.2.1.1
    have h8 := C.2.2.1.2.1
    rw [List.length_cons] at h5
    exact Or.inl (Sx.n he fun Q kk => W.objInit C.1.1 C.1.2.1 C.1.2.2.2.1 (C.tb hl) (C.tb obI) (C.tb obC) rfl (B.2.2.size.trans C.1.2.2.1.symm) rfl hd (by omega) (by show 2 * 0 + _ + 12 ≤ _; omega) (kk _ _ _ B))
  · cases he
def RetI (M : MI) (pc : Nat) (st : List Value) (v : Value) : Prop := (∃ x, decode (m_b M) pc = .ok (.ireturn, 1) ∧ st = [.int x] ∧ v = .int x ∧ ∃ t, m_ret M = some t ∧ narrow t (.int x) = .int x) ∨ (decode (m_b M) pc = .ok (.areturn, 1) ∧ st = [v] ∧ (v = .null ∨ ∃ b, v = .ref b) ∧ ∃ n, m_ret M = some (.object n)) ∨ (decode (m_b M) pc = .ok (.return_, 1) ∧ st = [] ∧ m_ret M = none)
theorem sn_ireturn (hd : decode (m_b M) pc = .ok (.ireturn, len)) (he : ex M .ireturn len pc ls st k h = some r) : ∃ v, r = .inr (.inr v) ∧ RetI M pc st v := by
  obtain ⟨h9, hE⟩ := ln_inv he; subst h9; replace he := hE; clear hE
  split at he
  · rename_i x
    split at he
    · rename_i t ht
      obtain ⟨hn, he⟩ := it_inv he
      exact ⟨_, (Option.some.inj he).symm, Or.inl ⟨x, hd, rfl, rfl, t, ht, hn⟩⟩
    · cases he
  · cases he
theorem sn_areturn (hd : decode (m_b M) pc = .ok (.areturn, len)) (he : ex M .areturn len pc ls st k h = some r) : ∃ v, r = .inr (.inr v) ∧ RetI M pc st v := by
  obtain ⟨h9, hE⟩ := ln_inv he; subst h9; replace he := hE; clear hE
  split at he
  · rename_i b
    split at he
    · rename_i n hn
      exact ⟨_, (Option.some.inj he).symm, Or.inr (Or.inl ⟨hd, rfl, Or.inr ⟨b, rfl⟩, n, hn⟩)⟩
    · cases he
  · split at he
    · rename_i n hn
      exact ⟨_, (Option.some.inj he).symm, Or.inr (Or.inl ⟨hd, rfl, Or.inl rfl, n, hn⟩)⟩
    · cases he
  · cases he
theorem sn_return (hd : decode (m_b M) pc = .ok (.return_, len)) (he : ex M .return_ len pc ls st k h = some r) : ∃ v, r = .inr (.inr v) ∧ RetI M pc st v := by
  obtain ⟨h9, hE⟩ := ln_inv he; subst h9; replace he := hE; clear hE
  split at he
  · obtain ⟨hn, he⟩ := it_inv he
    exact ⟨_, (Option.some.inj he).symm, Or.inr (Or.inr ⟨hd, rfl, hn⟩)⟩
  · cases he
theorem ex_sound {i : Instr} (ho : m_own M < 14) (hk : k.1 ≤ m_mc M ∧ k.2 ≤ m_ms M) (C : CX P M p R s m args meth c) (B : BX P s (m_ml M) H locs ls la h) (hd : decode (m_b M) pc = .ok (i, len)) (he : ex M i len pc ls st k h = some r) : Sx p l e R s m args below meth c P M pc la st k H locs r ∨ SC p l e R s m args below meth c P M pc la ls st k H locs h r ∨ ∃ v, r = .inr (.inr v) ∧ RetI M pc st v := by
  cases i with
  | aconst_null => exact Or.inl (sn_aconst_null C B hd he)
  | iconst _ => exact Or.inl (sn_iconst C B hd he)
  | bipush _ => exact Or.inl (sn_bipush C B hd he)
  | sipush _ => exact Or.inl (sn_sipush C B hd he)
  | lconst _ => exact Or.inl (sn_lconst C B hd he)
  | iload_n _ => exact Or.inl (sn_iload_n C B hd he)
  | iload _ => exact Or.inl (sn_iload C B hd he)
  | lload_n _ => exact Or.inl (sn_lload_n C B hd he)
  | lload _ => exact Or.inl (sn_lload C B hd he)
  | aload_n _ => exact Or.inl (sn_aload_n C B hd he)
  | aload _ => exact Or.inl (sn_aload C B hd he)
  | istore_n _ => exact Or.inl (sn_istore_n C B hd he)
  | istore _ => exact Or.inl (sn_istore C B hd he)
  | lstore_n _ => exact Or.inl (sn_lstore_n C B hd he)
  | astore_n _ => exact Or.inl (sn_astore_n C B hd he)
  | lstore _ => exact Or.inl (sn_lstore C B hd he)
  | astore _ => exact Or.inl (sn_astore C B hd he)
  | iinc _ _ => exact Or.inl (sn_iinc C B hd he)
  | iadd => exact Or.inl (sn_iadd C B hd he)
  | isub => exact Or.inl (sn_isub C B hd he)
  | imul => exact Or.inl (sn_imul C B hd he)
  | iand => exact Or.inl (sn_iand C B hd he)
  | ladd => exact Or.inl (sn_ladd C B hd he)
  | lsub => exact Or.inl (sn_lsub C B hd he)
  | lmul => exact Or.inl (sn_lmul C B hd he)
  | idiv => exact Or.inl (sn_idiv C B hd he)
  | irem => exact Or.inl (sn_irem C B hd he)
  | ldiv => exact Or.inl (sn_ldiv C B hd he)
  | lrem => exact Or.inl (sn_lrem C B hd he)
  | ishr => exact Or.inl (sn_ishr C B hd he)
  | iushr => exact Or.inl (sn_iushr C B hd he)
  | ineg => exact Or.inl (sn_ineg C B hd he)
  | i2l => exact Or.inl (sn_i2l C B hd he)
  | i2b => exact Or.inl (sn_i2b C B hd he)
  | l2i => exact Or.inl (sn_l2i C B hd he)
  | lcmp => exact Or.inl (sn_lcmp C B hd he)
  | ifCond _ _ => exact Or.inl (sn_ifCond C B hd he)
  | if_icmp _ _ => exact Or.inl (sn_if_icmp C B hd he)
  | ifnull _ => exact Or.inl (sn_ifnull C B hd he)
  | ifnonnull _ => exact Or.inl (sn_ifnonnull C B hd he)
  | goto _ => exact Or.inl (sn_goto C B hd he)
  | tableswitch _ _ _ _ => exact Or.inl (sn_tableswitch C B hd he)
  | lookupswitch _ _ => exact Or.inl (sn_lookupswitch C B hd he)
  | dup => exact Or.inl (sn_dup C B hd he)
  | pop => exact Or.inl (sn_pop C B hd he)
  | dup2 => exact Or.inl (sn_dup2 C B hd he)
  | ldc _ => exact Or.inl (sn_ldc ho C B hd he)
  | ldc2_w _ => exact Or.inl (sn_ldc2_w ho C B hd he)
  | getfield _ => exact Or.inl (sn_getfield ho C B hd he)
  | putfield _ => exact Or.inl (sn_putfield ho C B hd he)
  | arraylength => exact Or.inl (sn_arraylength C B hd he)
  | iaload => exact Or.inl (sn_iaload C B hd he)
  | baload => exact Or.inl (sn_baload C B hd he)
  | laload => exact Or.inl (sn_laload C B hd he)
  | aaload => exact Or.inl (sn_aaload C B hd he)
  | iastore => exact Or.inl (sn_iastore C B hd he)
  | lastore => exact Or.inl (sn_lastore C B hd he)
  | bastore => exact Or.inl (sn_bastore C B hd he)
  | aastore => exact Or.inl (sn_aastore C B hd he)
  | newarray _ => exact Or.inl (sn_newarray C B hd he)
  | anewarray _ => exact Or.inl (sn_anewarray ho C B hd he)
  | new _ => exact Or.inl (sn_new ho C B hd he)
  | invokevirtual _ => exact (sn_invokevirtual ho hk C B hd he).elim Or.inl fun q => Or.inr (Or.inl q)
  | invokestatic _ => exact (sn_invokestatic ho hk C B hd he).elim Or.inl fun q => Or.inr (Or.inl q)
  | invokespecial _ => exact (sn_invokespecial ho hk C B hd he).elim Or.inl fun q => Or.inr (Or.inl q)
  | ireturn => exact Or.inr (Or.inr (sn_ireturn hd he))
  | areturn => exact Or.inr (Or.inr (sn_areturn hd he))
  | return_ => exact Or.inr (Or.inr (sn_return hd he))
  | _ => exact absurd he (by simp [ex])
def EndAt (p : Program) (l : Launch) (e : Env) (R : Room) (s : State) (m : MethodId) (args : Array Value) (below : List Frame) (meth : Method) (c : Code) (P : SP) (M : MI) (Qf : State → Prop) (r : AH × Value) : Prop :=
  ∀ (pc : Nat) (la : Array Slot) (st : List Value) (H' : Heap) (locs' : List Loc), RetI M pc st r.2 → HR P r.1 H' → va_S (p_A P) s.heap H' locs' → W p l e R s m args below meth c H' locs' (m_mc M) (m_ms M) Qf (F0 m pc la st)
theorem end_std {r : AH × Value} (C : CX P M p R s m args meth c) : EndAt p l e R s m args below meth c P M (MQ below (QC P M r) args s (m_mc M) (m_ms M) (p_A P)) r := by
  intro pc la st H' locs' hR hh hS
  rcases hR with ⟨x, hd, rfl, hv, t, ht, hn⟩ | ⟨hd, rfl, hv, n, ht⟩ | ⟨hd, rfl, ht⟩
  · exact W.zret C.1.1 C.1.2.1 (C.2.1.2.1.trans ht) hn (fun t' h' _ => ⟨by unfold rv; rw [ht, hv]; rfl, by rw [h']; exact hh, hS.F h'⟩) hS.2.2 hd C.2.1.2.2
  · exact W.aret C.1.1 C.1.2.1 (C.2.1.2.1.trans ht) (Or.inl ⟨n, rfl⟩) hv (fun t' h' _ => ⟨by unfold rv; rw [ht]; rfl, by rw [h']; exact hh, hS.F h'⟩) hS.2.2 hd C.2.1.2.2
  · exact W.vret C.1.1 C.1.2.1 (C.2.1.2.1.trans ht) (fun t' h' _ => ⟨by unfold rv; rw [ht]; rfl, by rw [h']; exact hh, hS.F h'⟩) hS.2.2 hd C.2.1.2.2
end SN
theorem body (P : SP) (l : Launch) : ∀ (n : Nat) (M : MI) (pc : Nat) (ls st : List Value) (k : Nat × Nat) (h : AH) (r : AH × Value), run n M pc ls st k h = some r → m_own M < 14 → k.1 ≤ m_mc M → k.2 ≤ m_ms M →
    ∀ (p : Program) (e : Env) (R : Room) (s : State) (m : MethodId) (args : Array Value) (below : List Frame) (meth : Method) (c : Code) (H : Heap) (locs : List Loc) (la : Array Slot) (Qf : State → Prop), CX P M p R s m args meth c → BX P s (m_ml M) H locs ls la h → EndAt p l e R s m args below meth c P M Qf r → W p l e R s m args below meth c H locs k.1 k.2 Qf (F0 m pc la st) := by
  intro n
  induction n with
  | zero => intro M pc ls st k h r hr; cases hr
  | succ n ih =>
    intro M pc ls st k h r hr ho k1 k2 p e R s m args below meth c H locs la Qf C B hE
    rw [run] at hr
    cases hs : stp M pc ls st k h with
    | none => rw [hs] at hr; cases hr
    | some q =>
      rw [hs] at hr
      unfold stp at hs
      split at hs
      · rename_i i len hd
        rcases ex_sound (below := below) (l := l) (e := e) ho ⟨k1, k2⟩ C B hd hs with ⟨pc', ls', st', k', h', e1, e2, kk⟩ | ⟨M', as, st', e1, ⟨o', m', l'⟩, ⟨g1, g2⟩, kk⟩ | ⟨v, e1, hR⟩
        · subst e1
          exact kk _ fun la' H' locs' B' => ih _ _ _ _ _ _ _ hr ho (e2 k1 k2).1 (e2 k1 k2).2 p e R s m args below meth c H' locs' la' Qf C B' hE
        · subst e1
          dsimp only at hr
          cases h1 : run n M' 0 (loc M' as) [] (0, 0) h with
          | none => rw [h1] at hr; cases hr
          | some q =>
            rw [h1] at hr
            have ct : CT P l M' as h q := by
              refine Met.ofW (cc := m_b M') (maxL := m_ml M') (ret := m_ret M') m'.2.2.1 rfl ?_
              intro p e s m args below meth c s₁ B hml hv
              obtain ⟨rfl, hh, hK⟩ := hv
              have hts := atoms_spec (ws := WS M') B.pre
              have hown : s.vm.findClass (m_y M').cls = some m.cls := findClass_of_methodNamed B.named
              rw [m'.2.2.2] at hown
              rw [lg_entry_eq]
              have C' : CX P M' p (RM M') s m as.toArray meth c := ⟨⟨B.exec, B.bytes, hml, hown, fun w hw => hts w (List.mem_cons_of_mem _ hw)⟩, ⟨(name_of_methodNamed B.named B.method).1, B.returns, B.notSynchronized⟩, ⟨Nat.le_refl _, Nat.le_refl _, Nat.le_refl _, Nat.le_refl _⟩, hK⟩
              exact ih M' 0 _ _ (0, 0) h q h1 o' (Nat.zero_le _) (Nat.zero_le _) p e (RM M') s m as.toArray below meth c s.heap [] _ _ C' ⟨hh, va_S.rf, LR_entry M' as l'⟩ (end_std C')
            exact kk q ct Qf fun H' locs' B' => ih _ _ _ _ _ _ _ hr ho g1 g2 p e R s m args below meth c H' locs' la Qf C B' hE
        · subst e1
          cases hr
          exact W.widen k1 k2 (hE pc la st H locs hR B.1 B.2.1)
      · cases hs
