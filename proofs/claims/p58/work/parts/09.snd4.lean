/-! SOUNDNESS of the small machine: calls. -/
abbrev WS (M : MI) : List Cond := Cond.code (m_y M) (m_b M) (m_ml M) (m_ret M) :: TB
def RM (M : MI) : Room := { frames := m_fr M, cells := m_mc M, slots := m_ms M, locals := m_lo M }
def PC (P : SP) (as : List Value) (h : AH) : Array Value → State → Prop := fun a U => a = as.toArray ∧ HR P h U.heap ∧ KS P U
def rv (M : MI) (v : Value) : Option Value := if (m_ret M).isSome = true then some v else none
def QC (P : SP) (M : MI) (r : AH × Value) : Array Value → State → Outcome → State → Prop := fun _ st oc t => oc = .returned (rv M r.2) ∧ HR P r.1 t.heap ∧ va_F (p_A P) st t
def CT (P : SP) (l : Launch) (M : MI) (as : List Value) (h : AH) (r : AH × Value) : Prop := Met l (m_y M) (WS M) (RM M) (PC P as h) (QC P M r) (m_mc M) (m_ms M) (p_A P)
theorem WS_good {M : MI} (hm : mB M) : GoodIn TB (WS M) := fun w hw => by
  rcases List.mem_cons.mp hw with h | h
  · rw [h]
    exact TB_good _ hm.1.1
  · exact TB_good w h
theorem PC_blind {P : SP} {as : List Value} {h : AH} : FrameBlind (PC P as h) := fun a U g mk q => ⟨q.1, q.2.1, q.2.2.same rfl rfl⟩
theorem catsum : ∀ l : List Value, (l.map fun v => v.category).sum ≤ 2 * l.length
  | [] => Nat.le_refl 0
  | v :: l => by
    have h1 := catsum l
    have h2 : v.category ≤ 2 := by rcases lv_cat v with q | q <;> omega
    simp only [List.map_cons, List.sum_cons, List.length_cons]
    omega
section SN
variable {p : Program} {l : Launch} {e : Env} {R : Room} {s : State} {m : MethodId} {args : Array Value} {below : List Frame} {meth : Method} {c : Code} {H : Heap} {locs : List Loc} {P : SP} {M M' : MI} {len pc i : Nat} {ls st rest : List Value} {la : Array Slot} {k : Nat × Nat} {h : AH} {r : SRr} {Q : State → Prop} {a : Array Value} {r' : AH × Value}
def SC (p : Program) (l : Launch) (e : Env) (R : Room) (s : State) (m : MethodId) (args : Array Value) (below : List Frame) (meth : Method) (c : Code) (P : SP) (M : MI) (pc : Nat) (la : Array Slot) (ls st : List Value) (k : Nat × Nat) (H : Heap) (locs : List Loc) (h : AH) (r : SRr) : Prop :=
  ∃ (M' : MI) (as st' : List Value), r = .inr (.inl (M', as, pc + 3, ls, st', (m_ret M').isSome)) ∧ (m_own M' < 23 ∧ mB M' ∧ (fl2 as).length ≤ m_ml M') ∧ (k.1 + m_mc M' ≤ m_mc M ∧ k.2 + m_ms M' ≤ m_ms M) ∧ ∀ r' : AH × Value, CT P l M' as h r' → ∀ Q : State → Prop,
    (∀ (H' : Heap) (locs' : List Loc), BX P s (m_ml M) H' locs' ls la r'.1 → W p l e R s m args below meth c H' locs' (k.1 + m_mc M') (k.2 + m_ms M') Q (F0 m (pc + 3) la (if (m_ret M').isSome = true then r'.2 :: st' else st'))) → W p l e R s m args below meth c H locs k.1 k.2 Q (F0 m pc la st)
theorem call_fin (B : BX P s (m_ml M) H locs ls la h) (hr : va_Run p l e R s m args below meth c H locs k.1 k.2 (m_mc M') (m_ms M') (F0 m pc la st) rest (QC P M' r' a) (p_A P))
    (kk : ∀ (H' : Heap) (locs' : List Loc), BX P s (m_ml M) H' locs' ls la r'.1 → W p l e R s m args below meth c H' locs' (k.1 + m_mc M') (k.2 + m_ms M') Q (F0 m (pc + 3) la (if (m_ret M').isSome = true then r'.2 :: rest else rest))) : W p l e R s m args below meth c H locs k.1 k.2 Q (F0 m pc la st) := by
  intro T hT X
  obtain ⟨v, st₀, t, T', L, h0, X', hL, e1, e2, ⟨hv, hh, hz, hf⟩, go⟩ := hr T hT X
  have hv2 : v = rv M' r'.2 := Outcome.returned.inj hv
  subst hv2
  rw [h0] at hz hf
  obtain ⟨t2, a1, b1⟩ := kk T'.heap (locs ++ L) ⟨by rw [e1]; exact hh, ⟨by rw [e1]; exact Nat.le_trans B.2.1.1 hz, fun q h1 h2 => by rw [e1, hf q (Nat.lt_of_lt_of_le h1 B.2.1.1) h2]; exact B.2.1.2.1 q h1 h2, fun q hq => by
    rcases List.mem_append.mp hq with g | g
    · exact B.2.1.2.2 q g
    · exact hL q g⟩, B.2.2⟩ T' rfl X'
  have e3 : (rv M' r'.2).toList ++ rest = if (m_ret M').isSome = true then r'.2 :: rest else rest := by
    unfold rv
    split <;> rfl
  refine ⟨t2, go t2 ?_, b1⟩
  show Steps p.tables e below (T'.setTop (F0 m (pc + 3) la ((rv M' r'.2).toList ++ rest))) t2
  rw [e3]
  exact a1
theorem xcall_inv (he : x_call M M' pc ls st k = some r) : ((m_fr M' + 1 ≤ m_fr M ∧ 19 + m_ml M' + m_lo M' ≤ m_lo M ∧ k.1 + m_mc M' ≤ m_mc M ∧ k.2 + m_ms M' ≤ m_ms M) ∧ m_na M' ≤ st.length ∧ (st.length ≤ m_na M' + 4 ∨ csm (st.drop (m_na M')) ≤ 8) ∧ (fl2 (st.take (m_na M')).reverse).length ≤ m_ml M') ∧ r = .inr (.inl (M', (st.take (m_na M')).reverse, pc + 3, ls, st.drop (m_na M'), (m_ret M').isSome)) := by
  obtain ⟨h1, h2⟩ := it_inv he
  exact ⟨h1, (Option.some.inj h2).symm⟩
theorem CX.rmc (C : CX P M p R s m args meth c) (h : m_fr M' + 1 ≤ m_fr M ∧ 19 + m_ml M' + m_lo M' ≤ m_lo M) : (RM M').frames + 1 ≤ R.frames ∧ 8 + (m_ml M' + 11) + (RM M').locals ≤ R.locals := by
  have h1 := C.2.2.1.1
  have h2 := C.2.2.1.2.1
  show m_fr M' + 1 ≤ R.frames ∧ 8 + (m_ml M' + 11) + m_lo M' ≤ R.locals
  omega
theorem CX.pre (C : CX P M p R s m args meth c) (B : BX P s (m_ml M) H locs ls la h) (as : List Value) (U : State) (hU : U.heap = H) (hW : s.WarmedH U.vm) : PC P as h as.toArray U := ⟨rfl, by rw [hU]; exact B.1, C.2.2.2.go (by rw [hU]; exact B.2.1) hW⟩
theorem rest4 {n : Nat} (h : st.length ≤ n + 4 ∨ csm (st.drop n) ≤ 8) : 2 * (F0 m pc la st).monitorRoom + ((st.drop n).map fun v => v.category).sum ≤ 8 := by
  show 2 * 0 + _ ≤ 8
  rcases h with h | h
  · have h1 := catsum (st.drop n)
    rw [List.length_drop] at h1
    omega
  · have : ((st.drop n).map fun v => v.category).sum ≤ 8 := h
    omega
theorem CX.nw (C : CX P M p R s m args meth c) {w : Cond} (hw : w ∈ NW) : va_Nw w s := C.2.2.2.1.2.2.2 w hw
theorem CX.cb (C : CX P M p R s m args meth c) (n : Nat) (hm : mB M') (hp : (parseMethodDescriptor (m_y M').desc).map (fun d => d.parameters.length) = some n) (hl : nL (m_own M) i (m_y M')) (h : m_fr M' + 1 ≤ m_fr M ∧ 19 + m_ml M' + m_lo M' ≤ m_lo M) : CallB R s args (RN (m_own M)) i (m_y M') (m_b M') (m_ml M') (m_ret M') (WS M') (RM M') (m_mc M') (m_ms M') n :=
  callB_of n C.1.2.2.2.2 (WS_good hm) rfl rfl rfl (C.tb hm.1.2) (C.tb hl) ⟨hm.2.1.1, hm.2.1.2, hp⟩ (C.rmc h)
theorem CX.cn (C : CX P M p R s m args meth c) (n : Nat) {host : String} (hm : mB M') (hp : (parseMethodDescriptor (m_y M').desc).map (fun d => d.parameters.length) = some n) (hl : Cond.methodLinkNest (RN (m_own M)) i (m_y M') host ∈ NW) (h : m_fr M' + 1 ≤ m_fr M ∧ 19 + m_ml M' + m_lo M' ≤ m_lo M) : va_CN R s args (RN (m_own M)) i (m_y M') host (m_b M') (m_ml M') (m_ret M') (WS M') (RM M') (m_mc M') (m_ms M') n :=
  va_cnB n C.1.2.2.2.2 (WS_good hm) rfl rfl rfl (C.nw hl) (C.tb hm.1.2) ⟨hm.2.1.1, hm.2.1.2, hp⟩ (C.rmc h)
theorem sc_static (C : CX P M p R s m args meth c) (B : BX P s (m_ml M) H locs ls la h) (hd : decode (m_b M) pc = .ok (.invokestatic i, 3)) (ho : m_own M' < 23) (hm : mB M') (hs : mS M') (hl : nL (m_own M) i (m_y M') ∨ nN (m_own M) i (m_y M')) (he : x_call M M' pc ls st k = some r) : SC p l e R s m args below meth c P M pc la ls st k H locs h r := by
  obtain ⟨⟨⟨f1, f2, f3, f4⟩, g1, g2, g3⟩, hr⟩ := xcall_inv he
  refine ⟨M', _, _, hr, ⟨ho, hm, g3⟩, ⟨f3, f4⟩, fun r' hM Q kk => ?_⟩
  have hrm := C.room (x := m_mc M') (y := m_ms M') ⟨f3, f4⟩
  have hlen : (st.take (m_na M')).reverse.length = m_na M' := by rw [List.length_reverse, List.length_take, Nat.min_eq_left g1]
  have hst : (F0 m pc la st).stack = ((st.take (m_na M')).reverse).reverse ++ st.drop (m_na M') := by
    rw [List.reverse_reverse, List.take_append_drop]
  rcases hl with hl | ⟨host, hl⟩
  · exact call_fin B (va_runS C.1 hM ⟨C.cb _ hm hs.2 hl ⟨f1, f2⟩, C.tb hs.1⟩ ⟨PC_blind, C.pre B _⟩ rfl hlen B.2.2.size hst (rest4 g2) hd hrm) kk
  · exact call_fin B (va_runSN C.1 hM ⟨C.cn _ hm hs.2 hl ⟨f1, f2⟩, C.tb hs.1, trivial⟩ ⟨PC_blind, C.pre B _⟩ rfl hlen B.2.2.size hst (rest4 g2) hd hrm) kk
theorem take_recv {n : Nat} {b : Nat} (h1 : 1 ≤ n) (h2 : st[n - 1]? = some (.ref b)) : (st.take n).reverse = .ref b :: (st.take (n - 1)).reverse := by
  obtain ⟨j, rfl⟩ : ∃ j, n = j + 1 := ⟨n - 1, by omega⟩
  rw [Nat.add_sub_cancel] at h2
  rw [Nat.add_sub_cancel, List.take_add_one, h2]
  simp
theorem xinst_inv (he : x_inst M M' pc ls st k h = some r) : ∃ b, st[m_na M' - 1]? = some (.ref b) ∧ rk (m_own M') (kd h.1 b) = true ∧ x_call M M' pc ls st k = some r := by
  unfold x_inst at he
  split at he
  · obtain ⟨h1, h2⟩ := it_inv he
    exact ⟨_, by assumption, h1, h2⟩
  · cases he
theorem rk_inv {own k : Nat} (h : rk own k = true) : k = 10 + oc own ∨ own = 14 ∧ k = 18 := by
  unfold rk at h
  rw [Bool.or_eq_true, decide_eq_true_eq, Bool.and_eq_true, beq_iff_eq, beq_iff_eq] at h
  exact h
theorem CX.recv (C : CX P M p R s m args meth c) (B : BX P s (m_ml M) H locs ls la h) {b own : Nat} (hc : oc own < 8) (hk : rk own (kd h.1 b) = true) : ∃ cellB : Cell, H[b]? = some cellB ∧ cellB.vm.isStatics = false ∧ s.vm.findClass (RO (oc own)) = some cellB.cls := by
  rcases rk_inv hk with hk | ⟨ho, hk2⟩
  · obtain ⟨-, cell, q1, q2, q3, -⟩ := ob_at B.1 hc hk
    obtain ⟨kcl, -⟩ := kf_all (oc own) hc
    exact ⟨cell, q1, by rw [q3]; rfl, by rw [q2]; exact (C.2.2.2.1.1.1 (oc own) _ kcl).2.1⟩
  · subst ho
    obtain ⟨g, g1, g2, -⟩ := (B.1.2.1 b).2.2.2.1 hk2
    obtain ⟨cell, q1, q2, q3, -⟩ := ((C.kt.1 g g1).1).kept B.2.1.2.1
    exact ⟨cell, by rw [g2]; exact q1, q2, q3⟩
theorem sc_virt (C : CX P M p R s m args meth c) (B : BX P s (m_ml M) H locs ls la h) (hd : decode (m_b M) pc = .ok (.invokevirtual i, 3)) (ho : m_own M' < 23) (hm : mB M') (hs : mV M') (hl : nL (m_own M) i (m_y M') ∨ nN (m_own M) i (m_y M')) (he : x_inst M M' pc ls st k h = some r) : SC p l e R s m args below meth c P M pc la ls st k H locs h r := by
  obtain ⟨b, hb, hk, he⟩ := xinst_inv he
  obtain ⟨⟨⟨f1, f2, f3, f4⟩, g1, g2, g3⟩, hr⟩ := xcall_inv he
  obtain ⟨⟨w1, w2⟩, ⟨w3, w4⟩, w5, w6⟩ := hs
  refine ⟨M', _, _, hr, ⟨ho, hm, g3⟩, ⟨f3, f4⟩, fun r' hM Q kk => ?_⟩
  have hrm := C.room (x := m_mc M') (y := m_ms M') ⟨f3, f4⟩
  have hrc := C.recv B w5 hk
  rw [w6] at hrc
  have ers := take_recv w4 hb
  rw [ers] at hM
  have hlen : (st.take (m_na M' - 1)).reverse.length = m_na M' - 1 := by rw [List.length_reverse, List.length_take, Nat.min_eq_left (by omega)]
  have hst : (F0 m pc la st).stack = ((st.take (m_na M' - 1)).reverse).reverse ++ .ref b :: st.drop (m_na M') := by
    have e1 := congrArg List.reverse ers
    rw [List.reverse_reverse, List.reverse_cons] at e1
    show st = _
    rw [← List.singleton_append, ← List.append_assoc, ← e1, List.take_append_drop]
  rcases hl with hl | ⟨host, hl⟩
  · exact call_fin B (va_runV C.1 hM ⟨C.cb _ hm w3 hl ⟨f1, f2⟩, C.tb w1, C.tb w2⟩ ⟨PC_blind, hrc, C.pre B _⟩ rfl hlen B.2.2.size hst (rest4 g2) hd hrm) kk
  · exact call_fin B (va_runVN C.1 hM ⟨C.cn _ hm w3 hl ⟨f1, f2⟩, C.tb w1, C.tb w2⟩ ⟨PC_blind, hrc, C.pre B _⟩ rfl hlen B.2.2.size hst (rest4 g2) hd hrm) kk
theorem sc_up (C : CX P M p R s m args meth c) (B : BX P s (m_ml M) H locs ls la h) (hd : decode (m_b M) pc = .ok (.invokevirtual i, 3)) (ho : m_own M' < 23) (hm : mB M') (hs : mU M') (hl : nL (m_own M) i (m_y M')) (he : x_inst M M' pc ls st k h = some r) : SC p l e R s m args below meth c P M pc la ls st k H locs h r := by
  obtain ⟨b, hb, hk, he⟩ := xinst_inv he
  obtain ⟨⟨⟨f1, f2, f3, f4⟩, g1, g2, g3⟩, hr⟩ := xcall_inv he
  obtain ⟨⟨w1, w2, w2b⟩, ⟨w3, w4⟩, w5⟩ := hs
  refine ⟨M', _, _, hr, ⟨ho, hm, g3⟩, ⟨f3, f4⟩, fun r' hM Q kk => ?_⟩
  have hrm := C.room (x := m_mc M') (y := m_ms M') ⟨f3, f4⟩
  have hrc := C.recv B (own := m_own M') (by rw [w5]; decide) hk
  rw [w5] at hrc
  have ers := take_recv w4 hb
  rw [ers] at hM
  have hlen : (st.take (m_na M' - 1)).reverse.length = m_na M' - 1 := by rw [List.length_reverse, List.length_take, Nat.min_eq_left (by omega)]
  have hst : (F0 m pc la st).stack = ((st.take (m_na M' - 1)).reverse).reverse ++ .ref b :: st.drop (m_na M') := by
    have e1 := congrArg List.reverse ers
    rw [List.reverse_reverse, List.reverse_cons] at e1
    show st = _
    rw [← List.singleton_append, ← List.append_assoc, ← e1, List.take_append_drop]
  have hT : GoodIn TB (va_wsU (RN (m_own M)) i SBn (m_y M').cls (m_y M') (m_y M') (WS M')) := fun w hw => by
    unfold va_wsU at hw
    rcases List.mem_append.mp hw with h | h
    · refine TB_good w ?_
      simp only [List.mem_cons, List.not_mem_nil, or_false] at h
      rcases h with rfl | rfl | rfl | rfl | rfl
      · exact hl
      · exact w2b
      · exact w2
      · exact w1
      · exact hm.1.2
    · exact WS_good hm w h
  exact call_fin B (va_runU C.1 hM (va_cwU (m_na M' - 1) C.1.2.2.2.2 hT rfl rfl rfl rfl ⟨hm.2.1.1, hm.2.1.2, w3⟩ (C.rmc ⟨f1, f2⟩)) ⟨PC_blind, hrc, C.pre B _⟩ rfl hlen B.2.2.size hst (rest4 g2) hd hrm) kk
theorem sc_len (C : CX P M p R s m args meth c) (B : BX P s (m_ml M) H locs ls la h) (hd : decode (m_b M) pc = .ok (.invokevirtual i, 3)) (ho : m_own M' < 23) (hm : mB M') (hs : M' = MJ4_length_8abf5) (hl : nL (m_own M) i (m_y MJ5_length_8abf5)) (he : x_inst M M' pc ls st k h = some r) : SC p l e R s m args below meth c P M pc la ls st k H locs h r := by
  subst hs
  obtain ⟨b, hb, hk, he⟩ := xinst_inv he
  obtain ⟨⟨⟨f1, f2, f3, f4⟩, g1, g2, g3⟩, hr⟩ := xcall_inv he
  have w4 : 1 ≤ m_na MJ4_length_8abf5 := by decide
  have w5 : oc (m_own MJ4_length_8abf5) = 7 := rfl
  refine ⟨MJ4_length_8abf5, _, _, hr, ⟨ho, hm, g3⟩, ⟨f3, f4⟩, fun r' hM Q kk => ?_⟩
  have hrm := C.room (x := m_mc MJ4_length_8abf5) (y := m_ms MJ4_length_8abf5) ⟨f3, f4⟩
  have hrc := C.recv B (own := m_own MJ4_length_8abf5) (by rw [w5]; decide) hk
  rw [w5] at hrc
  have ers := take_recv w4 hb
  rw [ers] at hM
  have hlen : (st.take (m_na MJ4_length_8abf5 - 1)).reverse.length = m_na MJ4_length_8abf5 - 1 := by rw [List.length_reverse, List.length_take, Nat.min_eq_left (by omega)]
  have hst : (F0 m pc la st).stack = ((st.take (m_na MJ4_length_8abf5 - 1)).reverse).reverse ++ .ref b :: st.drop (m_na MJ4_length_8abf5) := by
    have e1 := congrArg List.reverse ers
    rw [List.reverse_reverse, List.reverse_cons] at e1
    show st = _
    rw [← List.singleton_append, ← List.append_assoc, ← e1, List.take_append_drop]
  have hT : GoodIn TB (va_wsO (RN (m_own M)) i SBn (m_y MJ5_length_8abf5).cls (m_y MJ5_length_8abf5) (m_y MJ4_length_8abf5) (WS MJ4_length_8abf5)) := fun w hw => by
    unfold va_wsO at hw
    rcases List.mem_append.mp hw with h | h
    · refine TB_good w ?_
      simp only [List.mem_cons, List.not_mem_nil, or_false] at h
      rcases h with rfl | rfl | rfl | rfl | rfl | rfl
      · exact hl
      · exact ln_w.1.1
      · exact ln_w.1.2.1
      · exact ln_w.1.2.2
      · exact ln_w.2.1
      · exact hm.1.2
    · exact WS_good hm w h
  exact call_fin B (va_runU C.1 hM (va_cwO 0 C.1.2.2.2.2 hT rfl rfl rfl ln_w.2.2 ⟨by decide, by decide, by decide +kernel⟩ (C.rmc ⟨f1, f2⟩)) ⟨PC_blind, hrc, C.pre B _⟩ rfl hlen B.2.2.size hst (rest4 g2) hd hrm) kk
theorem sc_sup (C : CX P M p R s m args meth c) (B : BX P s (m_ml M) H locs ls la h) (hd : decode (m_b M) pc = .ok (.invokespecial i, 3)) (ho : m_own M' < 23) (hm : mB M') (hs : mW M') (hw : m_own M = 19) (hl : nL (m_own M) i (m_y M')) (he : x_inst M M' pc ls st k h = some r) : SC p l e R s m args below meth c P M pc la ls st k H locs h r := by
  obtain ⟨b, hb, hk, he⟩ := xinst_inv he
  obtain ⟨⟨⟨f1, f2, f3, f4⟩, g1, g2, g3⟩, hr⟩ := xcall_inv he
  obtain ⟨⟨w1, w2, w2b⟩, ⟨w3, w4⟩, w6, w5⟩ := hs
  refine ⟨M', _, _, hr, ⟨ho, hm, g3⟩, ⟨f3, f4⟩, fun r' hM Q kk => ?_⟩
  have hrm := C.room (x := m_mc M') (y := m_ms M') ⟨f3, f4⟩
  have hrc := C.recv B (own := m_own M') (by rw [w5]; decide) hk
  rw [w5] at hrc
  have ers := take_recv w4 hb
  rw [ers] at hM
  have hlen : (st.take (m_na M' - 1)).reverse.length = m_na M' - 1 := by rw [List.length_reverse, List.length_take, Nat.min_eq_left (by omega)]
  have hst : (F0 m pc la st).stack = ((st.take (m_na M' - 1)).reverse).reverse ++ .ref b :: st.drop (m_na M') := by
    have e1 := congrArg List.reverse ers
    rw [List.reverse_reverse, List.reverse_cons] at e1
    show st = _
    rw [← List.singleton_append, ← List.append_assoc, ← e1, List.take_append_drop]
  have hT : GoodIn TB (va_wsSU (RN (m_own M)) i (m_y M') (WS M')) := fun w hw' => by
    unfold va_wsSU at hw'
    rcases List.mem_append.mp hw' with h | h
    · refine TB_good w ?_
      simp only [List.mem_cons, List.not_mem_nil, or_false] at h
      rcases h with rfl | rfl | rfl | rfl | rfl
      · exact hl
      · exact w2
      · rw [hw]; exact w2b
      · exact w1
      · exact hm.1.2
    · exact WS_good hm w h
  exact call_fin B (va_runSU (C.2.2.2.1.1.1 7 _ rfl).2 C.1 hM (va_cwSU (m_na M' - 1) C.1.2.2.2.2 hT rfl rfl rfl ⟨w6, w3⟩ (C.rmc ⟨f1, f2⟩)) ⟨PC_blind, hrc, C.pre B _⟩ rfl hlen B.2.2.size hst (rest4 g2) hd hrm) kk
theorem sc_spec (C : CX P M p R s m args meth c) (B : BX P s (m_ml M) H locs ls la h) (hd : decode (m_b M) pc = .ok (.invokespecial i, 3)) (ho : m_own M' < 23) (hm : mB M') (hs : mC M') (hl : nL (m_own M) i (m_y M') ∨ nN (m_own M) i (m_y M')) (he : x_inst M M' pc ls st k h = some r) : SC p l e R s m args below meth c P M pc la ls st k H locs h r := by
  obtain ⟨b, hb, hk, he⟩ := xinst_inv he
  obtain ⟨⟨⟨f1, f2, f3, f4⟩, g1, g2, g3⟩, hr⟩ := xcall_inv he
  obtain ⟨w1, ⟨w3, w4⟩, w5, w6⟩ := hs
  refine ⟨M', _, _, hr, ⟨ho, hm, g3⟩, ⟨f3, f4⟩, fun r' hM Q kk => ?_⟩
  have hrm := C.room (x := m_mc M') (y := m_ms M') ⟨f3, f4⟩
  have ers := take_recv w4 hb
  rw [ers] at hM
  have hlen : (st.take (m_na M' - 1)).reverse.length = m_na M' - 1 := by rw [List.length_reverse, List.length_take, Nat.min_eq_left (by omega)]
  have hst : (F0 m pc la st).stack = ((st.take (m_na M' - 1)).reverse).reverse ++ .ref b :: st.drop (m_na M') := by
    have e1 := congrArg List.reverse ers
    rw [List.reverse_reverse, List.reverse_cons] at e1
    show st = _
    rw [← List.singleton_append, ← List.append_assoc, ← e1, List.take_append_drop]
  rcases hl with hl | ⟨host, hl⟩
  · have h1 := C.cb _ hm w3 hl ⟨f1, f2⟩
    rw [w6] at h1
    exact call_fin B (va_runI C.1 hM ⟨h1, w5, C.tb w1⟩ ⟨PC_blind, C.pre B _⟩ rfl hlen B.2.2.size hst (rest4 g2) hd hrm) kk
  · have h1 := C.cn _ hm w3 hl ⟨f1, f2⟩
    rw [w6] at h1
    exact call_fin B (va_runIN C.1 hM ⟨h1, w5, C.tb w1⟩ ⟨PC_blind, C.pre B _⟩ rfl hlen B.2.2.size hst (rest4 g2) hd hrm) kk
/-! clone of our own rows of bytes -/
theorem sn_checkcast (C : CX P M p R s m args meth c) (B : BX P s (m_ml M) H locs ls la h) (hd : decode (m_b M) pc = .ok (.checkcast i, len)) (he : ex M (.checkcast i) len pc ls st k h = some r) : Sx p l e R s m args below meth c P M pc la st k H locs r := by
  obtain ⟨h9, hE⟩ := ln_inv he; subst h9; replace he := hE; clear hE
  obtain ⟨⟨ho, hi⟩, hE⟩ := it_inv he; replace he := hE; clear hE
  subst hi
  obtain ⟨a, st, hq, hE⟩ := pr_inv he; subst hq; replace he := hE; clear hE
  obtain ⟨hk, hE⟩ := it_inv he; replace he := hE; clear hE
  obtain ⟨-, g⟩ := ar_at B.1 (k := 2) hk rfl
  have hnm : s.vm.findClass "[B" = some (p_tA P 2) := (C.2.2.2.1.1.2 1 _ rfl).2
  have hown := C.1.2.2.2.1
  rw [ho] at hown
  have hP : va_P (p_D P) vwC2 [(a, .inl (p_tA P 2, le h.1 a, .inl (h.2.1 a)))] H := fun k q hq => by
    match k, hq with
    | 0, hq =>
      cases hq
      exact g
    | k + 1, hq => cases hq
  exact Sx.n he fun Q kk => va_castA C.1.1 C.1.2.1 hown (C.tb cc_w.2.2.2) hP 0 rfl hnm hd (kk _ _ _ B)
theorem sn_clone (hk : k.1 ≤ m_mc M ∧ k.2 ≤ m_ms M) (C : CX P M p R s m args meth c) (B : BX P s (m_ml M) H locs ls la h) (hd : decode (m_b M) pc = .ok (.invokevirtual i, 3)) (he : (if m_own M = 20 ∧ i = 310 then p_r st fun a st => if kd h.1 a = 2 ∧ (1 ≤ m_fr M ∧ 22 ≤ m_lo M ∧ st.length ≤ 4) ∧ (k.1 + 1 ≤ m_mc M ∧ k.2 + le h.1 a ≤ m_ms M) then x_n (pc + 3) ls (.ref h.1.1 :: st) (k.1 + 1, k.2 + le h.1 a) (mkc h a) else none else none) = some r) : Sx p l e R s m args below meth c P M pc la st k H locs r := by
  obtain ⟨⟨ho, hi⟩, hE⟩ := it_inv he; replace he := hE; clear hE
  subst hi
  obtain ⟨a, st, hq, hE⟩ := pr_inv he; subst hq; replace he := hE; clear hE
  obtain ⟨⟨ka, ⟨f1, f2, f3⟩, hrm⟩, hE⟩ := it_inv he; replace he := hE; clear hE
  obtain ⟨ba, g⟩ := ar_at B.1 (k := 2) ka rfl
  have hnm : s.vm.findClass "[B" = some (p_tA P 2) := (C.2.2.2.1.1.2 1 _ rfl).2
  have hown := C.1.2.2.2.1
  have hlk := C.tb cc_w.1.1
  rw [ho] at hown
  have hr2 := C.room hrm
  have hfr := C.2.2.1.1
  have hlo := C.2.2.1.2.1
  have h6 := catsum st
  refine Sx.n (hk := fun _ _ => hrm) he fun Q kk => ?_
  intro T hT X
  obtain ⟨c0, t0', y1, y2, y3⟩ := Cond.castable_spec (va_Nw.use (A := args) rfl (C.nw cs_w))
  cases hnm.symm.trans y1
  obtain ⟨-, kA, hkA, comp, hkind⟩ := State.isArrayOf_alike X.warmed.alike (C.arr 2 rfl 0 (fun _ => .null))
  obtain ⟨-, kS, hkS, compS, hkindS⟩ := C.arr 2 rfl 0 (fun _ => .null)
  obtain ⟨vm', X', st1⟩ := X.cloneArray C.1.1 hown hlk (C.tb cc_w.1.2.1) (C.tb cc_w.1.2.2) (C.tb cc_w.2.1) (C.tb cc_w.2.2.1) (a := a) (cell := arrV (p_tA P 2) (le h.1 a) (vK 2 (arow h a))) (by rw [hT]; exact g) (fun k h => by cases h) (fun h => by cases h) hnm y2 y3
    (fun i v hv => by
      have hk' : T.vm.classes[p_tA P 2]? = some kA := hkA
      have hil : i < le h.1 a := by
        have := (Array.getElem?_eq_some_iff.mp hv).1
        rw [arrV_size] at this
        exact this
      rw [arrV_read _ _ hil] at hv
      cases hv
      have hf : fits .byte (vK 2 (arow h a) i) = true := ar_fit B.1 ka i hil
      show T.fitsSlot (p_tA P 2) .none i _ = true
      simpa [State.fitsSlot, State.slotType?, hk', hkind, p_ty] using hf)
    (g := F0 m pc la (.ref a :: st)) rfl (B.2.2.size.trans C.1.2.2.1.symm) rfl (by rw [C.1.2.1]; exact hd) (by omega) (by show 2 * 0 + _ + 14 ≤ _; omega) hr2.1 (by rw [arrV_size]; exact hr2.2) (hloader := Vm.clonesLoader_of_array hkS hkindS)
  rw [arrV_size] at X'
  have z1 : (H.push (arrV (p_tA P 2) (le h.1 a) (vK 2 (arow h a)))).size = H.size + 1 := by rw [Array.size_push]
  have e1 : (H.push (arrV (p_tA P 2) (le h.1 a) (vK 2 (arow h a))))[H.size]? = some (arrV (p_tA P 2) (le h.1 a) (vK 2 (arow h a))) := Array.getElem?_push_size
  have o1 : ∀ q : Nat, q < H.size → (H.push (arrV (p_tA P 2) (le h.1 a) (vK 2 (arow h a))))[q]? = H[q]? := fun q hq => by rw [Array.getElem?_push, if_neg (Nat.ne_of_lt hq)]
  have hB : BX P s (m_ml M) (H.push (arrV (p_tA P 2) (le h.1 a) (vK 2 (arow h a)))) locs ls la (mkc h a) := by
    refine ⟨⟨by rw [z1, B.1.1]; rfl, fun q => ?_, B.1.2.2⟩, ⟨Nat.le_trans B.2.1.1 (by omega), fun x h1 h2 => (o1 x (Nat.lt_of_lt_of_le h1 B.2.1.1)).trans (B.2.1.2.1 x h1 h2), B.2.1.2.2⟩, B.2.2⟩
    by_cases hq : q = h.1.1
    · subst hq
      have e : arow (mkc h a) h.1.1 = ((2, le h.1 a), h.2.1 a, (fun _ => 0), (fun _ => none)) := by simp [arow, mkc, u1]
      rw [e]
      refine ⟨fun _ => ⟨?_, ?_⟩, fun h2 => absurd (show 2 = 7 from h2) (by decide), fun c' hc' hk' => absurd (show 2 = 10 + c' from hk') (by omega), fun h2 => absurd (show 2 = 18 from h2) (by decide), fun h2 => absurd (show 2 = 9 from h2) (by decide), fun h2 => absurd (show 2 = 8 from h2) (by decide), fun _ => ar_fit B.1 ka⟩
      · rw [← B.1.1]
        exact C.bs B
      · rw [← B.1.1]
        exact e1
    · have e : arow (mkc h a) q = arow h q := by simp [arow, mkc, u1, hq]
      rw [e]
      refine (B.1.2.1 q).kept fun _ => ?_
      rcases Nat.lt_or_ge q H.size with hl | hg
      · exact o1 q hl
      · rw [Array.getElem?_eq_none (by rw [z1]; have := B.1.1; omega), Array.getElem?_eq_none (by omega)]
  obtain ⟨t, b1, b2⟩ := kk _ _ _ hB _ (by rw [← hT]; rfl) X'
  refine ⟨t, st1 t ?_, b2⟩
  rw [hT, B.1.1]
  exact b1
theorem sn_invokevirtual (ho : m_own M < 23) (hk : k.1 ≤ m_mc M ∧ k.2 ≤ m_ms M) (C : CX P M p R s m args meth c) (B : BX P s (m_ml M) H locs ls la h) (hd : decode (m_b M) pc = .ok (.invokevirtual i, len)) (he : ex M (.invokevirtual i) len pc ls st k h = some r) : Sx p l e R s m args below meth c P M pc la st k H locs r ∨ SC p l e R s m args below meth c P M pc la ls st k H locs h r := by
  obtain ⟨h9, hE⟩ := ln_inv he; subst h9; replace he := hE; clear hE
  split at he
  · rename_i M' hq
    have hL := lk_ok ho hq
    exact Or.inr (sc_virt C B hd hL.2.2.2 hL.1 hL.2.2.1 (Or.inl hL.2.1) he)
  · rename_i M' hq
    have hL := lk_ok ho hq
    exact Or.inr (sc_virt C B hd hL.2.2.2 hL.1 hL.2.2.1 (Or.inr hL.2.1) he)
  · rename_i M' hq
    have hL := lk_ok ho hq
    exact Or.inr (sc_up C B hd hL.2.2.2 hL.1 hL.2.2.1 hL.2.1 he)
  · rename_i M' hq
    have hL := lk_ok ho hq
    exact Or.inr (sc_len C B hd hL.2.2.2 hL.1 hL.2.2.1 hL.2.1 he)
  · rename_i M' hq
    have hL := lk_ok ho hq
    exact Or.inr (sc_up C B hd hL.2.2.2 hL.1 hL.2.2.1 hL.2.1 he)
  · exact Or.inl (sn_clone hk C B hd he)
  · cases he
theorem sn_invokestatic (ho : m_own M < 23) (hk : k.1 ≤ m_mc M ∧ k.2 ≤ m_ms M) (C : CX P M p R s m args meth c) (B : BX P s (m_ml M) H locs ls la h) (hd : decode (m_b M) pc = .ok (.invokestatic i, len)) (he : ex M (.invokestatic i) len pc ls st k h = some r) : Sx p l e R s m args below meth c P M pc la st k H locs r ∨ SC p l e R s m args below meth c P M pc la ls st k H locs h r := by
  obtain ⟨h9, hE⟩ := ln_inv he; subst h9; replace he := hE; clear hE
  split at he
  · rename_i M' hq
    have hL := lk_ok ho hq
    exact Or.inr (sc_static C B hd hL.2.2.2 hL.1 hL.2.2.1 (Or.inl hL.2.1) he)
  · rename_i M' hq
    exact Or.inl (sn_cpy C B (lk_ok ho hq) hd he)
  · rename_i M' hq
    have hL := lk_ok ho hq
    exact Or.inr (sc_static C B hd hL.2.2.2 hL.1 hL.2.2.1 (Or.inr hL.2.1) he)
  · rename_i M' hq
    obtain ⟨hl, hq⟩ := lk_ok ho hq
    replace hq : M' = MJ9_min_7cf53 := hq
    subst hq
    obtain ⟨x, y, st, hq, hE⟩ := pi2_inv he; subst hq; replace he := hE; clear hE
    obtain ⟨⟨g1, g2, g3⟩, he⟩ := it_inv he
    have h1 := C.2.2.1.1
    have h2 := C.2.2.1.2.1
    have h3 := catsum st
    have h4 := (C.room (k := k) (x := 0) (y := 0) hk)
    exact Or.inl (Sx.n he fun Q kk => va_mmin C.1.1 C.1.2.1 (C.1.2.2.1.trans B.2.2.size.symm) C.1.2.2.2.1 (C.tb (by rw [mmin_w.2.2]; exact hl)) (C.tb mmin_w.1) (C.tb cini_13) (C.tb mmin_w.2.1) (by omega) (by omega) h4.1 h4.2 hd (kk _ _ _ B))
  · rename_i M' hq
    obtain ⟨hl, hq⟩ := lk_ok ho hq
    replace hq : M' = MJ9_max_7cf53 := hq
    subst hq
    obtain ⟨x, y, st, hq, hE⟩ := pi2_inv he; subst hq; replace he := hE; clear hE
    obtain ⟨⟨g1, g2, g3⟩, he⟩ := it_inv he
    have h1 := C.2.2.1.1
    have h2 := C.2.2.1.2.1
    have h3 := catsum st
    have h4 := (C.room (k := k) (x := 0) (y := 0) hk)
    exact Or.inl (Sx.n he fun Q kk => va_mmax C.1.1 C.1.2.1 (C.1.2.2.1.trans B.2.2.size.symm) C.1.2.2.2.1 (C.tb (by rw [mmax_w.2.2]; exact hl)) (C.tb mmax_w.1) (C.tb cini_13) (C.tb mmax_w.2.1) (by omega) (by omega) h4.1 h4.2 hd (kk _ _ _ B))
  · cases he
theorem sn_invokespecial (ho : m_own M < 23) (hk : k.1 ≤ m_mc M ∧ k.2 ≤ m_ms M) (C : CX P M p R s m args meth c) (B : BX P s (m_ml M) H locs ls la h) (hd : decode (m_b M) pc = .ok (.invokespecial i, len)) (he : ex M (.invokespecial i) len pc ls st k h = some r) : Sx p l e R s m args below meth c P M pc la st k H locs r ∨ SC p l e R s m args below meth c P M pc la ls st k H locs h r := by
  obtain ⟨h9, hE⟩ := ln_inv he; subst h9; replace he := hE; clear hE
  split at he
  · rename_i M' hq
    have hL := lk_ok ho hq
    exact Or.inr (sc_spec C B hd hL.2.2.2 hL.1 hL.2.2.1 (Or.inl hL.2.1) he)
  · rename_i M' hq
    have hL := lk_ok ho hq
    exact Or.inr (sc_spec C B hd hL.2.2.2 hL.1 hL.2.2.1 (Or.inr hL.2.1) he)
  · rename_i M' hq
    have hL := lk_ok ho hq
    exact Or.inr (sc_sup C B hd hL.2.2.2 hL.1 hL.2.2.1.1 hL.2.2.1.2 hL.2.1 he)
  · obtain ⟨⟨⟨h1, h2⟩, h3, h4, h5⟩, he⟩ := it_inv he
    obtain ⟨b, st, hq, hE⟩ := pr_inv he; subst hq; replace he := hE; clear hE
    have hl := ob_ok _ ho (by rw [← h1]; exact h2)
    rw [← h1] at hl
    have h6 := catsum st
    have h7 := C.2.2.1.1
    have h8 := C.2.2.1.2.1
    rw [List.length_cons] at h5
    exact Or.inl (Sx.n he fun Q kk => W.objInit C.1.1 C.1.2.1 C.1.2.2.2.1 (C.tb hl) (C.tb obI) (C.tb obC) rfl (B.2.2.size.trans C.1.2.2.1.symm) rfl hd (by omega) (by show 2 * 0 + _ + 12 ≤ _; omega) (kk _ _ _ B))
  · cases he
def RetI (M : MI) (pc : Nat) (st : List Value) (v : Value) : Prop := (∃ x, decode (m_b M) pc = .ok (.ireturn, 1) ∧ st = [.int x] ∧ v = .int x ∧ ∃ t, m_ret M = some t ∧ narrow t (.int x) = .int x) ∨ (decode (m_b M) pc = .ok (.areturn, 1) ∧ st = [v] ∧ (v = .null ∨ ∃ b, v = .ref b) ∧ ((∃ n, m_ret M = some (.object n)) ∨ ∃ n, m_ret M = some (.array n))) ∨ (decode (m_b M) pc = .ok (.return_, 1) ∧ st = [] ∧ m_ret M = none)
theorem sn_ireturn (hd : decode (m_b M) pc = .ok (.ireturn, len)) (he : ex M .ireturn len pc ls st k h = some r) : ∃ v, r = .inr (.inr v) ∧ RetI M pc st v := by
  obtain ⟨h9, hE⟩ := ln_inv he; subst h9; replace he := hE; clear hE
  split at he
  · rename_i x
    split at he
    · rename_i t ht
      obtain ⟨hn, he⟩ := it_inv he
      exact ⟨_, (Option.some.inj he).symm, Or.inl ⟨x, hd, rfl, rfl, t, ht, hn⟩⟩
    · cases he
  · cases he
theorem sn_areturn (hd : decode (m_b M) pc = .ok (.areturn, len)) (he : ex M .areturn len pc ls st k h = some r) : ∃ v, r = .inr (.inr v) ∧ RetI M pc st v := by
  obtain ⟨h9, hE⟩ := ln_inv he; subst h9; replace he := hE; clear hE
  split at he
  · rename_i b
    split at he
    · rename_i n hn
      exact ⟨_, (Option.some.inj he).symm, Or.inr (Or.inl ⟨hd, rfl, Or.inr ⟨b, rfl⟩, Or.inl ⟨n, hn⟩⟩)⟩
    · rename_i n hn
      exact ⟨_, (Option.some.inj he).symm, Or.inr (Or.inl ⟨hd, rfl, Or.inr ⟨b, rfl⟩, Or.inr ⟨n, hn⟩⟩)⟩
    · cases he
  · split at he
    · rename_i n hn
      exact ⟨_, (Option.some.inj he).symm, Or.inr (Or.inl ⟨hd, rfl, Or.inl rfl, Or.inl ⟨n, hn⟩⟩)⟩
    · cases he
  · cases he
theorem sn_return (hd : decode (m_b M) pc = .ok (.return_, len)) (he : ex M .return_ len pc ls st k h = some r) : ∃ v, r = .inr (.inr v) ∧ RetI M pc st v := by
  obtain ⟨h9, hE⟩ := ln_inv he; subst h9; replace he := hE; clear hE
  split at he
  · obtain ⟨hn, he⟩ := it_inv he
    exact ⟨_, (Option.some.inj he).symm, Or.inr (Or.inr ⟨hd, rfl, hn⟩)⟩
  · cases he
theorem ex_sound {i : Instr} (ho : m_own M < 23) (hk : k.1 ≤ m_mc M ∧ k.2 ≤ m_ms M) (C : CX P M p R s m args meth c) (B : BX P s (m_ml M) H locs ls la h) (hd : decode (m_b M) pc = .ok (i, len)) (he : ex M i len pc ls st k h = some r) : Sx p l e R s m args below meth c P M pc la st k H locs r ∨ SC p l e R s m args below meth c P M pc la ls st k H locs h r ∨ ∃ v, r = .inr (.inr v) ∧ RetI M pc st v := by
  cases i with
  | aconst_null => exact Or.inl (sn_aconst_null C B hd he)
  | iconst _ => exact Or.inl (sn_iconst C B hd he)
  | bipush _ => exact Or.inl (sn_bipush C B hd he)
  | sipush _ => exact Or.inl (sn_sipush C B hd he)
  | lconst _ => exact Or.inl (sn_lconst C B hd he)
  | iload_n _ => exact Or.inl (sn_iload_n C B hd he)
  | iload _ => exact Or.inl (sn_iload C B hd he)
  | lload_n _ => exact Or.inl (sn_lload_n C B hd he)
  | lload _ => exact Or.inl (sn_lload C B hd he)
  | aload_n _ => exact Or.inl (sn_aload_n C B hd he)
  | aload _ => exact Or.inl (sn_aload C B hd he)
  | istore_n _ => exact Or.inl (sn_istore_n C B hd he)
  | istore _ => exact Or.inl (sn_istore C B hd he)
  | lstore_n _ => exact Or.inl (sn_lstore_n C B hd he)
  | astore_n _ => exact Or.inl (sn_astore_n C B hd he)
  | lstore _ => exact Or.inl (sn_lstore C B hd he)
  | astore _ => exact Or.inl (sn_astore C B hd he)
  | iinc _ _ => exact Or.inl (sn_iinc C B hd he)
  | iadd => exact Or.inl (sn_iadd C B hd he)
  | isub => exact Or.inl (sn_isub C B hd he)
  | imul => exact Or.inl (sn_imul C B hd he)
  | iand => exact Or.inl (sn_iand C B hd he)
  | ior => exact Or.inl (sn_ior C B hd he)
  | ishl => exact Or.inl (sn_ishl C B hd he)
  | i2c => exact Or.inl (sn_i2c C B hd he)
  | dup_x1 => exact Or.inl (sn_dup_x1 C B hd he)
  | getstatic _ => exact Or.inl (sn_getstatic ho C B hd he)
  | checkcast _ => exact Or.inl (sn_checkcast C B hd he)
  | ladd => exact Or.inl (sn_ladd C B hd he)
  | lsub => exact Or.inl (sn_lsub C B hd he)
  | lmul => exact Or.inl (sn_lmul C B hd he)
  | idiv => exact Or.inl (sn_idiv C B hd he)
  | irem => exact Or.inl (sn_irem C B hd he)
  | ldiv => exact Or.inl (sn_ldiv C B hd he)
  | lrem => exact Or.inl (sn_lrem C B hd he)
  | ishr => exact Or.inl (sn_ishr C B hd he)
  | iushr => exact Or.inl (sn_iushr C B hd he)
  | ineg => exact Or.inl (sn_ineg C B hd he)
  | i2l => exact Or.inl (sn_i2l C B hd he)
  | i2b => exact Or.inl (sn_i2b C B hd he)
  | l2i => exact Or.inl (sn_l2i C B hd he)
  | lcmp => exact Or.inl (sn_lcmp C B hd he)
  | ifCond _ _ => exact Or.inl (sn_ifCond C B hd he)
  | if_icmp _ _ => exact Or.inl (sn_if_icmp C B hd he)
  | ifnull _ => exact Or.inl (sn_ifnull C B hd he)
  | ifnonnull _ => exact Or.inl (sn_ifnonnull C B hd he)
  | goto _ => exact Or.inl (sn_goto C B hd he)
  | tableswitch _ _ _ _ => exact Or.inl (sn_tableswitch C B hd he)
  | lookupswitch _ _ => exact Or.inl (sn_lookupswitch C B hd he)
  | dup => exact Or.inl (sn_dup C B hd he)
  | pop => exact Or.inl (sn_pop C B hd he)
  | dup2 => exact Or.inl (sn_dup2 C B hd he)
  | ldc _ => exact Or.inl (sn_ldc ho C B hd he)
  | getfield _ => exact Or.inl (sn_getfield ho C B hd he)
  | putfield _ => exact Or.inl (sn_putfield ho C B hd he)
  | arraylength => exact Or.inl (sn_arraylength C B hd he)
  | iaload => exact Or.inl (sn_iaload C B hd he)
  | baload => exact Or.inl (sn_baload C B hd he)
  | aaload => exact Or.inl (sn_aaload C B hd he)
  | iastore => exact Or.inl (sn_iastore C B hd he)
  | bastore => exact Or.inl (sn_bastore C B hd he)
  | aastore => exact Or.inl (sn_aastore C B hd he)
  | newarray _ => exact Or.inl (sn_newarray C B hd he)
  | anewarray _ => exact Or.inl (sn_anewarray ho C B hd he)
  | new _ => exact Or.inl (sn_new ho C B hd he)
  | invokevirtual _ => exact (sn_invokevirtual ho hk C B hd he).elim Or.inl fun q => Or.inr (Or.inl q)
  | invokestatic _ => exact (sn_invokestatic ho hk C B hd he).elim Or.inl fun q => Or.inr (Or.inl q)
  | invokespecial _ => exact (sn_invokespecial ho hk C B hd he).elim Or.inl fun q => Or.inr (Or.inl q)
  | ireturn => exact Or.inr (Or.inr (sn_ireturn hd he))
  | areturn => exact Or.inr (Or.inr (sn_areturn hd he))
  | return_ => exact Or.inr (Or.inr (sn_return hd he))
  | _ => exact absurd he (by simp [ex])
def EndAt (p : Program) (l : Launch) (e : Env) (R : Room) (s : State) (m : MethodId) (args : Array Value) (below : List Frame) (meth : Method) (c : Code) (P : SP) (M : MI) (Qf : State → Prop) (r : AH × Value) : Prop :=
  ∀ (pc : Nat) (la : Array Slot) (st : List Value) (H' : Heap) (locs' : List Loc), RetI M pc st r.2 → HR P r.1 H' → va_S (p_A P) s.heap H' locs' → W p l e R s m args below meth c H' locs' (m_mc M) (m_ms M) Qf (F0 m pc la st)
theorem end_std {r : AH × Value} (C : CX P M p R s m args meth c) : EndAt p l e R s m args below meth c P M (MQ below (QC P M r) args s (m_mc M) (m_ms M) (p_A P)) r := by
  intro pc la st H' locs' hR hh hS
  rcases hR with ⟨x, hd, rfl, hv, t, ht, hn⟩ | ⟨hd, rfl, hv, ⟨n, ht⟩ | ⟨n, ht⟩⟩ | ⟨hd, rfl, ht⟩
  · exact W.zret C.1.1 C.1.2.1 (C.2.1.2.1.trans ht) hn (fun t' h' _ => ⟨by unfold rv; rw [ht, hv]; rfl, by rw [h']; exact hh, hS.F h'⟩) hS.2.2 hd C.2.1.2.2
  · exact W.aret C.1.1 C.1.2.1 (C.2.1.2.1.trans ht) (Or.inl ⟨n, rfl⟩) hv (fun t' h' _ => ⟨by unfold rv; rw [ht]; rfl, by rw [h']; exact hh, hS.F h'⟩) hS.2.2 hd C.2.1.2.2
  · exact W.aret C.1.1 C.1.2.1 (C.2.1.2.1.trans ht) (Or.inr ⟨n, rfl⟩) hv (fun t' h' _ => ⟨by unfold rv; rw [ht]; rfl, by rw [h']; exact hh, hS.F h'⟩) hS.2.2 hd C.2.1.2.2
  · exact W.vret C.1.1 C.1.2.1 (C.2.1.2.1.trans ht) (fun t' h' _ => ⟨by unfold rv; rw [ht]; rfl, by rw [h']; exact hh, hS.F h'⟩) hS.2.2 hd C.2.1.2.2
end SN
theorem body (P : SP) (l : Launch) : ∀ (n : Nat) (M : MI) (pc : Nat) (ls st : List Value) (k : Nat × Nat) (h : AH) (r : AH × Value), run n M pc ls st k h = some r → m_own M < 23 → k.1 ≤ m_mc M → k.2 ≤ m_ms M →
    ∀ (p : Program) (e : Env) (R : Room) (s : State) (m : MethodId) (args : Array Value) (below : List Frame) (meth : Method) (c : Code) (H : Heap) (locs : List Loc) (la : Array Slot) (Qf : State → Prop), CX P M p R s m args meth c → BX P s (m_ml M) H locs ls la h → EndAt p l e R s m args below meth c P M Qf r → W p l e R s m args below meth c H locs k.1 k.2 Qf (F0 m pc la st) := by
  intro n
  induction n with
  | zero => intro M pc ls st k h r hr; cases hr
  | succ n ih =>
    intro M pc ls st k h r hr ho k1 k2 p e R s m args below meth c H locs la Qf C B hE
    rw [run] at hr
    cases hs : stp M pc ls st k h with
    | none => rw [hs] at hr; cases hr
    | some q =>
      rw [hs] at hr
      unfold stp at hs
      split at hs
      · rename_i i len hd
        rcases ex_sound (below := below) (l := l) (e := e) ho ⟨k1, k2⟩ C B hd hs with ⟨pc', ls', st', k', h', e1, e2, kk⟩ | ⟨M', as, st', e1, ⟨o', m', l'⟩, ⟨g1, g2⟩, kk⟩ | ⟨v, e1, hR⟩
        · subst e1
          exact kk _ fun la' H' locs' B' => ih _ _ _ _ _ _ _ hr ho (e2 k1 k2).1 (e2 k1 k2).2 p e R s m args below meth c H' locs' la' Qf C B' hE
        · subst e1
          dsimp only at hr
          cases h1 : run n M' 0 (loc M' as) [] (0, 0) h with
          | none => rw [h1] at hr; cases hr
          | some q =>
            rw [h1] at hr
            have ct : CT P l M' as h q := by
              refine Met.ofW (cc := m_b M') (maxL := m_ml M') (ret := m_ret M') m'.2.2.1 rfl ?_
              intro p e s m args below meth c s₁ B hml hv
              obtain ⟨rfl, hh, hK⟩ := hv
              have hts := atoms_spec (ws := WS M') B.pre
              have hown : s.vm.findClass (m_y M').cls = some m.cls := findClass_of_methodNamed B.named
              rw [m'.2.2.2] at hown
              rw [lg_entry_eq]
              have C' : CX P M' p (RM M') s m as.toArray meth c := ⟨⟨B.exec, B.bytes, hml, hown, fun w hw => hts w (List.mem_cons_of_mem _ hw)⟩, ⟨(name_of_methodNamed B.named B.method).1, B.returns, B.notSynchronized⟩, ⟨Nat.le_refl _, Nat.le_refl _, Nat.le_refl _, Nat.le_refl _⟩, hK⟩
              exact ih M' 0 _ _ (0, 0) h q h1 o' (Nat.zero_le _) (Nat.zero_le _) p e (RM M') s m as.toArray below meth c s.heap [] _ _ C' ⟨hh, va_S.rf, LR_entry M' as l'⟩ (end_std C')
            exact kk q ct Qf fun H' locs' B' => ih _ _ _ _ _ _ _ hr ho g1 g2 p e R s m args below meth c H' locs' la Qf C B' hE
        · subst e1
          cases hr
          exact W.widen k1 k2 (hE pc la st H locs hR B.1 B.2.1)
      · cases hs
