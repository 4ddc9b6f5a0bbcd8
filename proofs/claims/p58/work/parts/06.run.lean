def x_inst (M M' : MI) (pc : Nat) (ls st : List Value) (k : Nat × Nat) (h : AH) : SR :=
  match st[m_na M' - 1]? with
  | some (.ref b) => if rk (m_own M') (kd h.1 b) = true then x_call M M' pc ls st k else none
  | _ => none
/-- room for a call of a library method -/
abbrev x_rm (M M' : MI) (st : List Value) : Prop := m_fr M' + 1 ≤ m_fr M ∧ 19 + m_ml M' + m_lo M' ≤ m_lo M ∧ st.length ≤ 3
/-- System.arraycopy -/
def x_cpy (M : MI) (pc : Nat) (ls st : List Value) (k : Nat × Nat) (h : AH) : SR := match st with
  | .int n :: .int dp :: .ref b :: .int sp :: .ref a :: st => if (((kd h.1 a = 2 ∨ kd h.1 a = 9) ∧ kd h.1 b = 2) ∧ (¬ n < 0 ∧ ¬ sp < 0 ∧ ¬ dp < 0) ∧ sp.toNatClampNeg + n.toNatClampNeg ≤ le h.1 a ∧ dp.toNatClampNeg + n.toNatClampNeg ≤ le h.1 b) ∧ 1 ≤ m_fr M ∧ 30 ≤ m_lo M ∧ st.length ≤ 4 then x_n (pc + 3) ls st k (h.1, u1 h.2.1 b (cpy (h.2.1 a) (h.2.1 b) sp.toNatClampNeg dp.toNatClampNeg n.toNatClampNeg), h.2.2.1, h.2.2.2) else none
  | _ => none
/-- one instruction -/
def ex (M : MI) (i : Instr) (len pc : Nat) (ls st : List Value) (k : Nat × Nat) (h : AH) : SR := match i with
  | .aconst_null => ln len 1 (x_n (pc + 1) ls (.null :: st) k h)
  | .iconst n => ln len 1 (x_n (pc + 1) ls (.int (Int32.ofInt n) :: st) k h)
  | .bipush n => ln len 2 (x_n (pc + 2) ls (.int (Int8.ofInt n).toInt32 :: st) k h)
  | .sipush n => ln len 3 (x_n (pc + 3) ls (.int (Int16.ofInt n).toInt32 :: st) k h)
  | .lconst n => ln len 1 (x_n (pc + 1) ls (.long (Int64.ofNat (n : Nat)) :: st) k h)
  | .ldc i => ln len 2 (match ki (m_own M) i with
    | some v => x_n (pc + 2) ls (.int v :: st) k h
    | none => if m_own M = 5 ∧ i ∈ stT then x_n (pc + 2) ls (.ref (h.1.2.2 i) :: st) k h else if m_own M = 11 ∧ i ∈ stT2.take 8 then x_n (pc + 2) ls (.ref (h.1.2.2 (1000 + i)) :: st) k h else none)
  | .iload_n j => ln len 1 (g_i ls j fun x => x_n (pc + 1) ls (.int x :: st) k h)
  | .iload j => ln len 2 (g_i ls j fun x => x_n (pc + 2) ls (.int x :: st) k h)
  | .lload_n j => ln len 1 (g_l ls j fun x => x_n (pc + 1) ls (.long x :: st) k h)
  | .lload j => ln len 2 (g_l ls j fun x => x_n (pc + 2) ls (.long x :: st) k h)
  | .aload_n j => ln len 1 (g_r ls j fun x => x_n (pc + 1) ls (x :: st) k h)
  | .aload j => ln len 2 (g_r ls j fun x => x_n (pc + 2) ls (x :: st) k h)
  | .istore_n j => ln len 1 (p_i st fun x st => s_1 ls j (.int x) fun ls => x_n (pc + 1) ls st k h)
  | .istore j => ln len 2 (p_i st fun x st => s_1 ls j (.int x) fun ls => x_n (pc + 2) ls st k h)
  | .lstore_n j => ln len 1 (p_l st fun x st => s_2 ls j (.long x) fun ls => x_n (pc + 1) ls st k h)
  | .lstore j => ln len 2 (p_l st fun x st => s_2 ls j (.long x) fun ls => x_n (pc + 2) ls st k h)
  | .astore_n j => ln len 1 (p_v st fun v st => match v with
    | .ref x => s_1 ls j (.ref x) fun ls => x_n (pc + 1) ls st k h
    | .null => s_1 ls j .null fun ls => x_n (pc + 1) ls st k h
    | _ => none)
  | .astore j => ln len 2 (p_v st fun v st => match v with
    | .ref x => s_1 ls j (.ref x) fun ls => x_n (pc + 2) ls st k h
    | .null => s_1 ls j .null fun ls => x_n (pc + 2) ls st k h
    | _ => none)
  | .iinc j n => ln len 3 (g_i ls j fun x => s_1 ls j (.int (x + Int32.ofInt n)) fun ls => x_n (pc + 3) ls st k h)
  | .iadd => ln len 1 (p_i2 st fun x y st => x_n (pc + 1) ls (.int (x + y) :: st) k h)
  | .isub => ln len 1 (p_i2 st fun x y st => x_n (pc + 1) ls (.int (x - y) :: st) k h)
  | .imul => ln len 1 (p_i2 st fun x y st => x_n (pc + 1) ls (.int (x * y) :: st) k h)
  | .iand => ln len 1 (p_i2 st fun x y st => x_n (pc + 1) ls (.int (x &&& y) :: st) k h)
  | .ior => ln len 1 (p_i2 st fun x y st => x_n (pc + 1) ls (.int (x ||| y) :: st) k h)
  | .ishl => ln len 1 (p_i2 st fun x y st => x_n (pc + 1) ls (.int (x <<< (y &&& 31)) :: st) k h)
  | .i2c => ln len 1 (p_i st fun x st => x_n (pc + 1) ls (.int (x.toUInt32 % 65536).toInt32 :: st) k h)
  | .idiv => ln len 1 (p_i2 st fun x y st => if y = 0 then none else x_n (pc + 1) ls (.int (x / y) :: st) k h)
  | .irem => ln len 1 (p_i2 st fun x y st => if y = 0 then none else x_n (pc + 1) ls (.int (x - x / y * y) :: st) k h)
  | .ishr => ln len 1 (p_i2 st fun x y st => x_n (pc + 1) ls (.int (x >>> (y &&& 31)) :: st) k h)
  | .iushr => ln len 1 (p_i2 st fun x y st => x_n (pc + 1) ls (.int (x.toUInt32 >>> (y.toUInt32 &&& Int32.toUInt32 31)).toInt32 :: st) k h)
  | .ineg => ln len 1 (p_i st fun x st => x_n (pc + 1) ls (.int (-x) :: st) k h)
  | .i2l => ln len 1 (p_i st fun x st => x_n (pc + 1) ls (.long x.toInt64 :: st) k h)
  | .i2b => ln len 1 (p_i st fun x st => x_n (pc + 1) ls (.int x.toInt8.toInt32 :: st) k h)
  | .l2i => ln len 1 (p_l st fun x st => x_n (pc + 1) ls (.int x.toInt32 :: st) k h)
  | .ladd => ln len 1 (p_l2 st fun x y st => x_n (pc + 1) ls (.long (x + y) :: st) k h)
  | .lsub => ln len 1 (p_l2 st fun x y st => x_n (pc + 1) ls (.long (x - y) :: st) k h)
  | .lmul => ln len 1 (p_l2 st fun x y st => x_n (pc + 1) ls (.long (x * y) :: st) k h)
  | .ldiv => ln len 1 (p_l2 st fun x y st => if y = 0 then none else x_n (pc + 1) ls (.long (x / y) :: st) k h)
  | .lrem => ln len 1 (p_l2 st fun x y st => if y = 0 then none else x_n (pc + 1) ls (.long (x - x / y * y) :: st) k h)
  | .lcmp => ln len 1 (p_l2 st fun x y st => x_n (pc + 1) ls (.int (if x < y then -1 else if x = y then 0 else 1) :: st) k h)
  | .ifCond c off => ln len 3 (p_i st fun x st => tg pc off fun t => match c with
    | .eq => if x = 0 then x_n t ls st k h else x_n (pc + 3) ls st k h
    | .ne => if x = 0 then x_n (pc + 3) ls st k h else x_n t ls st k h
    | .lt => if x < 0 then x_n t ls st k h else x_n (pc + 3) ls st k h
    | .ge => if x < 0 then x_n (pc + 3) ls st k h else x_n t ls st k h
    | .gt => if x ≤ 0 then x_n (pc + 3) ls st k h else x_n t ls st k h
    | .le => if x ≤ 0 then x_n t ls st k h else x_n (pc + 3) ls st k h)
  | .if_icmp c off => ln len 3 (p_i2 st fun x y st => tg pc off fun t => match c with
    | .eq => if x = y then x_n t ls st k h else x_n (pc + 3) ls st k h
    | .ne => if x = y then x_n (pc + 3) ls st k h else x_n t ls st k h
    | .lt => if x < y then x_n t ls st k h else x_n (pc + 3) ls st k h
    | .ge => if x < y then x_n (pc + 3) ls st k h else x_n t ls st k h
    | .gt => if x ≤ y then x_n (pc + 3) ls st k h else x_n t ls st k h
    | .le => if x ≤ y then x_n t ls st k h else x_n (pc + 3) ls st k h)
  | .ifnull off => ln len 3 (p_v st fun v st => tg pc off fun t => match v with
    | .null => x_n t ls st k h
    | .ref _ => x_n (pc + 3) ls st k h
    | _ => none)
  | .ifnonnull off => ln len 3 (p_v st fun v st => tg pc off fun t => match v with
    | .null => x_n (pc + 3) ls st k h
    | .ref _ => x_n t ls st k h
    | _ => none)
  | .goto off => ln len 3 (tg pc off fun t => x_n t ls st k h)
  | .tableswitch d lo hi offs => p_i st fun x st => if x.toInt < lo ∨ hi < x.toInt then tg pc d fun t => x_n t ls st k h else
      match offs[(x.toInt - lo).toNat]? with
      | some off => tg pc off fun t => x_n t ls st k h
      | none => none
  | .lookupswitch d ps => p_i st fun x st => if (ps.toList.zip (ps.toList.drop 1)).all (fun (a, next) => a.1 < next.1) = true then tg pc (Op.lookupswitch.offset ps.toList d x.toInt) fun t => x_n t ls st k h else none
  | .dup => ln len 1 (p_v st fun v st => if c2 v = true then none else x_n (pc + 1) ls (v :: v :: st) k h)
  | .pop => ln len 1 (p_v st fun v st => if c2 v = true then none else x_n (pc + 1) ls st k h)
  | .dup2 => ln len 1 (p_v st fun v st => p_v st fun w st => if c2 v = true ∨ c2 w = true then none else x_n (pc + 1) ls (v :: w :: v :: w :: st) k h)
  | .dup_x1 => ln len 1 (p_v st fun v st => p_v st fun w st => if c2 v = true ∨ c2 w = true then none else x_n (pc + 1) ls (v :: w :: v :: st) k h)
  | .getstatic i => ln len 3 (match sg (m_own M) i with
    | some 1 => x_n (pc + 3) ls (.int 1 :: st) k h
    | some 4 => x_n (pc + 3) ls (sio h.1 :: st) k h
    | some 11 => x_n (pc + 3) ls (.ref (h.1.2.2 2001) :: st) k h
    | some 12 => x_n (pc + 3) ls (.ref (h.1.2.2 2002) :: st) k h
    | some 13 => x_n (pc + 3) ls (.ref (h.1.2.2 2003) :: st) k h
    | _ => none)
  | .checkcast i => ln len 3 (if m_own M = 20 ∧ i = 311 then p_r st fun a st => if kd h.1 a = 2 then x_n (pc + 3) ls (.ref a :: st) k h else none else none)
  | .getfield i => ln len 3 (match fl (m_own M) i with
    | some (c, f) => p_r st fun a st => if kd h.1 a = 10 + c ∨ c = 6 ∧ kd h.1 a = 18 ∧ f < 2 then x_n (pc + 3) ls (fv c f h a :: st) k h else none
    | none => none)
  | .putfield i => ln len 3 (match fl (m_own M) i with
    | some (c, f) => p_v st fun v st => p_r st fun a st => if kd h.1 a = 10 + c ∧ ((TO c f).2.2.2 = false ∨ (m_y M).name = "<init>" ∧ (TO c f).1 = RN (m_own M)) then fw c f a v h fun h => x_n (pc + 3) ls st k h else none
    | none => none)
  | .arraylength => ln len 1 (p_r st fun a st => if (1 ≤ kd h.1 a ∧ kd h.1 a ≤ 9) ∧ kd h.1 a ≠ 3 ∧ kd h.1 a ≠ 4 then x_n (pc + 1) ls (.int (nI (le h.1 a)) :: st) k h else none)
  | .iaload => ln len 1 (p_ir st fun a i st => if (kd h.1 a = 1 ∨ kd h.1 a = 7) ∧ inr i (le h.1 a) = true then x_n (pc + 1) ls (.int (h.2.1 a i.toNatClampNeg) :: st) k h else none)
  | .iastore => ln len 1 (p_i st fun x st => p_ir st fun a i st => if kd h.1 a = 1 ∧ inr i (le h.1 a) = true then x_n (pc + 1) ls st k (h.1, u2 h.2.1 a i.toNatClampNeg x, h.2.2.1, h.2.2.2) else none)
  | .baload => ln len 1 (p_ir st fun a i st => if (kd h.1 a = 2 ∨ kd h.1 a = 9) ∧ inr i (le h.1 a) = true then x_n (pc + 1) ls (.int (h.2.1 a i.toNatClampNeg) :: st) k h else none)
  | .bastore => ln len 1 (p_i st fun x st => p_ir st fun a i st => if inr i (le h.1 a) = true then
      (if kd h.1 a = 2 then x_n (pc + 1) ls st k (h.1, u2 h.2.1 a i.toNatClampNeg (vp_nar .byte x), h.2.2.1, h.2.2.2) else none) else none)
  | .aaload => ln len 1 (p_ir st fun a i st => if (kd h.1 a = 5 ∨ kd h.1 a = 6 ∨ kd h.1 a = 8) ∧ inr i (le h.1 a) = true then x_n (pc + 1) ls (va_rf (h.2.2.2 a i.toNatClampNeg) :: st) k h else none)
  | .aastore => ln len 1 (p_r st fun b st => p_ir st fun a i st => if (kd h.1 a = 5 ∧ kd h.1 b = 14 ∨ kd h.1 a = 6 ∧ kd h.1 b = 10) ∧ inr i (le h.1 a) = true then x_n (pc + 1) ls st k (h.1, h.2.1, h.2.2.1, u2 h.2.2.2 a i.toNatClampNeg (some b)) else none)
  | .newarray t => ln len 2 (p_i st fun n st => if 1 ≤ akd t ∧ ¬ n < 0 ∧ n.toNatClampNeg ≤ 60000 then x_mk M (pc + 2) ls st k h (akd t, n.toNatClampNeg) else none)
  | .anewarray i => ln len 3 (match cl (m_own M) i with
    | some c => p_i st fun n st => if (c = 4 ∨ c = 0) ∧ ¬ n < 0 ∧ n.toNatClampNeg ≤ 60000 then x_mk M (pc + 3) ls st k h (if c = 4 then 5 else 6, n.toNatClampNeg) else none
    | none => none)
  | .new i => ln len 3 (match cl (m_own M) i with
    | some c => x_mk M (pc + 3) ls st k h (10 + c, NO c)
    | none => none)
  | .ireturn => ln len 1 (match st with
    | [.int v] => match m_ret M with
      | some t => if narrow t (.int v) = .int v then x_r (.int v) else none
      | none => none
    | _ => none)
  | .areturn => ln len 1 (match st with
    | [.ref b] => match m_ret M with
      | some (.object _) => x_r (.ref b)
      | some (.array _) => x_r (.ref b)
      | _ => none
    | [.null] => match m_ret M with
      | some (.object _) => x_r .null
      | _ => none
    | _ => none)
  | .return_ => ln len 1 (match st with
    | [] => if m_ret M = none then x_r .null else none
    | _ => none)
  | .invokevirtual i => ln len 3 (match lk (m_own M) i with
    | some (0, M') => x_inst M M' pc ls st k h
    | some (6, M') => x_inst M M' pc ls st k h
    | some (11, M') => x_inst M M' pc ls st k h
    | some (12, M') => x_inst M M' pc ls st k h
    | some (13, M') => x_inst M M' pc ls st k h
    | none => if m_own M = 20 ∧ i = 310 then p_r st fun a st => if kd h.1 a = 2 ∧ (1 ≤ m_fr M ∧ 22 ≤ m_lo M ∧ st.length ≤ 4) ∧ (k.1 + 1 ≤ m_mc M ∧ k.2 + le h.1 a ≤ m_ms M) then x_n (pc + 3) ls (.ref h.1.1 :: st) (k.1 + 1, k.2 + le h.1 a) (mkc h a) else none else none
    | _ => none)
  | .invokestatic i => ln len 3 (match lk (m_own M) i with
    | some (1, M') => x_call M M' pc ls st k
    | some (14, _) => x_cpy M pc ls st k h
    | some (2, M') => x_call M M' pc ls st k
    | some (9, _) => p_i2 st fun x y st => if 1 ≤ m_fr M ∧ 21 ≤ m_lo M ∧ st.length ≤ 4 then x_n (pc + 3) ls (.int (if y < x then y else x) :: st) k h else none
    | some (10, _) => p_i2 st fun x y st => if 1 ≤ m_fr M ∧ 21 ≤ m_lo M ∧ st.length ≤ 4 then x_n (pc + 3) ls (.int (if x < y then y else x) :: st) k h else none
    | _ => none)
  | .invokespecial i => ln len 3 (match lk (m_own M) i with
    | some (3, M') => x_inst M M' pc ls st k h
    | some (4, M') => x_inst M M' pc ls st k h
    | some (15, M') => x_inst M M' pc ls st k h
    | none => if (i = ob (m_own M) ∧ i ≠ 0) ∧ 1 ≤ m_fr M ∧ 20 ≤ m_lo M ∧ st.length ≤ 5 then p_r st fun _ st => x_n (pc + 3) ls st k h else none
    | _ => none)
  | _ => none
def stp (M : MI) (pc : Nat) (ls st : List Value) (k : Nat × Nat) (h : AH) : SR := match decode (m_b M) pc with
  | .ok (i, len) => ex M i len pc ls st k h
  | .error _ => none
def run : Nat → MI → Nat → List Value → List Value → Nat × Nat → AH → Option (AH × Value)
  | 0, _, _, _, _, _, _ => none
  | n + 1, M, pc, ls, st, k, h => match stp M pc ls st k h with
    | none => none
    | some (.inl (pc', ls', st', k', h')) => run n M pc' ls' st' k' h'
    | some (.inr (.inl (M', as, pc', ls', st', pu))) => match run n M' 0 (loc M' as) [] (0, 0) h with
      | none => none
      | some (h', v) => run n M pc' ls' (if pu then v :: st' else st') (k.1 + m_mc M', k.2 + m_ms M') h'
    | some (.inr (.inr v)) => some (h, v)
def RK (M : MI) (pc : Nat) (ls st : List Value) (k : Nat × Nat) (h : AH) (Q : AH → Value → Prop) : Prop := ∃ (n : Nat) (r : AH × Value), run n M pc ls st k h = some r ∧ Q r.1 r.2
theorem run_mono : ∀ (n : Nat) (M : MI) (pc : Nat) (ls st : List Value) (k : Nat × Nat) (h : AH) (r : AH × Value), run n M pc ls st k h = some r → run (n + 1) M pc ls st k h = some r := by
  intro n
  induction n with
  | zero => intro M pc ls st k h r e; cases e
  | succ n ih =>
    intro M pc ls st k h r e
    rw [run] at e ⊢
    cases hs : stp M pc ls st k h with
    | none => rw [hs] at e; cases e
    | some q =>
      rw [hs] at e
      rcases q with ⟨pc', ls', st', k', h'⟩ | ⟨M', as, pc', ls', st', pu⟩ | v
      · exact ih _ _ _ _ _ _ _ e
      · dsimp only at e ⊢
        cases hr : run n M' 0 (loc M' as) [] (0, 0) h with
        | none => rw [hr] at e; cases e
        | some q =>
          rw [hr] at e
          rw [ih _ _ _ _ _ _ _ hr]
          exact ih _ _ _ _ _ _ _ e
      · exact e
theorem run_le {n m : Nat} (hnm : n ≤ m) {M : MI} {pc : Nat} {ls st : List Value} {k : Nat × Nat} {h : AH} {r : AH × Value} (e : run n M pc ls st k h = some r) : run m M pc ls st k h = some r := by
  induction hnm with
  | refl => exact e
  | step _ ih => exact run_mono _ _ _ _ _ _ _ _ ih
theorem stp_of {M : MI} {pc len : Nat} {i : Instr} {b : ByteArray} (d : decode b pc = .ok (i, len)) (hb : m_b M = b) (ls st : List Value) (k : Nat × Nat) (h : AH) : stp M pc ls st k h = ex M i len pc ls st k h := by
  subst hb
  rw [stp, d]
section RKL
variable {M M' : MI} {pc pc' : Nat} {ls ls' st st' as : List Value} {k k' : Nat × Nat} {h h' : AH} {pu : Bool} {v : Value} {Q : AH → Value → Prop}
theorem RK_s (e : stp M pc ls st k h = some (.inl (pc', ls', st', k', h'))) : RK M pc ls st k h Q = RK M pc' ls' st' k' h' Q := by
  apply propext
  constructor
  · rintro ⟨n, r, hr, hq⟩
    cases n with
    | zero => cases hr
    | succ n =>
      rw [run, e] at hr
      exact ⟨n, r, hr, hq⟩
  · rintro ⟨n, r, hr, hq⟩
    refine ⟨n + 1, r, ?_, hq⟩
    rw [run, e]
    exact hr
theorem RK_r (e : stp M pc ls st k h = some (.inr (.inr v))) : RK M pc ls st k h Q = Q h v := by
  apply propext
  constructor
  · rintro ⟨n, r, hr, hq⟩
    cases n with
    | zero => cases hr
    | succ n =>
      rw [run, e] at hr
      cases hr
      exact hq
  · intro hq
    exact ⟨1, (h, v), by rw [run, e], hq⟩
theorem RK_c (e : stp M pc ls st k h = some (.inr (.inl (M', as, pc', ls', st', pu)))) : RK M pc ls st k h Q = RK M' 0 (loc M' as) [] (0, 0) h (fun h1 v => RK M pc' ls' (if pu then v :: st' else st') (k.1 + m_mc M', k.2 + m_ms M') h1 Q) := by
  apply propext
  constructor
  · rintro ⟨n, r, hr, hq⟩
    cases n with
    | zero => cases hr
    | succ n =>
      rw [run, e] at hr
      dsimp only at hr
      cases h1 : run n M' 0 (loc M' as) [] (0, 0) h with
      | none => rw [h1] at hr; cases hr
      | some q =>
        rw [h1] at hr
        exact ⟨n, q, h1, n, r, hr, hq⟩
  · rintro ⟨n, q, h1, m, r, hr, hq⟩
    refine ⟨max n m + 1, r, ?_, hq⟩
    rw [run, e]
    dsimp only
    rw [run_le (Nat.le_max_left n m) h1]
    exact run_le (Nat.le_max_right n m) hr
theorem RK_i {c : Prop} [Decidable c] {p1 p2 : Nat} {l1 l2 s1 s2 : List Value} {k1 k2 : Nat × Nat} {h1 h2 : AH} (e : stp M pc ls st k h = if c then x_n p1 l1 s1 k1 h1 else x_n p2 l2 s2 k2 h2) : RK M pc ls st k h Q = if c then RK M p1 l1 s1 k1 h1 Q else RK M p2 l2 s2 k2 h2 Q := by
  by_cases hc : c
  · rw [if_pos hc] at e ⊢
    exact RK_s e
  · rw [if_neg hc] at e ⊢
    exact RK_s e
theorem RK_n (e : stp M pc ls st k h = x_n pc' ls' st' k' h') : RK M pc ls st k h Q = RK M pc' ls' st' k' h' Q := RK_s e
theorem RK_ki {x y : Int32} (hv : x = y) (e : stp M pc ls st k h = x_n pc' ls (.int x :: st') k h) : RK M pc ls st k h Q = RK M pc' ls (.int y :: st') k h Q := by
  subst hv
  exact RK_s e
theorem RK_kl {x y : Int64} (hv : x = y) (e : stp M pc ls st k h = x_n pc' ls (.long x :: st') k h) : RK M pc ls st k h Q = RK M pc' ls (.long y :: st') k h Q := by
  subst hv
  exact RK_s e
theorem RK_kc {x y : Int32} (hv : x = y) {f : Int32 → List Value} (e : stp M pc ls st k h = x_n pc' (f x) st' k h) : RK M pc ls st k h Q = RK M pc' (f y) st' k h Q := by
  subst hv
  exact RK_s e
end RKL
theorem tg_ok {pc t : Nat} {off : Int} {f : Nat → SR} (h : (pc : Int) + off = (t : Int)) : tg pc off f = f t := by
  unfold tg
  rw [h, if_pos (Int.natCast_nonneg t), Int.toNat_natCast]
theorem s_1_ok {ls : List Value} {j : Nat} {v : Value} {f : List Value → SR} (h1 : j < ls.length) (h2 : okp ls j = true) : s_1 ls j v f = f (ls.set j v) := if_pos ⟨h1, h2⟩
theorem s_2_ok {ls : List Value} {j : Nat} {v : Value} {f : List Value → SR} (h1 : j + 1 < ls.length) (h2 : okp ls j = true) : s_2 ls j v f = f ((ls.set j v).set (j + 1) jk) := if_pos ⟨h1, h2⟩
theorem okp_s {v : Value} (h : c2 v = false) : (!(c2 v)) = true := by rw [h]; rfl
theorem c2_int (x : Int32) : c2 (.int x) = false := rfl
theorem c2_ref (x : Nat) : c2 (.ref x) = false := rfl
theorem c2_null : c2 .null = false := rfl
theorem c2_jk : c2 jk = false := rfl
theorem x_call_ok {M M' : MI} {pc : Nat} {ls st : List Value} {k : Nat × Nat} (h : (m_fr M' + 1 ≤ m_fr M ∧ 19 + m_ml M' + m_lo M' ≤ m_lo M ∧ k.1 + m_mc M' ≤ m_mc M ∧ k.2 + m_ms M' ≤ m_ms M) ∧ m_na M' ≤ st.length ∧ (st.length ≤ m_na M' + 4 ∨ csm (st.drop (m_na M')) ≤ 8) ∧ (fl2 (st.take (m_na M')).reverse).length ≤ m_ml M') :
    x_call M M' pc ls st k = some (.inr (.inl (M', (st.take (m_na M')).reverse, pc + 3, ls, st.drop (m_na M'), (m_ret M').isSome))) := if_pos h
section RKJ
variable {M M' : MI} {pc t : Nat} {ls st : List Value} {k : Nat × Nat} {h : AH} {Q : AH → Value → Prop} {b : ByteArray} {off : Int} {x y : Int32} {a : Nat}
theorem rk_ok {own k : Nat} (h : k = 10 + oc own) : rk own k = true := by
  unfold rk
  rw [decide_eq_true h]
  rfl
theorem rk_s {k : Nat} (h : k = 16 ∨ k = 18) : rk 14 k = true := by rcases h with rfl | rfl <;> decide
theorem kd_s {k f : Nat} (h : k = 16 ∨ k = 18) (hf : f < 2) : k = 10 + 6 ∨ (6 : Nat) = 6 ∧ k = 18 ∧ f < 2 := h.elim Or.inl fun q => Or.inr ⟨rfl, q, hf⟩
theorem RK_goto (d : decode b pc = .ok (.goto off, 3)) (hb : m_b M = b) (ht : (pc : Int) + off = (t : Int)) : RK M pc ls st k h Q = RK M t ls st k h Q := RK_n ((stp_of d hb ls st k h).trans (tg_ok (f := fun q => x_n q ls st k h) ht))
theorem RK_if_eq (d : decode b pc = .ok (.ifCond .eq off, 3)) (hb : m_b M = b) (ht : (pc : Int) + off = (t : Int)) : RK M pc ls (.int x :: st) k h Q = if x = 0 then RK M t ls st k h Q else RK M (pc + 3) ls st k h Q := RK_i ((stp_of d hb ls (.int x :: st) k h).trans (tg_ok (f := fun q => if x = 0 then x_n q ls st k h else x_n (pc + 3) ls st k h) ht))
theorem RK_if_ne (d : decode b pc = .ok (.ifCond .ne off, 3)) (hb : m_b M = b) (ht : (pc : Int) + off = (t : Int)) : RK M pc ls (.int x :: st) k h Q = if x = 0 then RK M (pc + 3) ls st k h Q else RK M t ls st k h Q := RK_i ((stp_of d hb ls (.int x :: st) k h).trans (tg_ok (f := fun q => if x = 0 then x_n (pc + 3) ls st k h else x_n q ls st k h) ht))
theorem RK_if_lt (d : decode b pc = .ok (.ifCond .lt off, 3)) (hb : m_b M = b) (ht : (pc : Int) + off = (t : Int)) : RK M pc ls (.int x :: st) k h Q = if x < 0 then RK M t ls st k h Q else RK M (pc + 3) ls st k h Q := RK_i ((stp_of d hb ls (.int x :: st) k h).trans (tg_ok (f := fun q => if x < 0 then x_n q ls st k h else x_n (pc + 3) ls st k h) ht))
theorem RK_if_ge (d : decode b pc = .ok (.ifCond .ge off, 3)) (hb : m_b M = b) (ht : (pc : Int) + off = (t : Int)) : RK M pc ls (.int x :: st) k h Q = if x < 0 then RK M (pc + 3) ls st k h Q else RK M t ls st k h Q := RK_i ((stp_of d hb ls (.int x :: st) k h).trans (tg_ok (f := fun q => if x < 0 then x_n (pc + 3) ls st k h else x_n q ls st k h) ht))
theorem RK_if_gt (d : decode b pc = .ok (.ifCond .gt off, 3)) (hb : m_b M = b) (ht : (pc : Int) + off = (t : Int)) : RK M pc ls (.int x :: st) k h Q = if x ≤ 0 then RK M (pc + 3) ls st k h Q else RK M t ls st k h Q := RK_i ((stp_of d hb ls (.int x :: st) k h).trans (tg_ok (f := fun q => if x ≤ 0 then x_n (pc + 3) ls st k h else x_n q ls st k h) ht))
theorem RK_if_le (d : decode b pc = .ok (.ifCond .le off, 3)) (hb : m_b M = b) (ht : (pc : Int) + off = (t : Int)) : RK M pc ls (.int x :: st) k h Q = if x ≤ 0 then RK M t ls st k h Q else RK M (pc + 3) ls st k h Q := RK_i ((stp_of d hb ls (.int x :: st) k h).trans (tg_ok (f := fun q => if x ≤ 0 then x_n q ls st k h else x_n (pc + 3) ls st k h) ht))
theorem RK_ic_eq (d : decode b pc = .ok (.if_icmp .eq off, 3)) (hb : m_b M = b) (ht : (pc : Int) + off = (t : Int)) : RK M pc ls (.int y :: .int x :: st) k h Q = if x = y then RK M t ls st k h Q else RK M (pc + 3) ls st k h Q := RK_i ((stp_of d hb ls (.int y :: .int x :: st) k h).trans (tg_ok (f := fun q => if x = y then x_n q ls st k h else x_n (pc + 3) ls st k h) ht))
theorem RK_ic_ne (d : decode b pc = .ok (.if_icmp .ne off, 3)) (hb : m_b M = b) (ht : (pc : Int) + off = (t : Int)) : RK M pc ls (.int y :: .int x :: st) k h Q = if x = y then RK M (pc + 3) ls st k h Q else RK M t ls st k h Q := RK_i ((stp_of d hb ls (.int y :: .int x :: st) k h).trans (tg_ok (f := fun q => if x = y then x_n (pc + 3) ls st k h else x_n q ls st k h) ht))
theorem RK_ic_lt (d : decode b pc = .ok (.if_icmp .lt off, 3)) (hb : m_b M = b) (ht : (pc : Int) + off = (t : Int)) : RK M pc ls (.int y :: .int x :: st) k h Q = if x < y then RK M t ls st k h Q else RK M (pc + 3) ls st k h Q := RK_i ((stp_of d hb ls (.int y :: .int x :: st) k h).trans (tg_ok (f := fun q => if x < y then x_n q ls st k h else x_n (pc + 3) ls st k h) ht))
theorem RK_ic_ge (d : decode b pc = .ok (.if_icmp .ge off, 3)) (hb : m_b M = b) (ht : (pc : Int) + off = (t : Int)) : RK M pc ls (.int y :: .int x :: st) k h Q = if x < y then RK M (pc + 3) ls st k h Q else RK M t ls st k h Q := RK_i ((stp_of d hb ls (.int y :: .int x :: st) k h).trans (tg_ok (f := fun q => if x < y then x_n (pc + 3) ls st k h else x_n q ls st k h) ht))
theorem RK_ic_gt (d : decode b pc = .ok (.if_icmp .gt off, 3)) (hb : m_b M = b) (ht : (pc : Int) + off = (t : Int)) : RK M pc ls (.int y :: .int x :: st) k h Q = if x ≤ y then RK M (pc + 3) ls st k h Q else RK M t ls st k h Q := RK_i ((stp_of d hb ls (.int y :: .int x :: st) k h).trans (tg_ok (f := fun q => if x ≤ y then x_n (pc + 3) ls st k h else x_n q ls st k h) ht))
theorem RK_ic_le (d : decode b pc = .ok (.if_icmp .le off, 3)) (hb : m_b M = b) (ht : (pc : Int) + off = (t : Int)) : RK M pc ls (.int y :: .int x :: st) k h Q = if x ≤ y then RK M t ls st k h Q else RK M (pc + 3) ls st k h Q := RK_i ((stp_of d hb ls (.int y :: .int x :: st) k h).trans (tg_ok (f := fun q => if x ≤ y then x_n q ls st k h else x_n (pc + 3) ls st k h) ht))
theorem RK_nul (d : decode b pc = .ok (.ifnull off, 3)) (hb : m_b M = b) (ht : (pc : Int) + off = (t : Int)) : RK M pc ls (.null :: st) k h Q = RK M t ls st k h Q := RK_n ((stp_of d hb ls (.null :: st) k h).trans (tg_ok (f := fun q => x_n q ls st k h) ht))
theorem RK_nulr (d : decode b pc = .ok (.ifnull off, 3)) (hb : m_b M = b) (ht : (pc : Int) + off = (t : Int)) : RK M pc ls (.ref a :: st) k h Q = RK M (pc + 3) ls st k h Q := RK_n ((stp_of d hb ls (.ref a :: st) k h).trans (tg_ok (f := fun q => x_n (pc + 3) ls st k h) ht))
theorem RK_nn (d : decode b pc = .ok (.ifnonnull off, 3)) (hb : m_b M = b) (ht : (pc : Int) + off = (t : Int)) : RK M pc ls (.null :: st) k h Q = RK M (pc + 3) ls st k h Q := RK_n ((stp_of d hb ls (.null :: st) k h).trans (tg_ok (f := fun q => x_n (pc + 3) ls st k h) ht))
theorem RK_nnr (d : decode b pc = .ok (.ifnonnull off, 3)) (hb : m_b M = b) (ht : (pc : Int) + off = (t : Int)) : RK M pc ls (.ref a :: st) k h Q = RK M t ls st k h Q := RK_n ((stp_of d hb ls (.ref a :: st) k h).trans (tg_ok (f := fun q => x_n q ls st k h) ht))
theorem RK_cv (e : stp M pc ls st k h = x_call M M' pc ls st k) (hc : (m_fr M' + 1 ≤ m_fr M ∧ 19 + m_ml M' + m_lo M' ≤ m_lo M ∧ k.1 + m_mc M' ≤ m_mc M ∧ k.2 + m_ms M' ≤ m_ms M) ∧ m_na M' ≤ st.length ∧ (st.length ≤ m_na M' + 4 ∨ csm (st.drop (m_na M')) ≤ 8) ∧ (fl2 (st.take (m_na M')).reverse).length ≤ m_ml M') : RK M pc ls st k h Q = RK M' 0 (loc M' (st.take (m_na M')).reverse) [] (0, 0) h (fun h1 v => RK M (pc + 3) ls (if (m_ret M').isSome then v :: st.drop (m_na M') else st.drop (m_na M')) (k.1 + m_mc M', k.2 + m_ms M') h1 Q) := RK_c (e.trans (x_call_ok hc))
end RKJ
section RKG
variable {M M' : MI} {pc t i c f q len : Nat} {ls st : List Value} {k : Nat × Nat} {h : AH} {Q : AH → Value → Prop} {b : ByteArray} {off df lo hi : Int} {x y : Int32} {a : Nat} {E : AE} {g : Nat → Nat → Int32} {L : Nat → Nat → Int64} {r : Nat → Nat → Option Nat} {offs : Array Int} {ps : Array (Int × Int)} {ty : FieldType}
theorem RK_tin (d : decode b pc = .ok (.tableswitch df lo hi offs, len)) (hb : m_b M = b) (h1 : ¬ (x.toInt < lo ∨ hi < x.toInt)) (ho : offs[(x.toInt - lo).toNat]? = some off) (ht : (pc : Int) + off = (t : Int)) : RK M pc ls (.int x :: st) k h Q = RK M t ls st k h Q := by
  refine RK_n ((stp_of d hb ls (.int x :: st) k h).trans ?_)
  show (if x.toInt < lo ∨ hi < x.toInt then _ else _) = _
  rw [if_neg h1, ho]
  exact tg_ok (f := fun q => x_n q ls st k h) ht
theorem RK_tout (d : decode b pc = .ok (.tableswitch df lo hi offs, len)) (hb : m_b M = b) (h1 : x.toInt < lo ∨ hi < x.toInt) (ht : (pc : Int) + df = (t : Int)) : RK M pc ls (.int x :: st) k h Q = RK M t ls st k h Q := by
  refine RK_n ((stp_of d hb ls (.int x :: st) k h).trans ?_)
  show (if x.toInt < lo ∨ hi < x.toInt then _ else _) = _
  rw [if_pos h1]
  exact tg_ok (f := fun q => x_n q ls st k h) ht
theorem RK_lsw (d : decode b pc = .ok (.lookupswitch df ps, len)) (hb : m_b M = b) (hp : (ps.toList.zip (ps.toList.drop 1)).all (fun (a, next) => a.1 < next.1) = true) (ho : Op.lookupswitch.offset ps.toList df x.toInt = off) (ht : (pc : Int) + off = (t : Int)) : RK M pc ls (.int x :: st) k h Q = RK M t ls st k h Q := by
  refine RK_n ((stp_of d hb ls (.int x :: st) k h).trans ?_)
  show (if _ then _ else _) = _
  rw [if_pos hp, ho]
  exact tg_ok (f := fun q => x_n q ls st k h) ht
theorem RK_getIs (d : decode b pc = .ok (.getfield i, 3)) (hb : m_b M = b) (hl : fl (m_own M) i = some (c, f)) (ht : fty c f = 0) (hk : kd E a = 10 + c ∨ c = 6 ∧ kd E a = 18 ∧ f < 2) : RK M pc ls (.ref a :: st) k (E, g, L, r) Q = RK M (pc + 3) ls (.int (g a f) :: st) k (E, g, L, r) Q := by
  refine RK_n ((stp_of d hb ls (.ref a :: st) k (E, g, L, r)).trans ?_)
  show (match fl (m_own M) i with | some (c, f) => _ | none => _) = _
  rw [hl]
  show (if kd E a = 10 + c ∨ c = 6 ∧ kd E a = 18 ∧ f < 2 then _ else _) = _
  rw [if_pos hk, fv, ht]
  rfl
theorem RK_getI (d : decode b pc = .ok (.getfield i, 3)) (hb : m_b M = b) (hl : fl (m_own M) i = some (c, f)) (ht : fty c f = 0) (hk : kd E a = 10 + c) : RK M pc ls (.ref a :: st) k (E, g, L, r) Q = RK M (pc + 3) ls (.int (g a f) :: st) k (E, g, L, r) Q := RK_getIs d hb hl ht (Or.inl hk)
theorem RK_getL (d : decode b pc = .ok (.getfield i, 3)) (hb : m_b M = b) (hl : fl (m_own M) i = some (c, f)) (ht : fty c f = 1) (hk : kd E a = 10 + c) : RK M pc ls (.ref a :: st) k (E, g, L, r) Q = RK M (pc + 3) ls (.long (L a f) :: st) k (E, g, L, r) Q := by
  refine RK_n ((stp_of d hb ls (.ref a :: st) k (E, g, L, r)).trans ?_)
  show (match fl (m_own M) i with | some (c, f) => _ | none => _) = _
  rw [hl]
  show (if kd E a = 10 + c ∨ c = 6 ∧ kd E a = 18 ∧ f < 2 then _ else _) = _
  rw [if_pos (Or.inl hk), fv, ht]
  rfl
theorem RK_getAs (d : decode b pc = .ok (.getfield i, 3)) (hb : m_b M = b) (hl : fl (m_own M) i = some (c, f)) (ht : fty c f = 2) (hk : kd E a = 10 + c ∨ c = 6 ∧ kd E a = 18 ∧ f < 2) (hr : r a f = some q) : RK M pc ls (.ref a :: st) k (E, g, L, r) Q = RK M (pc + 3) ls (.ref q :: st) k (E, g, L, r) Q := by
  refine RK_n ((stp_of d hb ls (.ref a :: st) k (E, g, L, r)).trans ?_)
  show (match fl (m_own M) i with | some (c, f) => _ | none => _) = _
  rw [hl]
  show (if kd E a = 10 + c ∨ c = 6 ∧ kd E a = 18 ∧ f < 2 then _ else _) = _
  rw [if_pos hk, fv, ht]
  show x_n _ _ (va_rf (r a f) :: st) _ _ = _
  rw [hr]
  rfl
theorem RK_getA (d : decode b pc = .ok (.getfield i, 3)) (hb : m_b M = b) (hl : fl (m_own M) i = some (c, f)) (ht : fty c f = 2) (hk : kd E a = 10 + c) (hr : r a f = some q) : RK M pc ls (.ref a :: st) k (E, g, L, r) Q = RK M (pc + 3) ls (.ref q :: st) k (E, g, L, r) Q := RK_getAs d hb hl ht (Or.inl hk) hr
theorem RK_putI (d : decode b pc = .ok (.putfield i, 3)) (hb : m_b M = b) (hl : fl (m_own M) i = some (c, f)) (ht : fty c f = 0) (hk : kd E a = 10 + c) (hf : (TO c f).2.2.2 = false ∨ (m_y M).name = "<init>" ∧ (TO c f).1 = RN (m_own M)) (hn : narrow (tyO c f) (.int x) = .int x) : RK M pc ls (.int x :: .ref a :: st) k (E, g, L, r) Q = RK M (pc + 3) ls st k (E, u2 g a f x, L, r) Q := by
  refine RK_n ((stp_of d hb ls (.int x :: .ref a :: st) k (E, g, L, r)).trans ?_)
  show (match fl (m_own M) i with | some (c, f) => _ | none => _) = _
  rw [hl]
  show (if kd E a = 10 + c ∧ _ then _ else _) = _
  rw [if_pos ⟨hk, hf⟩, fw, ht]
  exact if_pos hn
theorem RK_putL {x : Int64} (d : decode b pc = .ok (.putfield i, 3)) (hb : m_b M = b) (hl : fl (m_own M) i = some (c, f)) (ht : fty c f = 1) (hk : kd E a = 10 + c) (hf : (TO c f).2.2.2 = false ∨ (m_y M).name = "<init>" ∧ (TO c f).1 = RN (m_own M)) : RK M pc ls (.long x :: .ref a :: st) k (E, g, L, r) Q = RK M (pc + 3) ls st k (E, g, u2 L a f x, r) Q := by
  refine RK_n ((stp_of d hb ls (.long x :: .ref a :: st) k (E, g, L, r)).trans ?_)
  show (match fl (m_own M) i with | some (c, f) => _ | none => _) = _
  rw [hl]
  show (if kd E a = 10 + c ∧ _ then _ else _) = _
  rw [if_pos ⟨hk, hf⟩, fw, ht]
  rfl
theorem RK_putA (d : decode b pc = .ok (.putfield i, 3)) (hb : m_b M = b) (hl : fl (m_own M) i = some (c, f)) (ht : fty c f = 2) (hk : kd E a = 10 + c) (hf : (TO c f).2.2.2 = false ∨ (m_y M).name = "<init>" ∧ (TO c f).1 = RN (m_own M)) : RK M pc ls (.ref q :: .ref a :: st) k (E, g, L, r) Q = RK M (pc + 3) ls st k (E, g, L, u2 r a f (some q)) Q := by
  refine RK_n ((stp_of d hb ls (.ref q :: .ref a :: st) k (E, g, L, r)).trans ?_)
  show (match fl (m_own M) i with | some (c, f) => _ | none => _) = _
  rw [hl]
  show (if kd E a = 10 + c ∧ _ then _ else _) = _
  rw [if_pos ⟨hk, hf⟩, fw, ht]
  rfl
theorem RK_ret (d : decode b pc = .ok (.return_, 1)) (hb : m_b M = b) (hr : m_ret M = none) : RK M pc ls [] k h Q = Q h .null := RK_r ((stp_of d hb ls [] k h).trans (if_pos hr))
theorem RK_iret (d : decode b pc = .ok (.ireturn, 1)) (hb : m_b M = b) (hr : m_ret M = some ty) (hn : narrow ty (.int x) = .int x) : RK M pc ls [.int x] k h Q = Q h (.int x) := by
  refine RK_r ((stp_of d hb ls [.int x] k h).trans ?_)
  show (match m_ret M with | some t => if narrow t (Value.int x) = Value.int x then _ else _ | none => _) = _
  rw [hr]
  exact if_pos hn
theorem RK_obj (d : decode b pc = .ok (.invokespecial i, 3)) (hb : m_b M = b) (ho : i = ob (m_own M) ∧ i ≠ 0) (hl : lk (m_own M) i = none) (h1 : 1 ≤ m_fr M) (h2 : 20 ≤ m_lo M) : RK M pc ls [.ref a] k h Q = RK M (pc + 3) ls [] k h Q := by
  refine RK_n ((stp_of d hb ls [.ref a] k h).trans ?_)
  rw [ex, hl]
  show (if (i = ob (m_own M) ∧ i ≠ 0) ∧ 1 ≤ m_fr M ∧ 20 ≤ m_lo M ∧ [Value.ref a].length ≤ 5 then _ else _) = _
  exact if_pos ⟨ho, h1, h2, Nat.le_of_ble_eq_true rfl⟩
theorem RK_ldcS (d : decode b pc = .ok (.ldc i, 2)) (hb : m_b M = b) (hl : ki (m_own M) i = none) (ho : m_own M = 5) (hi : i ∈ stT) : RK M pc ls st k (E, g, L, r) Q = RK M (pc + 2) ls (.ref (E.2.2 i) :: st) k (E, g, L, r) Q := by
  refine RK_n ((stp_of d hb ls st k (E, g, L, r)).trans ?_)
  show (match ki (m_own M) i with | some v => _ | none => _) = _
  rw [hl]
  exact if_pos ⟨ho, hi⟩
theorem RK_ldcS2 (d : decode b pc = .ok (.ldc i, 2)) (hb : m_b M = b) (hl : ki (m_own M) i = none) (ho : m_own M = 11) (hi : i ∈ stT2.take 8) : RK M pc ls st k (E, g, L, r) Q = RK M (pc + 2) ls (.ref (E.2.2 (1000 + i)) :: st) k (E, g, L, r) Q := by
  refine RK_n ((stp_of d hb ls st k (E, g, L, r)).trans ?_)
  show (match ki (m_own M) i with | some v => _ | none => _) = _
  rw [hl]
  show (if m_own M = 5 ∧ i ∈ stT then _ else _) = _
  rw [if_neg (by rw [ho]; omega)]
  exact if_pos ⟨ho, hi⟩
end RKG
