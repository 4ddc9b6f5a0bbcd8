/-! A small machine over an abstract heap: what the claim's methods do, as a function (run); RK: what holds when it ends. -/
abbrev MI : Type := (Nat × MethodName × ByteArray × Nat) × (Option FieldType × Nat) × (Nat × Nat × Nat × Nat)
def m_own (M : MI) : Nat := M.1.1
def m_y (M : MI) : MethodName := M.1.2.1
def m_b (M : MI) : ByteArray := M.1.2.2.1
def m_ml (M : MI) : Nat := M.1.2.2.2
def m_ret (M : MI) : Option FieldType := M.2.1.1
def m_na (M : MI) : Nat := M.2.1.2
def m_fr (M : MI) : Nat := M.2.2.1
def m_lo (M : MI) : Nat := M.2.2.2.1
def m_mc (M : MI) : Nat := M.2.2.2.2.1
def m_ms (M : MI) : Nat := M.2.2.2.2.2
/-- the static part: the next address, what stands at an address (kind, length), the String constants by pool place -/
abbrev AE : Type := Nat × (Nat → Nat × Nat) × (Nat → Nat)
/-- ints, longs, references by address and place -/
abbrev AH : Type := AE × (Nat → Nat → Int32) × (Nat → Nat → Int64) × (Nat → Nat → Option Nat)
def kd (E : AE) (a : Nat) : Nat := (E.2.1 a).1
def le (E : AE) (a : Nat) : Nat := (E.2.1 a).2
def u2 {α : Type} (f : Nat → Nat → α) (a i : Nat) (x : α) : Nat → Nat → α := fun b j => if b = a ∧ j = i then x else f b j
def u1 {α : Type} (f : Nat → α) (a : Nat) (x : α) : Nat → α := fun b => if b = a then x else f b
def jk : Value := .retAddr 0
abbrev SR : Type := Option ((Nat × List Value × List Value × (Nat × Nat) × AH) ⊕ ((MI × List Value × Nat × List Value × List Value × Bool) ⊕ Value))
def x_n (pc : Nat) (ls st : List Value) (k : Nat × Nat) (h : AH) : SR := some (.inl (pc, ls, st, k, h))
def x_r (v : Value) : SR := some (.inr (.inr v))
def ln (len n : Nat) (r : SR) : SR := if len = n then r else none
def p_v (st : List Value) (f : Value → List Value → SR) : SR := match st with
  | v :: st => f v st
  | _ => none
def p_i (st : List Value) (f : Int32 → List Value → SR) : SR := match st with
  | .int x :: st => f x st
  | _ => none
def p_l (st : List Value) (f : Int64 → List Value → SR) : SR := match st with
  | .long x :: st => f x st
  | _ => none
def p_r (st : List Value) (f : Nat → List Value → SR) : SR := match st with
  | .ref x :: st => f x st
  | _ => none
def p_i2 (st : List Value) (f : Int32 → Int32 → List Value → SR) : SR := match st with
  | .int y :: .int x :: st => f x y st
  | _ => none
def p_l2 (st : List Value) (f : Int64 → Int64 → List Value → SR) : SR := match st with
  | .long y :: .long x :: st => f x y st
  | _ => none
def p_ir (st : List Value) (f : Nat → Int32 → List Value → SR) : SR := match st with
  | .int i :: .ref a :: st => f a i st
  | _ => none
def g_i (ls : List Value) (j : Nat) (f : Int32 → SR) : SR := match ls[j]? with
  | some (.int x) => f x
  | _ => none
def g_l (ls : List Value) (j : Nat) (f : Int64 → SR) : SR := match ls[j]? with
  | some (.long x) => f x
  | _ => none
def g_r (ls : List Value) (j : Nat) (f : Value → SR) : SR := match ls[j]? with
  | some (.ref x) => f (.ref x)
  | some .null => f .null
  | _ => none
def c2 (v : Value) : Bool := v.category == 2
def okp (ls : List Value) (j : Nat) : Bool := match j with
  | 0 => true
  | j + 1 => match ls[j]? with
    | some v => !(c2 v)
    | none => true
def s_1 (ls : List Value) (j : Nat) (v : Value) (f : List Value → SR) : SR := if j < ls.length ∧ okp ls j = true then f (ls.set j v) else none
def s_2 (ls : List Value) (j : Nat) (v : Value) (f : List Value → SR) : SR := if j + 1 < ls.length ∧ okp ls j = true then f ((ls.set j v).set (j + 1) jk) else none
def tg (pc : Nat) (off : Int) (f : Nat → SR) : SR := if 0 ≤ (pc : Int) + off then f ((pc : Int) + off).toNat else none
-- the classes of objects, by their places in vwCl
def TO : Nat → u_T
  | 0 => TX2
  | 1 => TX4
  | 2 => TX5
  | 3 => TX6
  | 4 => TX7
  | 5 => TX9
  | 6 => TJ0
  | _ => TJ4
def tyO : Nat → Nat → FieldType
  | 0 => tyX2
  | 1 => tyX4
  | 2 => tyX5
  | 3 => tyX6
  | 4 => tyX7
  | 5 => tyX9
  | 6 => tyJ0
  | _ => tyJ4
def NO : Nat → Nat
  | 0 => 2
  | 1 => 2
  | 2 => 15
  | 3 => 8
  | 4 => 14
  | 5 => 6
  | 6 => 4
  | _ => 4
def RO : Nat → String
  | 0 => RX2
  | 1 => RX4
  | 2 => RX5
  | 3 => RX6
  | 4 => RX7
  | 5 => RX9
  | 6 => RJ0
  | _ => RJ4
def oc : Nat → Nat
  | 2 => 0
  | 4 => 1
  | 5 => 2
  | 6 => 3
  | 7 => 4
  | 9 => 5
  | 14 => 6
  | 18 => 7
  | 19 => 7
  | _ => 90
def RN : Nat → String
  | 0 => RX0
  | 1 => RX1
  | 2 => RX2
  | 3 => RX3
  | 4 => RX4
  | 5 => RX5
  | 6 => RX6
  | 7 => RX7
  | 8 => RX8
  | 9 => RX9
  | 10 => RX10
  | 11 => "SieveHouseLaw"
  | 12 => RJ6
  | 13 => RJ9
  | 14 => RJ0
  | 15 => RJ1
  | 16 => RJ2
  | 17 => RJ3
  | 18 => RJ5
  | 19 => RJ4
  | 20 => RJ7
  | 21 => RJ8
  | _ => RJ10
def fty (c k : Nat) : Nat := match tyO c k with
  | .int => 0
  | .byte => 0
  | .boolean => 0
  | .long => 1
  | _ => 2
def fv (c k : Nat) (h : AH) (a : Nat) : Value := match fty c k with
  | 0 => .int (h.2.1 a k)
  | 1 => .long (h.2.2.1 a k)
  | _ => va_rf (h.2.2.2 a k)
def fw (c k a : Nat) (v : Value) (h : AH) (f : AH → SR) : SR := match fty c k with
  | 0 => match v with
    | .int x => if narrow (tyO c k) (.int x) = .int x then f (h.1, u2 h.2.1 a k x, h.2.2.1, h.2.2.2) else none
    | _ => none
  | 1 => match v with
    | .long x => f (h.1, h.2.1, u2 h.2.2.1 a k x, h.2.2.2)
    | _ => none
  | _ => match v with
    | .ref b => f (h.1, h.2.1, h.2.2.1, u2 h.2.2.2 a k (some b))
    | _ => none
/-- is it an object that a method of this class may be asked of -/
def rk (own k : Nat) : Bool := decide (k = 10 + oc own) || (own == 14 && k == 18)
/-- what a static field of the JDK's holds that may be null -/
def sio (E : AE) : Value := if E.2.2 2004 = 0 then .null else .ref (E.2.2 2004 - 1)
/-- what System.arraycopy does to a row -/
def cpy (f g : Nat → Int32) (sp dp n : Nat) : Nat → Int32 := fun j => if dp ≤ j ∧ j < dp + n then f (sp + (j - dp)) else g j
def inr (i : Int32) (n : Nat) : Bool := !(decide (i < 0)) && decide (i.toNatClampNeg < n)
def akd : ArrayType → Nat
  | .int => 1
  | .byte => 2
  | _ => 0
/-- an array that comes to be with the contents of another -/
def mkc (h : AH) (a : Nat) : AH := ((h.1.1 + 1, u1 h.1.2.1 h.1.1 (2, le h.1 a), h.1.2.2), u1 h.2.1 h.1.1 (h.2.1 a), u1 h.2.2.1 h.1.1 (fun _ => 0), u1 h.2.2.2 h.1.1 (fun _ => none))
/-- what comes to be at the next address -/
def mk (h : AH) (s : Nat × Nat) : AH := ((h.1.1 + 1, u1 h.1.2.1 h.1.1 s, h.1.2.2), u1 h.2.1 h.1.1 (fun _ => 0), u1 h.2.2.1 h.1.1 (fun _ => 0), u1 h.2.2.2 h.1.1 (fun _ => none))
def x_mk (M : MI) (pc : Nat) (ls st : List Value) (k : Nat × Nat) (h : AH) (s : Nat × Nat) : SR :=
  if k.1 + 1 ≤ m_mc M ∧ k.2 + s.2 ≤ m_ms M then x_n pc ls (.ref h.1.1 :: st) (k.1 + 1, k.2 + s.2) (mk h s) else none
def fl2 (as : List Value) : List Value := as.flatMap fun v => if c2 v then [v, jk] else [v]
/-- how many words a stack holds -/
def csm (l : List Value) : Nat := (l.map fun v => v.category).sum
def x_call (M M' : MI) (pc : Nat) (ls st : List Value) (k : Nat × Nat) : SR :=
  if (m_fr M' + 1 ≤ m_fr M ∧ 19 + m_ml M' + m_lo M' ≤ m_lo M ∧ k.1 + m_mc M' ≤ m_mc M ∧ k.2 + m_ms M' ≤ m_ms M) ∧ m_na M' ≤ st.length ∧ (st.length ≤ m_na M' + 4 ∨ csm (st.drop (m_na M')) ≤ 8) ∧ (fl2 (st.take (m_na M')).reverse).length ≤ m_ml M' then
    some (.inr (.inl (M', (st.take (m_na M')).reverse, pc + 3, ls, st.drop (m_na M'), (m_ret M').isSome))) else none
def loc (M : MI) (as : List Value) : List Value := fl2 as ++ List.replicate (m_ml M - (fl2 as).length) jk
