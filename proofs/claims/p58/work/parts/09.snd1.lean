/-! SOUNDNESS of the small machine: the relations. -/
/-- classes' numbers and slots, array classes; our first address, the script; the String constants, their bytes (and the digits' tables), the law's row of names, what may be null -/
abbrev SP : Type := (va_G × (Nat → ClassId)) × (Nat × Nat × Nat × (Nat → Int32)) × ((Nat → Nat) × (Nat → Nat) × Nat × Value)
def p_D (P : SP) : va_G := P.1.1
def p_tA (P : SP) : Nat → ClassId := P.1.2
def p_bs (P : SP) : Nat := P.2.1.1
def p_b (P : SP) : Nat := P.2.1.2.1
def p_L (P : SP) : Nat := P.2.1.2.2.1
def p_xs (P : SP) : Nat → Int32 := P.2.1.2.2.2
def p_aK (P : SP) : Nat → Nat := P.2.2.1
def p_aV (P : SP) : Nat → Nat := P.2.2.2.1
def p_aL (P : SP) : Nat := P.2.2.2.2.1
def p_sio (P : SP) : Value := P.2.2.2.2.2
def p_A (P : SP) : Nat → Prop := fun q => p_bs P ≤ q
/-- our own classes of objects, in our order -/
def vwC2 : List vw_C := [(RX2, TX2, 2), (RX4, TX4, 2), (RX5, TX5, 15), (RX6, TX6, 8), (RX7, TX7, 14), (RX9, TX9, 6), (RJ0, TJ0, 4), (RJ4, TJ4, 4)]
def isA (k : Nat) : Bool := k == 1 || k == 2 || k == 5 || k == 6
def ixA : Nat → Nat
  | 1 => 0
  | 2 => 1
  | 5 => 2
  | _ => 3
def p_ty : Nat → FieldType
  | 1 => .int
  | 2 => .byte
  | 5 => .object RX7
  | _ => .object RX2
def tys4 (t : Nat → ClassId) : List (ClassId × FieldType) := [(t 1, .int), (t 2, .byte), (t 5, .object RX7), (t 6, .object RX2)]
theorem isA_or {k : Nat} (h : isA k = true) : k = 1 ∨ k = 2 ∨ k = 5 ∨ k = 6 := by
  simp only [isA, Bool.or_eq_true, beq_iff_eq] at h
  omega
theorem tys4_at (t : Nat → ClassId) (k : Nat) (h : isA k = true) : (tys4 t)[ixA k]? = some (t k, p_ty k) := by
  rcases isA_or h with rfl | rfl | rfl | rfl <;> rfl
/-- the String constants' texts, then the digits' tables -/
def dgO : List Int32 := (List.range 100).map fun i => nI (48 + i % 10)
def dgT : List Int32 := (List.range 100).map fun i => nI (48 + i / 10)
def bL : List (List Int32) := stL ++ (stL2.take 8 ++ [dgO, dgT])
def slen : List Nat := bL.map List.length
/-- a constant's key, its class, its place there -/
def kI (i : Nat) : Nat := if i < 12 then stT.getD i 0 else 1000 + stT2.getD (i - 12) 0
def kO (i : Nat) : String := if i < 12 then RX5 else RN 11
def kP (i : Nat) : Nat := if i < 12 then stT.getD i 0 else stT2.getD (i - 12) 0
/-- the row of an address -/
abbrev AR : Type := (Nat × Nat) × (Nat → Int32) × (Nat → Int64) × (Nat → Option Nat)
def arow (h : AH) (a : Nat) : AR := (h.1.2.1 a, h.2.1 a, h.2.2.1 a, h.2.2.2 a)
def vK (k : Nat) (ρ : AR) (j : Nat) : Value := if k ≤ 2 then .int (ρ.2.1 j) else va_rf (ρ.2.2.2 j)
def fvr (c f : Nat) (ρ : AR) : Value := match fty c f with
  | 0 => .int (ρ.2.1 f)
  | 1 => .long (ρ.2.2.1 f)
  | _ => va_rf (ρ.2.2.2 f)
theorem fv_row (c f : Nat) (h : AH) (a : Nat) : fv c f h a = fvr c f (arow h a) := rfl
def HX (P : SP) (ρ : AR) (a : Nat) (H : Heap) : Prop :=
  (isA ρ.1.1 = true → p_bs P ≤ a ∧ H[a]? = some (arrV (p_tA P ρ.1.1) ρ.1.2 (vK ρ.1.1 ρ))) ∧
  (ρ.1.1 = 7 → a = p_b P ∧ ρ.1.2 = p_L P ∧ ∀ j, j < p_L P → ρ.2.1 j = p_xs P j) ∧
  (∀ c, c < 8 → ρ.1.1 = 10 + c → p_bs P ≤ a ∧ t_OB a ((p_D P).1 c) (NO c) ((p_D P).2 c) H (fun f => fvr c f ρ)) ∧
  (ρ.1.1 = 18 → ∃ i, i < 20 ∧ a = p_aK P i ∧ ρ.2.1 1 = 0 ∧ ρ.2.2.2 0 = some (p_aV P i)) ∧
  (ρ.1.1 = 9 → ∃ i, i < 22 ∧ a = p_aV P i ∧ ρ.1.2 = slen.getD i 0 ∧ ∀ j, j < ρ.1.2 → ρ.2.1 j = (bL.getD i []).getD j 0) ∧
  (ρ.1.1 = 8 → a = p_aL P ∧ ρ.1.2 = 4 ∧ ∀ j, j < 4 → ρ.2.2.2 j = some (p_aK P (5 + j))) ∧
  (ρ.1.1 = 2 → ∀ j, j < ρ.1.2 → fits .byte (.int (ρ.2.1 j)) = true)
def HR (P : SP) (h : AH) (H : Heap) : Prop := H.size = h.1.1 ∧ (∀ a, HX P (arow h a) a H) ∧ (∀ i, i < 20 → h.1.2.2 (kI i) = p_aK P i) ∧ h.1.2.2 2001 = p_aV P 20 ∧ h.1.2.2 2002 = p_aV P 21 ∧ h.1.2.2 2003 = p_aL P ∧ sio h.1 = p_sio P
theorem HX.kept {P : SP} {ρ : AR} {a : Nat} {H H' : Heap} (h : HX P ρ a H) (hq : p_bs P ≤ a → H'[a]? = H[a]?) : HX P ρ a H' := by
  refine ⟨fun h1 => ?_, h.2.1, fun c hc hk => ?_, h.2.2.2⟩
  · obtain ⟨g1, g2⟩ := h.1 h1
    exact ⟨g1, by rw [hq g1]; exact g2⟩
  · obtain ⟨g1, g2⟩ := h.2.2.1 c hc hk
    exact ⟨g1, g2.kept (hq g1)⟩
theorem HR.at1 {P : SP} {h h' : AH} {H H' : Heap} {a : Nat} (hR : HR P h H) (z : H'.size = H.size) (oq : ∀ q : Nat, q ≠ a → H'[q]? = H[q]?) (h1 : h'.1 = h.1) (hr : ∀ q, q ≠ a → arow h' q = arow h q) (hx : HX P (arow h' a) a H') : HR P h' H' := by
  refine ⟨by rw [z, h1]; exact hR.1, fun q => ?_, by rw [h1]; exact hR.2.2⟩
  by_cases hq : q = a
  · subst hq
    exact hx
  · rw [hr q hq]
    exact (hR.2.1 q).kept (fun _ => oq q hq)
theorem HR.new {P : SP} {h : AH} {H H' : Heap} {sh : Nat × Nat} (hR : HR P h H) (z : H'.size = H.size + 1) (o1 : ∀ q : Nat, q < H.size → H'[q]? = H[q]?) (hx : HX P (sh, (fun _ => 0), (fun _ => 0), (fun _ => none)) H.size H') : HR P (mk h sh) H' := by
  have e0 := hR.1
  refine ⟨by rw [z, e0]; rfl, fun q => ?_, hR.2.2⟩
  by_cases hq : q = h.1.1
  · subst hq
    have e : arow (mk h sh) h.1.1 = (sh, (fun _ => 0), (fun _ => 0), (fun _ => none)) := by simp [arow, mk, u1]
    rw [e, ← e0]
    exact hx
  · have e : arow (mk h sh) q = arow h q := by simp [arow, mk, u1, hq]
    rw [e]
    refine (hR.2.1 q).kept (fun _ => ?_)
    rcases Nat.lt_or_ge q H.size with hl | hg
    · exact o1 q hl
    · rw [Array.getElem?_eq_none (by omega), Array.getElem?_eq_none (by omega)]
def isJ : Value → Bool
  | .retAddr _ => true
  | _ => false
/-- locals: what isn't junk is there -/
def LR (n : Nat) (ls : List Value) (la : Array Slot) : Prop := ∃ l : List (Nat × Value), lv_has la n l ∧ ls.length = n ∧ ∀ (i : Nat) (v : Value), ls[i]? = some v → isJ v = false → (i, v) ∈ l
theorem LR.get {n : Nat} {ls : List Value} {la : Array Slot} (h : LR n ls la) {i : Nat} {v : Value} (hi : ls[i]? = some v) (hj : isJ v = false) : la[i]? = some (.val v) := by
  obtain ⟨l, h1, h2, h3⟩ := h
  exact h1.2.2 _ (h3 i v hi hj)
theorem LR.len {n : Nat} {ls : List Value} {la : Array Slot} (h : LR n ls la) : ls.length = n := by
  obtain ⟨l, h1, h2, h3⟩ := h
  exact h2
theorem LR.size {n : Nat} {ls : List Value} {la : Array Slot} (h : LR n ls la) : la.size = n := by
  obtain ⟨l, h1, h2, h3⟩ := h
  exact h1.1
theorem LR_s1 {n : Nat} {ls : List Value} {la' : Array Slot} {l : List (Nat × Value)} {j : Nat} {v : Value} (h2 : ls.length = n) (h3 : ∀ (i : Nat) (v : Value), ls[i]? = some v → isJ v = false → (i, v) ∈ l) (hk : okp ls j = true)
    (h : lv_has la' n ((j, v) :: l.filter (fun q => !(q.1 == j) && !(q.1 + 1 == j && q.2.category == 2)))) : LR n (ls.set j v) la' := by
  refine ⟨_, h, by rw [List.length_set]; exact h2, fun i w hi hw => ?_⟩
  by_cases hij : i = j
  · subst hij
    have hl : i < ls.length := by
      have := (List.getElem?_eq_some_iff.mp hi).1
      rwa [List.length_set] at this
    rw [List.getElem?_set_self hl] at hi
    cases hi
    exact List.mem_cons_self
  · rw [List.getElem?_set_ne (Ne.symm hij)] at hi
    refine List.mem_cons_of_mem _ (List.mem_filter.mpr ⟨h3 i w hi hw, ?_⟩)
    have e1 : (i == j) = false := by simp [hij]
    have e2 : (i + 1 == j && w.category == 2) = false := by
      by_cases hc : i + 1 = j
      · subst hc
        have hk2 : (!(c2 w)) = true := by
          have := hk
          unfold okp at this
          simpa [hi] using this
        have hc2 : (w.category == 2) = false := by
          have : c2 w = false := by simpa using hk2
          exact this
        rw [hc2, Bool.and_false]
      · have : (i + 1 == j) = false := by simp [hc]
        rw [this, Bool.false_and]
    show (!(i == j) && !(i + 1 == j && w.category == 2)) = true
    rw [e1, e2]
    rfl
theorem LR_s2 {n : Nat} {ls : List Value} {la' : Array Slot} {l : List (Nat × Value)} {j : Nat} {v : Value} (h2 : ls.length = n) (h3 : ∀ (i : Nat) (v : Value), ls[i]? = some v → isJ v = false → (i, v) ∈ l) (hk : okp ls j = true)
    (h : lv_has la' n ((j, v) :: l.filter (fun q => !(q.1 == j) && (!(q.1 == j + 1) && !(q.1 + 1 == j && q.2.category == 2))))) : LR n ((ls.set j v).set (j + 1) jk) la' := by
  refine ⟨_, h, by rw [List.length_set, List.length_set]; exact h2, fun i w hi hw => ?_⟩
  by_cases hi1 : i = j + 1
  · subst hi1
    have hl : j + 1 < (ls.set j v).length := by
      have := (List.getElem?_eq_some_iff.mp hi).1
      rwa [List.length_set] at this
    rw [List.getElem?_set_self hl] at hi
    cases hi
    exact absurd hw (by decide)
  · rw [List.getElem?_set_ne (Ne.symm hi1)] at hi
    by_cases hij : i = j
    · subst hij
      have hl : i < ls.length := by
        have := (List.getElem?_eq_some_iff.mp hi).1
        rwa [List.length_set] at this
      rw [List.getElem?_set_self hl] at hi
      cases hi
      exact List.mem_cons_self
    · rw [List.getElem?_set_ne (Ne.symm hij)] at hi
      refine List.mem_cons_of_mem _ (List.mem_filter.mpr ⟨h3 i w hi hw, ?_⟩)
      have e1 : (i == j) = false := by simp [hij]
      have e3 : (i == j + 1) = false := by simp [hi1]
      have e2 : (i + 1 == j && w.category == 2) = false := by
        by_cases hc : i + 1 = j
        · subst hc
          have hk2 : (!(c2 w)) = true := by
            have := hk
            unfold okp at this
            simpa [hi] using this
          have hc2 : (w.category == 2) = false := by
            have : c2 w = false := by simpa using hk2
            exact this
          rw [hc2, Bool.and_false]
        · have : (i + 1 == j) = false := by simp [hc]
          rw [this, Bool.false_and]
      show (!(i == j) && (!(i == j + 1) && !(i + 1 == j && w.category == 2))) = true
      rw [e1, e2, e3]
      rfl
theorem lv_args_mem : ∀ (as : List Value) (i0 i : Nat) (v : Value), (fl2 as)[i]? = some v → isJ v = false → (i0 + i, v) ∈ lv_args i0 as := by
  intro as
  induction as with
  | nil =>
    intro i0 i v h _
    cases h
  | cons a as ih =>
    intro i0 i v h hj
    have hcase : c2 a = true ∨ c2 a = false := by cases c2 a <;> simp
    rcases hcase with hc | hc
    · have hc2 : a.category = 2 := by simpa [c2] using hc
      have e : fl2 (a :: as) = a :: jk :: fl2 as := by simp [fl2, hc]
      have e2 : lv_args i0 (a :: as) = (i0, a) :: lv_args (i0 + 2) as := by simp [lv_args, hc2]
      rw [e] at h
      rw [e2]
      match i, h with
      | 0, h =>
        cases h
        exact List.mem_cons_self
      | 1, h =>
        cases h
        exact absurd hj (by decide)
      | i + 2, h =>
        have h' : (fl2 as)[i]? = some v := h
        have := ih (i0 + 2) i v h' hj
        rw [show i0 + 2 + i = i0 + (i + 2) by omega] at this
        exact List.mem_cons_of_mem _ this
    · have hc2 : ¬ a.category = 2 := by simpa [c2] using hc
      have e : fl2 (a :: as) = a :: fl2 as := by simp [fl2, hc]
      have e2 : lv_args i0 (a :: as) = (i0, a) :: lv_args (i0 + 1) as := by simp [lv_args, hc2]
      rw [e] at h
      rw [e2]
      match i, h with
      | 0, h =>
        cases h
        exact List.mem_cons_self
      | i + 1, h =>
        have h' : (fl2 as)[i]? = some v := h
        have := ih (i0 + 1) i v h' hj
        rw [show i0 + 1 + i = i0 + (i + 1) by omega] at this
        exact List.mem_cons_of_mem _ this
theorem fl2_len : ∀ as : List Value, (lg_sl as).length = (fl2 as).length := by
  intro as
  induction as with
  | nil => rfl
  | cons a as ih =>
    have e1 : lg_sl (a :: as) = (if a.category = 2 then [Slot.val a, Slot.second] else [Slot.val a]) ++ lg_sl as := by simp [lg_sl]
    have e2 : fl2 (a :: as) = (if c2 a then [a, jk] else [a]) ++ fl2 as := by simp [fl2]
    rw [e1, e2, List.length_append, List.length_append, ih]
    by_cases hc : a.category = 2
    · simp [c2, hc]
    · simp [c2, hc]
theorem LR_entry (M : MI) (as : List Value) (h : (fl2 as).length ≤ m_ml M) : LR (m_ml M) (loc M as) ((lg_sl as ++ List.replicate (m_ml M - (lg_sl as).length) Slot.unset).toArray) := by
  refine ⟨_, lv_entry as (by rw [fl2_len]; exact h), by simp [loc]; omega, fun i v hi hj => ?_⟩
  unfold loc at hi
  by_cases hl : i < (fl2 as).length
  · rw [List.getElem?_append_left hl] at hi
    have := lv_args_mem as 0 i v hi hj
    rwa [Nat.zero_add] at this
  · rw [List.getElem?_append_right (by omega)] at hi
    have := List.eq_of_mem_replicate (List.mem_of_getElem? hi)
    subst this
    exact absurd hj (by decide)
/-- a private method of a class above is what it is, asked of an object of the class below -/
def slB : List Cond := [Cond.selects "java/lang/StringBuilder" (⟨"java/lang/AbstractStringBuilder", "ensureCapacityInternal", "(I)V"⟩ : MethodName) (⟨"java/lang/AbstractStringBuilder", "ensureCapacityInternal", "(I)V"⟩ : MethodName), Cond.selects "java/lang/StringBuilder" (⟨"java/lang/AbstractStringBuilder", "newCapacity", "(I)I"⟩ : MethodName) (⟨"java/lang/AbstractStringBuilder", "newCapacity", "(I)I"⟩ : MethodName), Cond.selects "java/lang/StringBuilder" (⟨"java/lang/AbstractStringBuilder", "putStringAt", "(ILjava/lang/String;)V"⟩ : MethodName) (⟨"java/lang/AbstractStringBuilder", "putStringAt", "(ILjava/lang/String;)V"⟩ : MethodName), Cond.selects "java/lang/StringBuilder" (⟨"java/lang/AbstractStringBuilder", "inflateIfNeededFor", "(Ljava/lang/String;)V"⟩ : MethodName) (⟨"java/lang/AbstractStringBuilder", "inflateIfNeededFor", "(Ljava/lang/String;)V"⟩ : MethodName)]
def tblX : List Cond := lw_tbl ++ slB
/-! the words that every method carries -/
def isNM : Cond → Bool
  | .methodLinkNest _ _ _ _ => true
  | .castable _ _ => true
  | _ => false
def TB : List Cond := tblX.filter goodWord
def NW : List Cond := tblX.filter isNM
theorem TB_in {w : Cond} (i : Nat) (h : tblX[i]? = some w) (hg : goodWord w = true) : w ∈ TB := List.mem_filter.mpr ⟨List.mem_of_getElem? h, hg⟩
theorem NW_in {w : Cond} (i : Nat) (h : tblX[i]? = some w) (hg : isNM w = true) : w ∈ NW := List.mem_filter.mpr ⟨List.mem_of_getElem? h, hg⟩
theorem TB_good : GoodIn TB TB := fun w hw => ⟨hw, good_of_word (List.mem_filter.mp hw).2⟩
theorem NW_warm {w : Cond} {s U : State} (hW : s.WarmedH U.vm) (hw : w ∈ NW) (h : va_Nw w s) : va_Nw w U := by
  have hn := (List.mem_filter.mp hw).2
  cases w with
  | methodLinkNest a i x b => exact va_Nw.warmM hW h
  | castable a b => exact va_Nw.warmC hW h
  | _ => cases hn
theorem NW_tab {w : Cond} (hw : w ∈ NW) : w.onTables = true := by
  have hn := (List.mem_filter.mp hw).2
  cases w with
  | methodLinkNest a i x b => rfl
  | castable a b => rfl
  | _ => cases hn
/-- what stays of the JDK's and the law's own statics and texts -/
def KT (P : SP) (U : State) (H : Heap) : Prop :=
  (∀ i : Nat, i < 20 → va_O "java/lang/String" (p_aK P i) (p_A P) U H ∧ va_OF "java/lang/String" "coder" "B" (.int 0) (p_aK P i) (p_A P) U H ∧ va_OF "java/lang/String" "value" "[B" (.ref (p_aV P i)) (p_aK P i) (p_A P) U H) ∧
  (∀ i : Nat, i < 22 → va_T .byte (p_aV P i) (slen.getD i 0) (fun j => .int ((bL.getD i []).getD j 0)) (p_A P) U H) ∧
  va_T (.object "java/lang/String") (p_aL P) 4 (fun j => .ref (p_aK P (5 + j))) (p_A P) U H ∧
  va_Z "java/lang/String" "COMPACT_STRINGS" "Z" (.int 1) (p_A P) U H ∧ va_Z "jdk/internal/util/Preconditions" "SIOOBE_FORMATTER" "Ljava/util/function/BiFunction;" (p_sio P) (p_A P) U H ∧
  va_Z "java/lang/Integer" "DigitOnes" "[B" (.ref (p_aV P 20)) (p_A P) U H ∧ va_Z "java/lang/Integer" "DigitTens" "[B" (.ref (p_aV P 21)) (p_A P) U H ∧ va_Z "SieveHouseLaw" "LAWS" "[Ljava/lang/String;" (.ref (p_aL P)) (p_A P) U H
theorem KT.moved {P : SP} {u U : State} {H : Heap} (hvm : u.vm.Alike U.vm) (h : KT P u H) : KT P U H :=
  ⟨fun i hi => ⟨(h.1 i hi).1.moved hvm, (h.1 i hi).2.1.moved hvm, (h.1 i hi).2.2.moved hvm⟩, fun i hi => (h.2.1 i hi).moved hvm, h.2.2.1.moved hvm, h.2.2.2.1.moved hvm, h.2.2.2.2.1.moved hvm, h.2.2.2.2.2.1.moved hvm, h.2.2.2.2.2.2.1.moved hvm, h.2.2.2.2.2.2.2.moved hvm⟩
theorem KT.kept {P : SP} {U : State} {H H1 : Heap} (h : KT P U H) (hq : ∀ a : Nat, a < H.size → ¬ p_A P a → H1[a]? = H[a]?) : KT P U H1 :=
  ⟨fun i hi => ⟨(h.1 i hi).1.kept hq, (h.1 i hi).2.1.kept hq, (h.1 i hi).2.2.kept hq⟩, fun i hi => (h.2.1 i hi).kept hq, h.2.2.1.kept hq, h.2.2.2.1.kept hq, h.2.2.2.2.1.kept hq, h.2.2.2.2.2.1.kept hq, h.2.2.2.2.2.2.1.kept hq, h.2.2.2.2.2.2.2.kept hq⟩
/-- what stays: tables, script, Strings, statics of the JDK -/
def KS (P : SP) (U : State) : Prop :=
  (va_K (p_D P) vwC2 (tys4 (p_tA P)) U ∧ va_AO RX7 U ∧ va_AO RX2 U ∧ ∀ w ∈ NW, va_Nw w U) ∧
  (va_X (p_b P) (p_L P) (p_xs P) U U.heap ∧ p_b P < p_bs P ∧ p_L P < 2 ^ 31 ∧ p_bs P ≤ U.heap.size) ∧
  KT P U U.heap ∧ ∀ i, i < 20 → ∃ tx, vk_R (kO i) (kP i) tx (p_aK P i) U
theorem KS.go {P : SP} {s U : State} {locs : List Loc} (h : KS P s) (hS : va_S (p_A P) s.heap U.heap locs) (hW : s.WarmedH U.vm) : KS P U := by
  obtain ⟨⟨a1, a2, a3, a4⟩, ⟨b1, b2, b3, b4⟩, c1, c2⟩ := h
  have hb : U.heap[p_b P]? = s.heap[p_b P]? := hS.2.1 _ (Nat.lt_of_lt_of_le b2 b4) (Nat.not_le.mpr b2)
  refine ⟨⟨a1.moved hW.alike, a2.moved hW.alike, a3.moved hW.alike, fun w hw => NW_warm hW hw (a4 w hw)⟩, ⟨(b1.moved hW.alike).kept hb, b2, b3, Nat.le_trans b4 hS.1⟩, (c1.moved hW.alike).kept hS.2.1, fun i hi => ?_⟩
  obtain ⟨tx, ht⟩ := c2 i hi
  exact ⟨tx, ht.warm hW⟩
theorem KS.same {P : SP} {s U : State} (h : KS P s) (hv : U.vm = s.vm) (hh : U.heap = s.heap) : KS P U := by
  obtain ⟨⟨a1, a2, a3, a4⟩, ⟨b1, b2, b3, b4⟩, c1, c2⟩ := h
  have al : s.vm.Alike U.vm := by rw [hv]; exact Vm.Alike.refl _
  rw [KS, hh]
  refine ⟨⟨a1.moved al, a2.moved al, a3.moved al, fun w hw => va_Nw.same (NW_tab hw) hv.symm (a4 w hw)⟩, ⟨b1.moved al, b2, b3, b4⟩, c1.moved al, fun i hi => ?_⟩
  obtain ⟨tx, ht⟩ := c2 i hi
  exact ⟨tx, ht.same hv⟩
abbrev SRr : Type := (Nat × List Value × List Value × (Nat × Nat) × AH) ⊕ ((MI × List Value × Nat × List Value × List Value × Bool) ⊕ Value)
/-- a method of ours is at work -/
def CX (P : SP) (M : MI) (p : Program) (R : Room) (s : State) (m : MethodId) (args : Array Value) (meth : Method) (c : Code) : Prop :=
  CallFix p m c (m_b M) (m_ml M) s args TB (RN (m_own M)) ∧ (meth.name = (m_y M).name ∧ meth.sig.returnType = m_ret M ∧ meth.locks = false) ∧ (m_fr M ≤ R.frames ∧ m_lo M ≤ R.locals ∧ m_mc M ≤ R.cells ∧ m_ms M ≤ R.slots) ∧ KS P s
def BX (P : SP) (s : State) (n : Nat) (H : Heap) (locs : List Loc) (ls : List Value) (la : Array Slot) (h : AH) : Prop := HR P h H ∧ va_S (p_A P) s.heap H locs ∧ LR n ls la
def Sx (p : Program) (l : Launch) (e : Env) (R : Room) (s : State) (m : MethodId) (args : Array Value) (below : List Frame) (meth : Method) (c : Code) (P : SP) (M : MI) (pc : Nat) (la : Array Slot) (st : List Value) (k : Nat × Nat) (H : Heap) (locs : List Loc) (r : SRr) : Prop :=
  ∃ (pc' : Nat) (ls' st' : List Value) (k' : Nat × Nat) (h' : AH), r = .inl (pc', ls', st', k', h') ∧ (k.1 ≤ m_mc M → k.2 ≤ m_ms M → k'.1 ≤ m_mc M ∧ k'.2 ≤ m_ms M) ∧ ∀ Q : State → Prop, (∀ (la' : Array Slot) (H' : Heap) (locs' : List Loc), BX P s (m_ml M) H' locs' ls' la' h' → W p l e R s m args below meth c H' locs' k'.1 k'.2 Q (F0 m pc' la' st')) → W p l e R s m args below meth c H locs k.1 k.2 Q (F0 m pc la st)
theorem xn_inv {pc : Nat} {ls st : List Value} {k : Nat × Nat} {h : AH} {r : SRr} (he : x_n pc ls st k h = some r) : r = .inl (pc, ls, st, k, h) := (Option.some.inj he).symm
theorem ln_inv {len n : Nat} {q : SR} {r : SRr} (he : ln len n q = some r) : len = n ∧ q = some r := by
  unfold ln at he
  split at he
  · exact ⟨by assumption, he⟩
  · cases he
theorem it_inv {c : Prop} [Decidable c] {q : SR} {r : SRr} (he : (if c then q else none) = some r) : c ∧ q = some r := by
  by_cases hc : c
  · rw [if_pos hc] at he
    exact ⟨hc, he⟩
  · rw [if_neg hc] at he
    cases he
theorem ie_inv {c : Prop} [Decidable c] {q : SR} {r : SRr} (he : (if c then none else q) = some r) : ¬ c ∧ q = some r := by
  by_cases hc : c
  · rw [if_pos hc] at he
    cases he
  · rw [if_neg hc] at he
    exact ⟨hc, he⟩
theorem pv_inv {st : List Value} {f : Value → List Value → SR} {r : SRr} (he : p_v st f = some r) : ∃ v st', st = v :: st' ∧ f v st' = some r := by
  unfold p_v at he
  split at he
  · exact ⟨_, _, rfl, he⟩
  · cases he
theorem pi_inv {st : List Value} {f : Int32 → List Value → SR} {r : SRr} (he : p_i st f = some r) : ∃ v st', st = .int v :: st' ∧ f v st' = some r := by
  unfold p_i at he
  split at he
  · exact ⟨_, _, rfl, he⟩
  · cases he
theorem pl_inv {st : List Value} {f : Int64 → List Value → SR} {r : SRr} (he : p_l st f = some r) : ∃ v st', st = .long v :: st' ∧ f v st' = some r := by
  unfold p_l at he
  split at he
  · exact ⟨_, _, rfl, he⟩
  · cases he
theorem pr_inv {st : List Value} {f : Nat → List Value → SR} {r : SRr} (he : p_r st f = some r) : ∃ v st', st = .ref v :: st' ∧ f v st' = some r := by
  unfold p_r at he
  split at he
  · exact ⟨_, _, rfl, he⟩
  · cases he
theorem pi2_inv {st : List Value} {f : Int32 → Int32 → List Value → SR} {r : SRr} (he : p_i2 st f = some r) : ∃ x y st', st = .int y :: .int x :: st' ∧ f x y st' = some r := by
  unfold p_i2 at he
  split at he
  · exact ⟨_, _, _, rfl, he⟩
  · cases he
theorem pl2_inv {st : List Value} {f : Int64 → Int64 → List Value → SR} {r : SRr} (he : p_l2 st f = some r) : ∃ x y st', st = .long y :: .long x :: st' ∧ f x y st' = some r := by
  unfold p_l2 at he
  split at he
  · exact ⟨_, _, _, rfl, he⟩
  · cases he
theorem pir_inv {st : List Value} {f : Nat → Int32 → List Value → SR} {r : SRr} (he : p_ir st f = some r) : ∃ a i st', st = .int i :: .ref a :: st' ∧ f a i st' = some r := by
  unfold p_ir at he
  split at he
  · exact ⟨_, _, _, rfl, he⟩
  · cases he
theorem gi_inv {ls : List Value} {j : Nat} {f : Int32 → SR} {r : SRr} (he : g_i ls j f = some r) : ∃ x, ls[j]? = some (.int x) ∧ f x = some r := by
  unfold g_i at he
  split at he
  · exact ⟨_, by assumption, he⟩
  · cases he
theorem gl_inv {ls : List Value} {j : Nat} {f : Int64 → SR} {r : SRr} (he : g_l ls j f = some r) : ∃ x, ls[j]? = some (.long x) ∧ f x = some r := by
  unfold g_l at he
  split at he
  · exact ⟨_, by assumption, he⟩
  · cases he
theorem gr_inv {ls : List Value} {j : Nat} {f : Value → SR} {r : SRr} (he : g_r ls j f = some r) : (∃ x, ls[j]? = some (.ref x) ∧ f (.ref x) = some r) ∨ (ls[j]? = some .null ∧ f .null = some r) := by
  unfold g_r at he
  split at he
  · exact Or.inl ⟨_, by assumption, he⟩
  · exact Or.inr ⟨by assumption, he⟩
  · cases he
theorem s1_inv {ls : List Value} {j : Nat} {v : Value} {f : List Value → SR} {r : SRr} (he : s_1 ls j v f = some r) : (j < ls.length ∧ okp ls j = true) ∧ f (ls.set j v) = some r := it_inv he
theorem s2_inv {ls : List Value} {j : Nat} {v : Value} {f : List Value → SR} {r : SRr} (he : s_2 ls j v f = some r) : (j + 1 < ls.length ∧ okp ls j = true) ∧ f ((ls.set j v).set (j + 1) jk) = some r := it_inv he
theorem tg_inv {pc : Nat} {off : Int} {f : Nat → SR} {r : SRr} (he : tg pc off f = some r) : ∃ t : Nat, (pc : Int) + off = (t : Int) ∧ f t = some r := by
  obtain ⟨h1, h2⟩ := it_inv he
  exact ⟨_, (Int.toNat_of_nonneg h1).symm, h2⟩
theorem inr_in {i : Int32} {n : Nat} (h : inr i n = true) : ¬ (i < 0 ∨ n ≤ i.toNatClampNeg) := by
  simp only [inr, Bool.and_eq_true, Bool.not_eq_true', decide_eq_false_iff_not, decide_eq_true_eq] at h
  rintro (q | q)
  · exact h.1 q
  · omega
theorem c2_cat {v : Value} (h : ¬ c2 v = true) : v.category = 1 := by
  rcases lv_cat v with q | q
  · exact q
  · exact absurd (by simp [c2, q]) h
section SN
variable {p : Program} {l : Launch} {e : Env} {R : Room} {s : State} {m : MethodId} {args : Array Value} {below : List Frame} {meth : Method} {c : Code} {H : Heap} {locs : List Loc} {P : SP} {M : MI} {len pc : Nat} {ls st : List Value} {la : Array Slot} {k : Nat × Nat} {h : AH} {r : SRr}
theorem Sx.n {pc' : Nat} {ls' st' : List Value} {k' : Nat × Nat} {h' : AH} (he : x_n pc' ls' st' k' h' = some r) (kk : ∀ Q : State → Prop, (∀ (la' : Array Slot) (H' : Heap) (locs' : List Loc), BX P s (m_ml M) H' locs' ls' la' h' → W p l e R s m args below meth c H' locs' k'.1 k'.2 Q (F0 m pc' la' st')) → W p l e R s m args below meth c H locs k.1 k.2 Q (F0 m pc la st)) (hk : k.1 ≤ m_mc M → k.2 ≤ m_ms M → k'.1 ≤ m_mc M ∧ k'.2 ≤ m_ms M := by exact fun a b => ⟨a, b⟩) : Sx p l e R s m args below meth c P M pc la st k H locs r := ⟨_, _, _, _, _, xn_inv he, hk, kk⟩
theorem sn_aconst_null (C : CX P M p R s m args meth c) (B : BX P s (m_ml M) H locs ls la h) (hd : decode (m_b M) pc = .ok (.aconst_null, len)) (he : ex M (.aconst_null) len pc ls st k h = some r) : Sx p l e R s m args below meth c P M pc la st k H locs r := by
  obtain ⟨h9, hE⟩ := ln_inv he; subst h9; replace he := hE; clear hE
  exact Sx.n he fun Q kk => lv_null C.1.1 C.1.2.1 hd (kk _ _ _ B)
theorem sn_iconst {n : Int} (C : CX P M p R s m args meth c) (B : BX P s (m_ml M) H locs ls la h) (hd : decode (m_b M) pc = .ok (.iconst n, len)) (he : ex M (.iconst n) len pc ls st k h = some r) : Sx p l e R s m args below meth c P M pc la st k H locs r := by
  obtain ⟨h9, hE⟩ := ln_inv he; subst h9; replace he := hE; clear hE
  exact Sx.n he fun Q kk => lv_iconst C.1.1 C.1.2.1 hd rfl (kk _ _ _ B)
theorem sn_bipush {n : Int} (C : CX P M p R s m args meth c) (B : BX P s (m_ml M) H locs ls la h) (hd : decode (m_b M) pc = .ok (.bipush n, len)) (he : ex M (.bipush n) len pc ls st k h = some r) : Sx p l e R s m args below meth c P M pc la st k H locs r := by
  obtain ⟨h9, hE⟩ := ln_inv he; subst h9; replace he := hE; clear hE
  exact Sx.n he fun Q kk => lv_bipush C.1.1 C.1.2.1 hd rfl (kk _ _ _ B)
theorem sn_sipush {n : Int} (C : CX P M p R s m args meth c) (B : BX P s (m_ml M) H locs ls la h) (hd : decode (m_b M) pc = .ok (.sipush n, len)) (he : ex M (.sipush n) len pc ls st k h = some r) : Sx p l e R s m args below meth c P M pc la st k H locs r := by
  obtain ⟨h9, hE⟩ := ln_inv he; subst h9; replace he := hE; clear hE
  exact Sx.n he fun Q kk => lv_sipush C.1.1 C.1.2.1 hd rfl (kk _ _ _ B)
theorem sn_lconst {n : Fin 2} (C : CX P M p R s m args meth c) (B : BX P s (m_ml M) H locs ls la h) (hd : decode (m_b M) pc = .ok (.lconst n, len)) (he : ex M (.lconst n) len pc ls st k h = some r) : Sx p l e R s m args below meth c P M pc la st k H locs r := by
  obtain ⟨h9, hE⟩ := ln_inv he; subst h9; replace he := hE; clear hE
  exact Sx.n he fun Q kk => lv_lconst C.1.1 C.1.2.1 hd rfl (kk _ _ _ B)
theorem sn_iload_n {j : Fin 4} (C : CX P M p R s m args meth c) (B : BX P s (m_ml M) H locs ls la h) (hd : decode (m_b M) pc = .ok (.iload_n j, len)) (he : ex M (.iload_n j) len pc ls st k h = some r) : Sx p l e R s m args below meth c P M pc la st k H locs r := by
  obtain ⟨h9, hE⟩ := ln_inv he; subst h9; replace he := hE; clear hE
  obtain ⟨x, hx, he⟩ := gi_inv he
  exact Sx.n he fun Q kk => lv_iload_n C.1.1 C.1.2.1 hd rfl (B.2.2.get hx rfl) (kk _ _ _ B)
theorem sn_iload {j : Nat} (C : CX P M p R s m args meth c) (B : BX P s (m_ml M) H locs ls la h) (hd : decode (m_b M) pc = .ok (.iload j, len)) (he : ex M (.iload j) len pc ls st k h = some r) : Sx p l e R s m args below meth c P M pc la st k H locs r := by
  obtain ⟨h9, hE⟩ := ln_inv he; subst h9; replace he := hE; clear hE
  obtain ⟨x, hx, he⟩ := gi_inv he
  exact Sx.n he fun Q kk => lv_iload C.1.1 C.1.2.1 hd (B.2.2.get hx rfl) (kk _ _ _ B)
theorem sn_lload_n {j : Fin 4} (C : CX P M p R s m args meth c) (B : BX P s (m_ml M) H locs ls la h) (hd : decode (m_b M) pc = .ok (.lload_n j, len)) (he : ex M (.lload_n j) len pc ls st k h = some r) : Sx p l e R s m args below meth c P M pc la st k H locs r := by
  obtain ⟨h9, hE⟩ := ln_inv he; subst h9; replace he := hE; clear hE
  obtain ⟨x, hx, he⟩ := gl_inv he
  exact Sx.n he fun Q kk => lv_lload_n C.1.1 C.1.2.1 hd rfl (B.2.2.get hx rfl) (kk _ _ _ B)
theorem sn_lload {j : Nat} (C : CX P M p R s m args meth c) (B : BX P s (m_ml M) H locs ls la h) (hd : decode (m_b M) pc = .ok (.lload j, len)) (he : ex M (.lload j) len pc ls st k h = some r) : Sx p l e R s m args below meth c P M pc la st k H locs r := by
  obtain ⟨h9, hE⟩ := ln_inv he; subst h9; replace he := hE; clear hE
  obtain ⟨x, hx, he⟩ := gl_inv he
  exact Sx.n he fun Q kk => lv_lload C.1.1 C.1.2.1 hd (B.2.2.get hx rfl) (kk _ _ _ B)
theorem sn_aload_n {j : Fin 4} (C : CX P M p R s m args meth c) (B : BX P s (m_ml M) H locs ls la h) (hd : decode (m_b M) pc = .ok (.aload_n j, len)) (he : ex M (.aload_n j) len pc ls st k h = some r) : Sx p l e R s m args below meth c P M pc la st k H locs r := by
  obtain ⟨h9, hE⟩ := ln_inv he; subst h9; replace he := hE; clear hE
  rcases gr_inv he with ⟨x, hx, he⟩ | ⟨hx, he⟩
  · exact Sx.n he fun Q kk => lv_aload_n C.1.1 C.1.2.1 hd rfl (B.2.2.get hx rfl) (kk _ _ _ B)
  · exact Sx.n he fun Q kk => lv_aload_nN C.1.1 C.1.2.1 hd rfl (B.2.2.get hx rfl) (kk _ _ _ B)
theorem sn_aload {j : Nat} (C : CX P M p R s m args meth c) (B : BX P s (m_ml M) H locs ls la h) (hd : decode (m_b M) pc = .ok (.aload j, len)) (he : ex M (.aload j) len pc ls st k h = some r) : Sx p l e R s m args below meth c P M pc la st k H locs r := by
  obtain ⟨h9, hE⟩ := ln_inv he; subst h9; replace he := hE; clear hE
  rcases gr_inv he with ⟨x, hx, he⟩ | ⟨hx, he⟩
  · exact Sx.n he fun Q kk => lv_aload C.1.1 C.1.2.1 hd (B.2.2.get hx rfl) (kk _ _ _ B)
  · exact Sx.n he fun Q kk => lv_aloadN C.1.1 C.1.2.1 hd (B.2.2.get hx rfl) (kk _ _ _ B)
theorem sn_istore_n {j : Fin 4} (C : CX P M p R s m args meth c) (B : BX P s (m_ml M) H locs ls la h) (hd : decode (m_b M) pc = .ok (.istore_n j, len)) (he : ex M (.istore_n j) len pc ls st k h = some r) : Sx p l e R s m args below meth c P M pc la st k H locs r := by
  obtain ⟨h9, hE⟩ := ln_inv he; subst h9; replace he := hE; clear hE
  obtain ⟨x, st, hq, hE⟩ := pi_inv he; subst hq; replace he := hE; clear hE
  obtain ⟨⟨hj, hk⟩, he⟩ := s1_inv he
  obtain ⟨lv, g1, g2, g3⟩ := B.2.2
  exact Sx.n he fun Q kk => lv_istore_n C.1.1 C.1.2.1 hd rfl g1 (g2 ▸ hj) rfl fun la2 g4 => kk _ _ _ ⟨B.1, B.2.1, LR_s1 g2 g3 hk g4⟩
theorem sn_istore {j : Nat} (C : CX P M p R s m args meth c) (B : BX P s (m_ml M) H locs ls la h) (hd : decode (m_b M) pc = .ok (.istore j, len)) (he : ex M (.istore j) len pc ls st k h = some r) : Sx p l e R s m args below meth c P M pc la st k H locs r := by
  obtain ⟨h9, hE⟩ := ln_inv he; subst h9; replace he := hE; clear hE
  obtain ⟨x, st, hq, hE⟩ := pi_inv he; subst hq; replace he := hE; clear hE
  obtain ⟨⟨hj, hk⟩, he⟩ := s1_inv he
  obtain ⟨lv, g1, g2, g3⟩ := B.2.2
  exact Sx.n he fun Q kk => lv_istore C.1.1 C.1.2.1 hd g1 (g2 ▸ hj) rfl fun la2 g4 => kk _ _ _ ⟨B.1, B.2.1, LR_s1 g2 g3 hk g4⟩
theorem sn_lstore_n {j : Fin 4} (C : CX P M p R s m args meth c) (B : BX P s (m_ml M) H locs ls la h) (hd : decode (m_b M) pc = .ok (.lstore_n j, len)) (he : ex M (.lstore_n j) len pc ls st k h = some r) : Sx p l e R s m args below meth c P M pc la st k H locs r := by
  obtain ⟨h9, hE⟩ := ln_inv he; subst h9; replace he := hE; clear hE
  obtain ⟨x, st, hq, hE⟩ := pl_inv he; subst hq; replace he := hE; clear hE
  obtain ⟨⟨hj, hk⟩, he⟩ := s2_inv he
  obtain ⟨lv, g1, g2, g3⟩ := B.2.2
  exact Sx.n he fun Q kk => lv_lstore_n C.1.1 C.1.2.1 hd rfl g1 (g2 ▸ hj) rfl fun la2 g4 => kk _ _ _ ⟨B.1, B.2.1, LR_s2 g2 g3 hk g4⟩
theorem sn_astore_n {j : Fin 4} (C : CX P M p R s m args meth c) (B : BX P s (m_ml M) H locs ls la h) (hd : decode (m_b M) pc = .ok (.astore_n j, len)) (he : ex M (.astore_n j) len pc ls st k h = some r) : Sx p l e R s m args below meth c P M pc la st k H locs r := by
  obtain ⟨h9, hE⟩ := ln_inv he; subst h9; replace he := hE; clear hE
  obtain ⟨v, st, hq, hE⟩ := pv_inv he; subst hq; replace he := hE; clear hE
  cases v with
  | ref x =>
    obtain ⟨⟨hj, hk⟩, he⟩ := s1_inv he
    obtain ⟨lv, g1, g2, g3⟩ := B.2.2
    exact Sx.n he fun Q kk => lv_astore_n C.1.1 C.1.2.1 hd rfl g1 (g2 ▸ hj) rfl fun la2 g4 => kk _ _ _ ⟨B.1, B.2.1, LR_s1 g2 g3 hk g4⟩
  | null =>
    obtain ⟨⟨hj, hk⟩, he⟩ := s1_inv he
    obtain ⟨lv, g1, g2, g3⟩ := B.2.2
    exact Sx.n he fun Q kk => lv_astore_nN C.1.1 C.1.2.1 hd rfl g1 (g2 ▸ hj) rfl fun la2 g4 => kk _ _ _ ⟨B.1, B.2.1, LR_s1 g2 g3 hk g4⟩
  | _ => cases he
theorem sn_lstore {j : Nat} (C : CX P M p R s m args meth c) (B : BX P s (m_ml M) H locs ls la h) (hd : decode (m_b M) pc = .ok (.lstore j, len)) (he : ex M (.lstore j) len pc ls st k h = some r) : Sx p l e R s m args below meth c P M pc la st k H locs r := by
  obtain ⟨h9, hE⟩ := ln_inv he; subst h9; replace he := hE; clear hE
  obtain ⟨x, st, hq, hE⟩ := pl_inv he; subst hq; replace he := hE; clear hE
  obtain ⟨⟨hj, hk⟩, he⟩ := s2_inv he
  obtain ⟨lv, g1, g2, g3⟩ := B.2.2
  exact Sx.n he fun Q kk => lv_lstore C.1.1 C.1.2.1 hd g1 (g2 ▸ hj) rfl fun la2 g4 => kk _ _ _ ⟨B.1, B.2.1, LR_s2 g2 g3 hk g4⟩
theorem sn_astore {j : Nat} (C : CX P M p R s m args meth c) (B : BX P s (m_ml M) H locs ls la h) (hd : decode (m_b M) pc = .ok (.astore j, len)) (he : ex M (.astore j) len pc ls st k h = some r) : Sx p l e R s m args below meth c P M pc la st k H locs r := by
  obtain ⟨h9, hE⟩ := ln_inv he; subst h9; replace he := hE; clear hE
  obtain ⟨v, st, hq, hE⟩ := pv_inv he; subst hq; replace he := hE; clear hE
  cases v with
  | ref x =>
    obtain ⟨⟨hj, hk⟩, he⟩ := s1_inv he
    obtain ⟨lv, g1, g2, g3⟩ := B.2.2
    exact Sx.n he fun Q kk => lv_astore C.1.1 C.1.2.1 hd g1 (g2 ▸ hj) rfl fun la2 g4 => kk _ _ _ ⟨B.1, B.2.1, LR_s1 g2 g3 hk g4⟩
  | null =>
    obtain ⟨⟨hj, hk⟩, he⟩ := s1_inv he
    obtain ⟨lv, g1, g2, g3⟩ := B.2.2
    exact Sx.n he fun Q kk => lv_astoreN C.1.1 C.1.2.1 hd g1 (g2 ▸ hj) rfl fun la2 g4 => kk _ _ _ ⟨B.1, B.2.1, LR_s1 g2 g3 hk g4⟩
  | _ => cases he
theorem sn_iinc {j : Nat} {n : Int} (C : CX P M p R s m args meth c) (B : BX P s (m_ml M) H locs ls la h) (hd : decode (m_b M) pc = .ok (.iinc j n, len)) (he : ex M (.iinc j n) len pc ls st k h = some r) : Sx p l e R s m args below meth c P M pc la st k H locs r := by
  obtain ⟨h9, hE⟩ := ln_inv he; subst h9; replace he := hE; clear hE
  obtain ⟨x, hx, he⟩ := gi_inv he
  obtain ⟨⟨hj, hk⟩, he⟩ := s1_inv he
  obtain ⟨lv, g1, g2, g3⟩ := B.2.2
  obtain ⟨z, hz⟩ := List.getElem?_of_mem (g3 j _ hx rfl)
  exact Sx.n he fun Q kk => lv_iinc C.1.1 C.1.2.1 hd g1 hz rfl (g2 ▸ hj) rfl fun la2 g4 => kk _ _ _ ⟨B.1, B.2.1, LR_s1 g2 g3 hk g4⟩
theorem sn_iadd (C : CX P M p R s m args meth c) (B : BX P s (m_ml M) H locs ls la h) (hd : decode (m_b M) pc = .ok (.iadd, len)) (he : ex M (.iadd) len pc ls st k h = some r) : Sx p l e R s m args below meth c P M pc la st k H locs r := by
  obtain ⟨h9, hE⟩ := ln_inv he; subst h9; replace he := hE; clear hE
  obtain ⟨x, y, st, hq, hE⟩ := pi2_inv he; subst hq; replace he := hE; clear hE
  exact Sx.n he fun Q kk => lv_iadd C.1.1 C.1.2.1 hd (kk _ _ _ B)
theorem sn_isub (C : CX P M p R s m args meth c) (B : BX P s (m_ml M) H locs ls la h) (hd : decode (m_b M) pc = .ok (.isub, len)) (he : ex M (.isub) len pc ls st k h = some r) : Sx p l e R s m args below meth c P M pc la st k H locs r := by
  obtain ⟨h9, hE⟩ := ln_inv he; subst h9; replace he := hE; clear hE
  obtain ⟨x, y, st, hq, hE⟩ := pi2_inv he; subst hq; replace he := hE; clear hE
  exact Sx.n he fun Q kk => lv_isub C.1.1 C.1.2.1 hd (kk _ _ _ B)
theorem sn_imul (C : CX P M p R s m args meth c) (B : BX P s (m_ml M) H locs ls la h) (hd : decode (m_b M) pc = .ok (.imul, len)) (he : ex M (.imul) len pc ls st k h = some r) : Sx p l e R s m args below meth c P M pc la st k H locs r := by
  obtain ⟨h9, hE⟩ := ln_inv he; subst h9; replace he := hE; clear hE
  obtain ⟨x, y, st, hq, hE⟩ := pi2_inv he; subst hq; replace he := hE; clear hE
  exact Sx.n he fun Q kk => lv_imul C.1.1 C.1.2.1 hd (kk _ _ _ B)
theorem sn_iand (C : CX P M p R s m args meth c) (B : BX P s (m_ml M) H locs ls la h) (hd : decode (m_b M) pc = .ok (.iand, len)) (he : ex M (.iand) len pc ls st k h = some r) : Sx p l e R s m args below meth c P M pc la st k H locs r := by
  obtain ⟨h9, hE⟩ := ln_inv he; subst h9; replace he := hE; clear hE
  obtain ⟨x, y, st, hq, hE⟩ := pi2_inv he; subst hq; replace he := hE; clear hE
  exact Sx.n he fun Q kk => lv_iand C.1.1 C.1.2.1 hd (kk _ _ _ B)
theorem sn_ior (C : CX P M p R s m args meth c) (B : BX P s (m_ml M) H locs ls la h) (hd : decode (m_b M) pc = .ok (.ior, len)) (he : ex M (.ior) len pc ls st k h = some r) : Sx p l e R s m args below meth c P M pc la st k H locs r := by
  obtain ⟨h9, hE⟩ := ln_inv he; subst h9; replace he := hE; clear hE
  obtain ⟨x, y, st, hq, hE⟩ := pi2_inv he; subst hq; replace he := hE; clear hE
  exact Sx.n he fun Q kk => lv_ior C.1.1 C.1.2.1 hd (kk _ _ _ B)
theorem sn_ishl (C : CX P M p R s m args meth c) (B : BX P s (m_ml M) H locs ls la h) (hd : decode (m_b M) pc = .ok (.ishl, len)) (he : ex M (.ishl) len pc ls st k h = some r) : Sx p l e R s m args below meth c P M pc la st k H locs r := by
  obtain ⟨h9, hE⟩ := ln_inv he; subst h9; replace he := hE; clear hE
  obtain ⟨x, y, st, hq, hE⟩ := pi2_inv he; subst hq; replace he := hE; clear hE
  exact Sx.n he fun Q kk => lv_ishl C.1.1 C.1.2.1 hd (kk _ _ _ B)
theorem sn_i2c (C : CX P M p R s m args meth c) (B : BX P s (m_ml M) H locs ls la h) (hd : decode (m_b M) pc = .ok (.i2c, len)) (he : ex M (.i2c) len pc ls st k h = some r) : Sx p l e R s m args below meth c P M pc la st k H locs r := by
  obtain ⟨h9, hE⟩ := ln_inv he; subst h9; replace he := hE; clear hE
  obtain ⟨x, st, hq, hE⟩ := pi_inv he; subst hq; replace he := hE; clear hE
  exact Sx.n he fun Q kk => lv_i2c C.1.1 C.1.2.1 hd rfl (kk _ _ _ B)
theorem sn_ladd (C : CX P M p R s m args meth c) (B : BX P s (m_ml M) H locs ls la h) (hd : decode (m_b M) pc = .ok (.ladd, len)) (he : ex M (.ladd) len pc ls st k h = some r) : Sx p l e R s m args below meth c P M pc la st k H locs r := by
  obtain ⟨h9, hE⟩ := ln_inv he; subst h9; replace he := hE; clear hE
  obtain ⟨x, y, st, hq, hE⟩ := pl2_inv he; subst hq; replace he := hE; clear hE
  exact Sx.n he fun Q kk => lv_ladd C.1.1 C.1.2.1 hd (kk _ _ _ B)
theorem sn_lsub (C : CX P M p R s m args meth c) (B : BX P s (m_ml M) H locs ls la h) (hd : decode (m_b M) pc = .ok (.lsub, len)) (he : ex M (.lsub) len pc ls st k h = some r) : Sx p l e R s m args below meth c P M pc la st k H locs r := by
  obtain ⟨h9, hE⟩ := ln_inv he; subst h9; replace he := hE; clear hE
  obtain ⟨x, y, st, hq, hE⟩ := pl2_inv he; subst hq; replace he := hE; clear hE
  exact Sx.n he fun Q kk => lv_lsub C.1.1 C.1.2.1 hd (kk _ _ _ B)
theorem sn_lmul (C : CX P M p R s m args meth c) (B : BX P s (m_ml M) H locs ls la h) (hd : decode (m_b M) pc = .ok (.lmul, len)) (he : ex M (.lmul) len pc ls st k h = some r) : Sx p l e R s m args below meth c P M pc la st k H locs r := by
  obtain ⟨h9, hE⟩ := ln_inv he; subst h9; replace he := hE; clear hE
  obtain ⟨x, y, st, hq, hE⟩ := pl2_inv he; subst hq; replace he := hE; clear hE
  exact Sx.n he fun Q kk => lv_lmul C.1.1 C.1.2.1 hd (kk _ _ _ B)
theorem sn_idiv (C : CX P M p R s m args meth c) (B : BX P s (m_ml M) H locs ls la h) (hd : decode (m_b M) pc = .ok (.idiv, len)) (he : ex M (.idiv) len pc ls st k h = some r) : Sx p l e R s m args below meth c P M pc la st k H locs r := by
  obtain ⟨h9, hE⟩ := ln_inv he; subst h9; replace he := hE; clear hE
  obtain ⟨x, y, st, hq, hE⟩ := pi2_inv he; subst hq; replace he := hE; clear hE
  obtain ⟨h0, he⟩ := ie_inv he
  exact Sx.n he fun Q kk => lv_idiv C.1.1 C.1.2.1 hd h0 (kk _ _ _ B)
theorem sn_irem (C : CX P M p R s m args meth c) (B : BX P s (m_ml M) H locs ls la h) (hd : decode (m_b M) pc = .ok (.irem, len)) (he : ex M (.irem) len pc ls st k h = some r) : Sx p l e R s m args below meth c P M pc la st k H locs r := by
  obtain ⟨h9, hE⟩ := ln_inv he; subst h9; replace he := hE; clear hE
  obtain ⟨x, y, st, hq, hE⟩ := pi2_inv he; subst hq; replace he := hE; clear hE
  obtain ⟨h0, he⟩ := ie_inv he
  exact Sx.n he fun Q kk => lv_irem C.1.1 C.1.2.1 hd h0 (kk _ _ _ B)
theorem sn_ldiv (C : CX P M p R s m args meth c) (B : BX P s (m_ml M) H locs ls la h) (hd : decode (m_b M) pc = .ok (.ldiv, len)) (he : ex M (.ldiv) len pc ls st k h = some r) : Sx p l e R s m args below meth c P M pc la st k H locs r := by
  obtain ⟨h9, hE⟩ := ln_inv he; subst h9; replace he := hE; clear hE
  obtain ⟨x, y, st, hq, hE⟩ := pl2_inv he; subst hq; replace he := hE; clear hE
  obtain ⟨h0, he⟩ := ie_inv he
  exact Sx.n he fun Q kk => lv_ldiv C.1.1 C.1.2.1 hd h0 (kk _ _ _ B)
theorem sn_lrem (C : CX P M p R s m args meth c) (B : BX P s (m_ml M) H locs ls la h) (hd : decode (m_b M) pc = .ok (.lrem, len)) (he : ex M (.lrem) len pc ls st k h = some r) : Sx p l e R s m args below meth c P M pc la st k H locs r := by
  obtain ⟨h9, hE⟩ := ln_inv he; subst h9; replace he := hE; clear hE
  obtain ⟨x, y, st, hq, hE⟩ := pl2_inv he; subst hq; replace he := hE; clear hE
  obtain ⟨h0, he⟩ := ie_inv he
  exact Sx.n he fun Q kk => lv_lrem C.1.1 C.1.2.1 hd h0 (kk _ _ _ B)
theorem sn_ishr (C : CX P M p R s m args meth c) (B : BX P s (m_ml M) H locs ls la h) (hd : decode (m_b M) pc = .ok (.ishr, len)) (he : ex M (.ishr) len pc ls st k h = some r) : Sx p l e R s m args below meth c P M pc la st k H locs r := by
  obtain ⟨h9, hE⟩ := ln_inv he; subst h9; replace he := hE; clear hE
  obtain ⟨x, y, st, hq, hE⟩ := pi2_inv he; subst hq; replace he := hE; clear hE
  exact Sx.n he fun Q kk => lv_ishr C.1.1 C.1.2.1 hd (kk _ _ _ B)
theorem sn_iushr (C : CX P M p R s m args meth c) (B : BX P s (m_ml M) H locs ls la h) (hd : decode (m_b M) pc = .ok (.iushr, len)) (he : ex M (.iushr) len pc ls st k h = some r) : Sx p l e R s m args below meth c P M pc la st k H locs r := by
  obtain ⟨h9, hE⟩ := ln_inv he; subst h9; replace he := hE; clear hE
  obtain ⟨x, y, st, hq, hE⟩ := pi2_inv he; subst hq; replace he := hE; clear hE
  exact Sx.n he fun Q kk => lv_iushr C.1.1 C.1.2.1 hd rfl (kk _ _ _ B)
theorem sn_ineg (C : CX P M p R s m args meth c) (B : BX P s (m_ml M) H locs ls la h) (hd : decode (m_b M) pc = .ok (.ineg, len)) (he : ex M (.ineg) len pc ls st k h = some r) : Sx p l e R s m args below meth c P M pc la st k H locs r := by
  obtain ⟨h9, hE⟩ := ln_inv he; subst h9; replace he := hE; clear hE
  obtain ⟨x, st, hq, hE⟩ := pi_inv he; subst hq; replace he := hE; clear hE
  exact Sx.n he fun Q kk => lv_ineg C.1.1 C.1.2.1 hd (kk _ _ _ B)
theorem sn_i2l (C : CX P M p R s m args meth c) (B : BX P s (m_ml M) H locs ls la h) (hd : decode (m_b M) pc = .ok (.i2l, len)) (he : ex M (.i2l) len pc ls st k h = some r) : Sx p l e R s m args below meth c P M pc la st k H locs r := by
  obtain ⟨h9, hE⟩ := ln_inv he; subst h9; replace he := hE; clear hE
  obtain ⟨x, st, hq, hE⟩ := pi_inv he; subst hq; replace he := hE; clear hE
  exact Sx.n he fun Q kk => lv_i2l C.1.1 C.1.2.1 hd rfl (kk _ _ _ B)
theorem sn_i2b (C : CX P M p R s m args meth c) (B : BX P s (m_ml M) H locs ls la h) (hd : decode (m_b M) pc = .ok (.i2b, len)) (he : ex M (.i2b) len pc ls st k h = some r) : Sx p l e R s m args below meth c P M pc la st k H locs r := by
  obtain ⟨h9, hE⟩ := ln_inv he; subst h9; replace he := hE; clear hE
  obtain ⟨x, st, hq, hE⟩ := pi_inv he; subst hq; replace he := hE; clear hE
  exact Sx.n he fun Q kk => lv_i2b C.1.1 C.1.2.1 hd rfl (kk _ _ _ B)
theorem sn_l2i (C : CX P M p R s m args meth c) (B : BX P s (m_ml M) H locs ls la h) (hd : decode (m_b M) pc = .ok (.l2i, len)) (he : ex M (.l2i) len pc ls st k h = some r) : Sx p l e R s m args below meth c P M pc la st k H locs r := by
  obtain ⟨h9, hE⟩ := ln_inv he; subst h9; replace he := hE; clear hE
  obtain ⟨x, st, hq, hE⟩ := pl_inv he; subst hq; replace he := hE; clear hE
  exact Sx.n he fun Q kk => lv_l2i C.1.1 C.1.2.1 hd rfl (kk _ _ _ B)
theorem lcmp_v (x y : Int64) : (if x < y then (-1 : Int32) else if x = y then 0 else 1) = lg_cmp x y := by
  unfold lg_cmp
  rcases lg_tri x y with q | q | q
  · simp [q, lg_lt_not q, lg_lt_ne q]
  · subst q
    simp
  · simp [q, lg_lt_not q, Ne.symm (lg_lt_ne q)]
theorem sn_lcmp (C : CX P M p R s m args meth c) (B : BX P s (m_ml M) H locs ls la h) (hd : decode (m_b M) pc = .ok (.lcmp, len)) (he : ex M (.lcmp) len pc ls st k h = some r) : Sx p l e R s m args below meth c P M pc la st k H locs r := by
  obtain ⟨h9, hE⟩ := ln_inv he; subst h9; replace he := hE; clear hE
  obtain ⟨x, y, st, hq, hE⟩ := pl2_inv he; subst hq; replace he := hE; clear hE
  rw [lcmp_v] at he
  exact Sx.n he fun Q kk => W.lcmp C.1.1 C.1.2.1 hd (kk _ _ _ B)
theorem i_nlt {x y : Int32} : ¬ x < y → y ≤ x := fun h => Int32.not_lt.mp h
theorem i_nle {x y : Int32} : ¬ x ≤ y → y < x := fun h => Int32.not_le.mp h
theorem i_lt_n {x y : Int32} : x < y → ¬ y ≤ x := fun h => Int32.not_le.mpr h
theorem i_le_n {x y : Int32} : x ≤ y → ¬ y < x := fun h => Int32.not_lt.mpr h
theorem sn_ifCond {c0 : Jvm.ClassFile.Cond} {off : Int} (C : CX P M p R s m args meth c) (B : BX P s (m_ml M) H locs ls la h) (hd : decode (m_b M) pc = .ok (.ifCond c0 off, len)) (he : ex M (.ifCond c0 off) len pc ls st k h = some r) : Sx p l e R s m args below meth c P M pc la st k H locs r := by
  obtain ⟨h9, hE⟩ := ln_inv he; subst h9; replace he := hE; clear hE
  obtain ⟨x, st, hq, hE⟩ := pi_inv he; subst hq; replace he := hE; clear hE
  obtain ⟨t, ht, he⟩ := tg_inv he
  cases c0 with
  | eq =>
    by_cases hx : x = 0
    · replace he := (if_pos hx).symm.trans he
      exact Sx.n he fun Q kk => lv_if_eq C.1.1 C.1.2.1 hd ht (fun hy => kk _ _ _ B) (fun hy => absurd hx hy)
    · replace he := (if_neg hx).symm.trans he
      exact Sx.n he fun Q kk => lv_if_eq C.1.1 C.1.2.1 hd ht (fun hy => absurd hy hx) (fun hy => kk _ _ _ B)
  | ne =>
    by_cases hx : x = 0
    · replace he := (if_pos hx).symm.trans he
      exact Sx.n he fun Q kk => lv_if_ne C.1.1 C.1.2.1 hd ht (fun hy => absurd hx hy) (fun hy => kk _ _ _ B)
    · replace he := (if_neg hx).symm.trans he
      exact Sx.n he fun Q kk => lv_if_ne C.1.1 C.1.2.1 hd ht (fun hy => kk _ _ _ B) (fun hy => absurd hy hx)
  | lt =>
    by_cases hx : x < 0
    · replace he := (if_pos hx).symm.trans he
      exact Sx.n he fun Q kk => lv_if_lt C.1.1 C.1.2.1 hd ht (fun hy => kk _ _ _ B) (fun hy => absurd hx hy)
    · replace he := (if_neg hx).symm.trans he
      exact Sx.n he fun Q kk => lv_if_lt C.1.1 C.1.2.1 hd ht (fun hy => absurd hy hx) (fun hy => kk _ _ _ B)
  | ge =>
    by_cases hx : x < 0
    · replace he := (if_pos hx).symm.trans he
      exact Sx.n he fun Q kk => lv_if_ge C.1.1 C.1.2.1 hd ht (fun hy => absurd hy (i_lt_n hx)) (fun hy => kk _ _ _ B)
    · replace he := (if_neg hx).symm.trans he
      exact Sx.n he fun Q kk => lv_if_ge C.1.1 C.1.2.1 hd ht (fun hy => kk _ _ _ B) (fun hy => absurd (i_nlt hx) hy)
  | gt =>
    by_cases hx : x ≤ 0
    · replace he := (if_pos hx).symm.trans he
      exact Sx.n he fun Q kk => lv_if_gt C.1.1 C.1.2.1 hd ht (fun hy => absurd hy (i_le_n hx)) (fun hy => kk _ _ _ B)
    · replace he := (if_neg hx).symm.trans he
      exact Sx.n he fun Q kk => lv_if_gt C.1.1 C.1.2.1 hd ht (fun hy => kk _ _ _ B) (fun hy => absurd (i_nle hx) hy)
  | le =>
    by_cases hx : x ≤ 0
    · replace he := (if_pos hx).symm.trans he
      exact Sx.n he fun Q kk => lv_if_le C.1.1 C.1.2.1 hd ht (fun hy => kk _ _ _ B) (fun hy => absurd hx hy)
    · replace he := (if_neg hx).symm.trans he
      exact Sx.n he fun Q kk => lv_if_le C.1.1 C.1.2.1 hd ht (fun hy => absurd hy hx) (fun hy => kk _ _ _ B)
theorem sn_if_icmp {c0 : Jvm.ClassFile.Cond} {off : Int} (C : CX P M p R s m args meth c) (B : BX P s (m_ml M) H locs ls la h) (hd : decode (m_b M) pc = .ok (.if_icmp c0 off, len)) (he : ex M (.if_icmp c0 off) len pc ls st k h = some r) : Sx p l e R s m args below meth c P M pc la st k H locs r := by
  obtain ⟨h9, hE⟩ := ln_inv he; subst h9; replace he := hE; clear hE
  obtain ⟨x, y, st, hq, hE⟩ := pi2_inv he; subst hq; replace he := hE; clear hE
  obtain ⟨t, ht, he⟩ := tg_inv he
  cases c0 with
  | eq =>
    by_cases hx : x = y
    · replace he := (if_pos hx).symm.trans he
      exact Sx.n he fun Q kk => lv_icmp_eq C.1.1 C.1.2.1 hd ht (fun hy => kk _ _ _ B) (fun hy => absurd hx hy)
    · replace he := (if_neg hx).symm.trans he
      exact Sx.n he fun Q kk => lv_icmp_eq C.1.1 C.1.2.1 hd ht (fun hy => absurd hy hx) (fun hy => kk _ _ _ B)
  | ne =>
    by_cases hx : x = y
    · replace he := (if_pos hx).symm.trans he
      exact Sx.n he fun Q kk => lv_icmp_ne C.1.1 C.1.2.1 hd ht (fun hy => absurd hx hy) (fun hy => kk _ _ _ B)
    · replace he := (if_neg hx).symm.trans he
      exact Sx.n he fun Q kk => lv_icmp_ne C.1.1 C.1.2.1 hd ht (fun hy => kk _ _ _ B) (fun hy => absurd hy hx)
  | lt =>
    by_cases hx : x < y
    · replace he := (if_pos hx).symm.trans he
      exact Sx.n he fun Q kk => lv_icmp_lt C.1.1 C.1.2.1 hd ht (fun hy => kk _ _ _ B) (fun hy => absurd hx hy)
    · replace he := (if_neg hx).symm.trans he
      exact Sx.n he fun Q kk => lv_icmp_lt C.1.1 C.1.2.1 hd ht (fun hy => absurd hy hx) (fun hy => kk _ _ _ B)
  | ge =>
    by_cases hx : x < y
    · replace he := (if_pos hx).symm.trans he
      exact Sx.n he fun Q kk => lv_icmp_ge C.1.1 C.1.2.1 hd ht (fun hy => absurd hy (i_lt_n hx)) (fun hy => kk _ _ _ B)
    · replace he := (if_neg hx).symm.trans he
      exact Sx.n he fun Q kk => lv_icmp_ge C.1.1 C.1.2.1 hd ht (fun hy => kk _ _ _ B) (fun hy => absurd (i_nlt hx) hy)
  | gt =>
    by_cases hx : x ≤ y
    · replace he := (if_pos hx).symm.trans he
      exact Sx.n he fun Q kk => lv_icmp_gt C.1.1 C.1.2.1 hd ht (fun hy => absurd hy (i_le_n hx)) (fun hy => kk _ _ _ B)
    · replace he := (if_neg hx).symm.trans he
      exact Sx.n he fun Q kk => lv_icmp_gt C.1.1 C.1.2.1 hd ht (fun hy => kk _ _ _ B) (fun hy => absurd (i_nle hx) hy)
  | le =>
    by_cases hx : x ≤ y
    · replace he := (if_pos hx).symm.trans he
      exact Sx.n he fun Q kk => lv_icmp_le C.1.1 C.1.2.1 hd ht (fun hy => kk _ _ _ B) (fun hy => absurd hx hy)
    · replace he := (if_neg hx).symm.trans he
      exact Sx.n he fun Q kk => lv_icmp_le C.1.1 C.1.2.1 hd ht (fun hy => absurd hy hx) (fun hy => kk _ _ _ B)
theorem sn_ifnull {off : Int} (C : CX P M p R s m args meth c) (B : BX P s (m_ml M) H locs ls la h) (hd : decode (m_b M) pc = .ok (.ifnull off, len)) (he : ex M (.ifnull off) len pc ls st k h = some r) : Sx p l e R s m args below meth c P M pc la st k H locs r := by
  obtain ⟨h9, hE⟩ := ln_inv he; subst h9; replace he := hE; clear hE
  obtain ⟨v, st, hq, hE⟩ := pv_inv he; subst hq; replace he := hE; clear hE
  obtain ⟨t, ht, he⟩ := tg_inv he
  cases v with
  | ref x => exact Sx.n he fun Q kk => lv_ifnull C.1.1 C.1.2.1 hd (kk _ _ _ B)
  | null => exact Sx.n he fun Q kk => lv_ifnullN C.1.1 C.1.2.1 hd ht (kk _ _ _ B)
  | _ => cases he
theorem sn_ifnonnull {off : Int} (C : CX P M p R s m args meth c) (B : BX P s (m_ml M) H locs ls la h) (hd : decode (m_b M) pc = .ok (.ifnonnull off, len)) (he : ex M (.ifnonnull off) len pc ls st k h = some r) : Sx p l e R s m args below meth c P M pc la st k H locs r := by
  obtain ⟨h9, hE⟩ := ln_inv he; subst h9; replace he := hE; clear hE
  obtain ⟨v, st, hq, hE⟩ := pv_inv he; subst hq; replace he := hE; clear hE
  obtain ⟨t, ht, he⟩ := tg_inv he
  cases v with
  | ref x => exact Sx.n he fun Q kk => lv_ifnonnull C.1.1 C.1.2.1 hd ht (kk _ _ _ B)
  | null => exact Sx.n he fun Q kk => lv_ifnonnullN C.1.1 C.1.2.1 hd (kk _ _ _ B)
  | _ => cases he
theorem sn_goto {off : Int} (C : CX P M p R s m args meth c) (B : BX P s (m_ml M) H locs ls la h) (hd : decode (m_b M) pc = .ok (.goto off, len)) (he : ex M (.goto off) len pc ls st k h = some r) : Sx p l e R s m args below meth c P M pc la st k H locs r := by
  obtain ⟨h9, hE⟩ := ln_inv he; subst h9; replace he := hE; clear hE
  obtain ⟨t, ht, he⟩ := tg_inv he
  exact Sx.n he fun Q kk => lv_goto C.1.1 C.1.2.1 hd ht (kk _ _ _ B)
theorem sn_tableswitch {d lo hi : Int} {offs : Array Int} (C : CX P M p R s m args meth c) (B : BX P s (m_ml M) H locs ls la h) (hd : decode (m_b M) pc = .ok (.tableswitch d lo hi offs, len)) (he : ex M (.tableswitch d lo hi offs) len pc ls st k h = some r) : Sx p l e R s m args below meth c P M pc la st k H locs r := by
  obtain ⟨x, st, hq, hE⟩ := pi_inv he; subst hq; replace he := hE; clear hE
  by_cases hx : x.toInt < lo ∨ hi < x.toInt
  · replace he := (if_pos hx).symm.trans he
    obtain ⟨t, ht, he⟩ := tg_inv he
    exact Sx.n he fun Q kk => lv_tableOut C.1.1 C.1.2.1 hd hx ht (kk _ _ _ B)
  · replace he := (if_neg hx).symm.trans he
    split at he
    · next off ho =>
      obtain ⟨t, ht, he⟩ := tg_inv he
      exact Sx.n he fun Q kk => lv_tableIn C.1.1 C.1.2.1 hd (fun q => hx (Or.inl q)) (fun q => hx (Or.inr q)) ho ht (kk _ _ _ B)
    · cases he
theorem sn_lookupswitch {d : Int} {ps : Array (Int × Int)} (C : CX P M p R s m args meth c) (B : BX P s (m_ml M) H locs ls la h) (hd : decode (m_b M) pc = .ok (.lookupswitch d ps, len)) (he : ex M (.lookupswitch d ps) len pc ls st k h = some r) : Sx p l e R s m args below meth c P M pc la st k H locs r := by
  obtain ⟨x, st, hq, hE⟩ := pi_inv he; subst hq; replace he := hE; clear hE
  obtain ⟨hp, he⟩ := it_inv he
  obtain ⟨t, ht, he⟩ := tg_inv he
  exact Sx.n he fun Q kk => lv_lookup C.1.1 C.1.2.1 hd hp rfl ht (kk _ _ _ B)
theorem sn_dup (C : CX P M p R s m args meth c) (B : BX P s (m_ml M) H locs ls la h) (hd : decode (m_b M) pc = .ok (.dup, len)) (he : ex M (.dup) len pc ls st k h = some r) : Sx p l e R s m args below meth c P M pc la st k H locs r := by
  obtain ⟨h9, hE⟩ := ln_inv he; subst h9; replace he := hE; clear hE
  obtain ⟨v, st, hq, hE⟩ := pv_inv he; subst hq; replace he := hE; clear hE
  obtain ⟨h0, he⟩ := ie_inv he
  exact Sx.n he fun Q kk => lv_dup C.1.1 C.1.2.1 hd (c2_cat h0) (kk _ _ _ B)
theorem sn_pop (C : CX P M p R s m args meth c) (B : BX P s (m_ml M) H locs ls la h) (hd : decode (m_b M) pc = .ok (.pop, len)) (he : ex M (.pop) len pc ls st k h = some r) : Sx p l e R s m args below meth c P M pc la st k H locs r := by
  obtain ⟨h9, hE⟩ := ln_inv he; subst h9; replace he := hE; clear hE
  obtain ⟨v, st, hq, hE⟩ := pv_inv he; subst hq; replace he := hE; clear hE
  obtain ⟨h0, he⟩ := ie_inv he
  exact Sx.n he fun Q kk => lv_pop C.1.1 C.1.2.1 hd (c2_cat h0) (kk _ _ _ B)
theorem sn_dup_x1 (C : CX P M p R s m args meth c) (B : BX P s (m_ml M) H locs ls la h) (hd : decode (m_b M) pc = .ok (.dup_x1, len)) (he : ex M (.dup_x1) len pc ls st k h = some r) : Sx p l e R s m args below meth c P M pc la st k H locs r := by
  obtain ⟨h9, hE⟩ := ln_inv he; subst h9; replace he := hE; clear hE
  obtain ⟨v, st, hq, hE⟩ := pv_inv he; subst hq; replace he := hE; clear hE
  obtain ⟨w, st, hq, hE⟩ := pv_inv he; subst hq; replace he := hE; clear hE
  obtain ⟨h0, he⟩ := ie_inv he
  exact Sx.n he fun Q kk => lv_dup_x1 C.1.1 C.1.2.1 hd (c2_cat fun q => h0 (Or.inl q)) (c2_cat fun q => h0 (Or.inr q)) (kk _ _ _ B)
theorem sn_dup2 (C : CX P M p R s m args meth c) (B : BX P s (m_ml M) H locs ls la h) (hd : decode (m_b M) pc = .ok (.dup2, len)) (he : ex M (.dup2) len pc ls st k h = some r) : Sx p l e R s m args below meth c P M pc la st k H locs r := by
  obtain ⟨h9, hE⟩ := ln_inv he; subst h9; replace he := hE; clear hE
  obtain ⟨v, st, hq, hE⟩ := pv_inv he; subst hq; replace he := hE; clear hE
  obtain ⟨w, st, hq, hE⟩ := pv_inv he; subst hq; replace he := hE; clear hE
  obtain ⟨h0, he⟩ := ie_inv he
  exact Sx.n he fun Q kk => lv_dup2_11 C.1.1 C.1.2.1 hd (c2_cat fun q => h0 (Or.inl q)) (c2_cat fun q => h0 (Or.inr q)) (kk _ _ _ B)
end SN
