/-! SOUNDNESS of the small machine: pool constants, fields, arrays, makings. -/
theorem HX_put {P : SP} {ρ ρ' : AR} {a c : Nat} {H H' : Heap} (hx : HX P ρ a H) (hc : c < 8) (hk : ρ.1.1 = 10 + c) (h1 : ρ'.1 = ρ.1) (hH : t_OB a ((p_D P).1 c) (NO c) ((p_D P).2 c) H' (fun f => fvr c f ρ')) : HX P ρ' a H' := by
  have e : ρ'.1.1 = 10 + c := by rw [h1]; exact hk
  refine ⟨fun h2 => ?_, fun h2 => absurd h2 (by omega), fun c' hc' hk' => ?_, fun h2 => absurd h2 (by omega), fun h2 => absurd h2 (by omega), fun h2 => absurd h2 (by omega), fun h2 => absurd h2 (by omega)⟩
  · have := isA_or h2
    omega
  · have : c' = c := by omega
    subst this
    exact ⟨(hx.2.2.1 c' hc' hk).1, hH⟩
theorem HX_arr {P : SP} {ρ ρ' : AR} {a k : Nat} {H H' : Heap} (hx : HX P ρ a H) (hk : ρ.1.1 = k) (hA : isA k = true) (h1 : ρ'.1 = ρ.1) (hH : H'[a]? = some (arrV (p_tA P k) ρ.1.2 (vK k ρ'))) (hB : k = 2 → ∀ j, j < ρ.1.2 → fits .byte (.int (ρ'.2.1 j)) = true) : HX P ρ' a H' := by
  subst hk
  have q := isA_or hA
  refine ⟨fun _ => ⟨(hx.1 hA).1, by rw [h1]; exact hH⟩, fun h2 => absurd h2 (by rw [h1]; omega), fun c' hc' hk' => absurd hk' (by rw [h1]; omega), fun h2 => absurd h2 (by rw [h1]; omega), fun h2 => absurd h2 (by rw [h1]; omega), fun h2 => absurd h2 (by rw [h1]; omega), fun h2 => ?_⟩
  rw [h1] at h2 ⊢
  exact hB h2
theorem ar_at {P : SP} {h : AH} {H : Heap} {a k : Nat} (hR : HR P h H) (hk : kd h.1 a = k) (hA : isA k = true) : p_bs P ≤ a ∧ H[a]? = some (arrV (p_tA P k) (le h.1 a) (vK k (arow h a))) := by
  subst hk
  exact (hR.2.1 a).1 hA
theorem ar_fit {P : SP} {h : AH} {H : Heap} {a : Nat} (hR : HR P h H) (hk : kd h.1 a = 2) : ∀ j, j < le h.1 a → fits .byte (.int (h.2.1 a j)) = true := (hR.2.1 a).2.2.2.2.2.2 hk
theorem ob_at {P : SP} {h : AH} {H : Heap} {a c : Nat} (hR : HR P h H) (hc : c < 8) (hk : kd h.1 a = 10 + c) : p_bs P ≤ a ∧ t_OB a ((p_D P).1 c) (NO c) ((p_D P).2 c) H (fun f => fvr c f (arow h a)) := (hR.2.1 a).2.2.1 c hc hk
theorem u2_s {α : Type} (f : Nat → Nat → α) (a i : Nat) (x : α) : u2 f a i x a i = x := if_pos ⟨rfl, rfl⟩
theorem u2_i {α : Type} (f : Nat → Nat → α) (a i : Nat) (x : α) {j : Nat} (h : j ≠ i) : u2 f a i x a j = f a j := if_neg fun q => h q.2
theorem u2_a {α : Type} (f : Nat → Nat → α) (a i : Nat) (x : α) {b : Nat} (h : b ≠ a) : u2 f a i x b = f b := by
  funext j
  exact if_neg fun q => h q.1
theorem fty_val (c f : Nat) (h : okTy (tyO c f) = true) : (fty c f = 0 ∧ (tyO c f = .int ∨ tyO c f = .byte ∨ tyO c f = .boolean)) ∨ (fty c f = 1 ∧ tyO c f = .long) ∨ (fty c f = 2 ∧ ((∃ n, tyO c f = .object n) ∨ ∃ t, tyO c f = .array t)) := by
  unfold fty
  cases hq : tyO c f with
  | int => exact Or.inl ⟨rfl, Or.inl rfl⟩
  | byte => exact Or.inl ⟨rfl, Or.inr (Or.inl rfl)⟩
  | boolean => exact Or.inl ⟨rfl, Or.inr (Or.inr rfl)⟩
  | long => exact Or.inr (Or.inl ⟨rfl, rfl⟩)
  | object n => exact Or.inr (Or.inr ⟨rfl, Or.inl ⟨n, rfl⟩⟩)
  | array t => exact Or.inr (Or.inr ⟨rfl, Or.inr ⟨t, rfl⟩⟩)
  | _ => rw [hq] at h; cases h
theorem fit_b (x : Int32) : fits .byte (.int x.toInt8.toInt32) = true := by
  have h1 := Int8.le_toInt x.toInt8
  have h2 := Int8.toInt_lt x.toInt8
  have e : x.toInt8.toInt32.toInt = x.toInt8.toInt := Int8.toInt_toInt32 _
  show ((-128 : Int32) ≤ x.toInt8.toInt32 && x.toInt8.toInt32 ≤ (127 : Int32)) = true
  rw [Bool.and_eq_true, decide_eq_true_eq, decide_eq_true_eq, Int32.le_iff_toInt_le, Int32.le_iff_toInt_le, e, show ((-128 : Int32)).toInt = -128 from by decide, show ((127 : Int32)).toInt = 127 from by decide]
  omega
theorem fit_z {x : Int32} (h : narrow .boolean (.int x) = .int x) : fits .boolean (.int x) = true := by
  have e : x &&& 1 = x := by
    have := h
    injection this
  have h2 : ∀ y : Int32, (y &&& 1 = 0) ∨ (y &&& 1 = 1) := fun y => by
    have hb : (y &&& 1).toBitVec = y.toBitVec &&& 1#32 := rfl
    rcases (show (y.toBitVec &&& 1#32 = 0#32) ∨ (y.toBitVec &&& 1#32 = 1#32) from by
      rcases Bool.eq_false_or_eq_true (y.toBitVec.getLsbD 0) with q | q
      · right
        apply BitVec.eq_of_getLsbD_eq
        intro i hi
        by_cases z : i = 0
        · subst z; simp [q]
        · simp [z]
      · left
        apply BitVec.eq_of_getLsbD_eq
        intro i hi
        by_cases z : i = 0
        · subst z; simp at q; simp [q]
        · simp [z]) with q | q
    · exact Or.inl (Int32.toBitVec_inj.mp (hb.trans q))
    · exact Or.inr (Int32.toBitVec_inj.mp (hb.trans q))
  rcases h2 x with q | q
  · rw [e] at q; subst q; rfl
  · rw [e] at q; subst q; rfl
theorem fit_n {c f : Nat} {x : Int32} (h : tyO c f = .int ∨ tyO c f = .byte ∨ tyO c f = .boolean) (hn : narrow (tyO c f) (.int x) = .int x) : fits (tyO c f) (.int x) = true := by
  rcases h with h | h | h
  · rw [h]; rfl
  · rw [h] at hn ⊢
    have e : x.toInt8.toInt32 = x := by
      have := hn
      injection this
    rw [← e]
    exact fit_b x
  · rw [h] at hn ⊢
    exact fit_z hn
theorem arrV_st (cA : ClassId) (n j : Nat) (f g : Nat → Value) (v : Value) (h1 : g j = v) (h2 : ∀ q, q ≠ j → g q = f q) : (arrV cA n f).setSlot j v = arrV cA n g := by
  rw [arrV_store]
  congr 1
  funext q
  by_cases hq : q = j
  · subst hq
    simp [updV, h1]
  · simp [updV, hq, h2 q hq]
theorem bL_fit : ∀ g, g < 22 → ∀ j, j < slen.getD g 0 → fits .byte (.int ((bL.getD g []).getD j 0)) = true := by decide +kernel
section SN
variable {p : Program} {l : Launch} {e : Env} {R : Room} {s : State} {m : MethodId} {args : Array Value} {below : List Frame} {meth : Method} {c : Code} {H : Heap} {locs : List Loc} {P : SP} {M : MI} {len pc : Nat} {ls st : List Value} {la : Array Slot} {k : Nat × Nat} {h : AH} {r : SRr}
theorem CX.tb (C : CX P M p R s m args meth c) {w : Cond} (hw : w ∈ TB) : w.before args s = true := C.1.2.2.2.2 w hw
theorem CX.arr (C : CX P M p R s m args meth c) (k : Nat) (hA : isA k = true) : ArrOfT s (p_tA P k) (p_ty k) := (C.2.2.2.1.1.2 (ixA k) _ (tys4_at _ k hA)).1
theorem CX.kt (C : CX P M p R s m args meth c) : KT P s s.heap := C.2.2.2.2.2.1
theorem CX.scr (C : CX P M p R s m args meth c) (hS : va_S (p_A P) s.heap H locs) : va_X (p_b P) (p_L P) (p_xs P) s H := by
  obtain ⟨-, ⟨b1, b2, b3, b4⟩, -⟩ := C.2.2.2
  exact b1.kept (hS.2.1 _ (Nat.lt_of_lt_of_le b2 b4) (Nat.not_le.mpr b2))

theorem kI_1 : ∀ i, i < 12 → kI i = stT.getD i 0 ∧ kO i = RX5 ∧ kP i = stT.getD i 0 := fun i hi => ⟨if_pos hi, if_pos hi, if_pos hi⟩
theorem kI_2 : ∀ j, j < 8 → kI (12 + j) = 1000 + stT2.getD j 0 ∧ kO (12 + j) = RN 11 ∧ kP (12 + j) = stT2.getD j 0 := fun j hj => by
  have e : 12 + j - 12 = j := by omega
  have n : ¬ 12 + j < 12 := by omega
  unfold kI kO kP
  rw [if_neg n, if_neg n, if_neg n, e]
  exact ⟨rfl, rfl, rfl⟩
theorem sn_ldc {i : Nat} (ho : m_own M < 23) (C : CX P M p R s m args meth c) (B : BX P s (m_ml M) H locs ls la h) (hd : decode (m_b M) pc = .ok (.ldc i, len)) (he : ex M (.ldc i) len pc ls st k h = some r) : Sx p l e R s m args below meth c P M pc la st k H locs r := by
  obtain ⟨h9, hE⟩ := ln_inv he; subst h9; replace he := hE; clear hE
  cases hf : ki (m_own M) i with
  | some v =>
    rw [hf] at he
    exact Sx.n he fun Q kk => lv_ldc C.1.1 C.1.2.1 C.1.2.2.2.1 (C.tb (ki_ok ho hf)) hd (kk _ _ _ B)
  | none =>
    rw [hf] at he
    have c2 := C.2.2.2.2.2.2
    replace he : (if m_own M = 5 ∧ i ∈ stT then x_n (pc + 2) ls (.ref (h.1.2.2 i) :: st) k h else if m_own M = 11 ∧ i ∈ stT2.take 8 then x_n (pc + 2) ls (.ref (h.1.2.2 (1000 + i)) :: st) k h else none) = some r := he
    by_cases hc : m_own M = 5 ∧ i ∈ stT
    · rw [if_pos hc] at he
      obtain ⟨h1, h2⟩ := hc
      obtain ⟨j, hj⟩ := List.getElem?_of_mem h2
      have hj2 : j < 12 := (List.getElem?_eq_some_iff.mp hj).1
      have e1 : stT.getD j 0 = i := by rw [List.getD_eq_getElem?_getD, hj]; rfl
      obtain ⟨y1, y2, y3⟩ := kI_1 j hj2
      obtain ⟨tx, ht⟩ := c2 j (by omega)
      have e2 := B.1.2.2.1 j (by omega)
      rw [y1, e1] at e2
      rw [y2, y3, e1] at ht
      exact Sx.n he fun Q kk => va_ldcS C.1.1 C.1.2.1 (by have := C.1.2.2.2.1; rw [h1] at this; exact this) ht hd (by rw [e2] at kk; exact kk _ _ _ B)
    · rw [if_neg hc] at he
      obtain ⟨⟨h1, h2⟩, he⟩ := it_inv he
      obtain ⟨j, hj⟩ := List.getElem?_of_mem h2
      have hj2 : j < 8 := (List.getElem?_eq_some_iff.mp hj).1
      have e1 : stT2.getD j 0 = i := by
        rw [List.getElem?_take_of_lt hj2] at hj
        rw [List.getD_eq_getElem?_getD, hj]
        rfl
      obtain ⟨y1, y2, y3⟩ := kI_2 j hj2
      obtain ⟨tx, ht⟩ := c2 (12 + j) (by omega)
      have e2 := B.1.2.2.1 (12 + j) (by omega)
      rw [y1, e1] at e2
      rw [y2, y3, e1] at ht
      exact Sx.n he fun Q kk => va_ldcS C.1.1 C.1.2.1 (by have := C.1.2.2.2.1; rw [h1] at this; exact this) ht hd (by rw [e2] at kk; exact kk _ _ _ B)
theorem sn_getstatic {i : Nat} (ho : m_own M < 23) (C : CX P M p R s m args meth c) (B : BX P s (m_ml M) H locs ls la h) (hd : decode (m_b M) pc = .ok (.getstatic i, len)) (he : ex M (.getstatic i) len pc ls st k h = some r) : Sx p l e R s m args below meth c P M pc la st k H locs r := by
  obtain ⟨h9, hE⟩ := ln_inv he; subst h9; replace he := hE; clear hE
  obtain ⟨-, -, -, z1, z2, z3, z4, z5⟩ := C.kt
  obtain ⟨-, -, -, w1, w2, w3, w4⟩ := B.1
  split at he
  · rename_i hq
    exact Sx.n he fun Q kk => va_gets C.1.1 C.1.2.1 z1 B.2.1 C.1.2.2.2.1 (C.tb (sg_ok ho hq)) (fun x h => h) hd (kk _ _ _ B)
  · rename_i hq
    rw [w4] at he
    exact Sx.n he fun Q kk => va_gets C.1.1 C.1.2.1 z2 B.2.1 C.1.2.2.2.1 (C.tb (sg_ok ho hq)) (fun x h => h) hd (kk _ _ _ B)
  · rename_i hq
    rw [w1] at he
    exact Sx.n he fun Q kk => va_gets C.1.1 C.1.2.1 z3 B.2.1 C.1.2.2.2.1 (C.tb (sg_ok ho hq)) (fun x h => h) hd (kk _ _ _ B)
  · rename_i hq
    rw [w2] at he
    exact Sx.n he fun Q kk => va_gets C.1.1 C.1.2.1 z4 B.2.1 C.1.2.2.2.1 (C.tb (sg_ok ho hq)) (fun x h => h) hd (kk _ _ _ B)
  · rename_i hq
    rw [w3] at he
    exact Sx.n he fun Q kk => va_gets C.1.1 C.1.2.1 z5 B.2.1 C.1.2.2.2.1 (C.tb (sg_ok ho hq)) (fun x h => h) hd (kk _ _ _ B)
  · cases he
theorem sn_getfield {i : Nat} (ho : m_own M < 23) (C : CX P M p R s m args meth c) (B : BX P s (m_ml M) H locs ls la h) (hd : decode (m_b M) pc = .ok (.getfield i, len)) (he : ex M (.getfield i) len pc ls st k h = some r) : Sx p l e R s m args below meth c P M pc la st k H locs r := by
  obtain ⟨h9, hE⟩ := ln_inv he; subst h9; replace he := hE; clear hE
  cases hf : fl (m_own M) i with
  | none => rw [hf] at he; cases he
  | some q =>
    obtain ⟨cj, f⟩ := q
    rw [hf] at he
    replace he : (p_r st fun a st => if kd h.1 a = 10 + cj ∨ cj = 6 ∧ kd h.1 a = 18 ∧ f < 2 then x_n (pc + 3) ls (fv cj f h a :: st) k h else none) = some r := he
    obtain ⟨⟨hc, hfn⟩, hlink⟩ := fl_ok ho hf
    dsimp only at hc hfn hlink
    obtain ⟨kcl, kws, kty, knm, -, -⟩ := kf_all cj hc
    obtain ⟨t1, t2⟩ := kty f hfn
    have hK := C.2.2.2.1.1
    obtain ⟨hS, hfc, kC, hkC, hkind⟩ := hK.1 cj _ kcl
    obtain ⟨cf, kf, fi, fd, hi, hsl⟩ := hS f hfn
    dsimp only at hi hsl
    have hi2 := hi
    obtain ⟨a, st, hq, hE⟩ := pr_inv he; subst hq; replace he := hE; clear hE
    obtain ⟨hk, he⟩ := it_inv he
    rcases hk with hk | ⟨hc6, hk, hf2⟩
    · obtain ⟨-, cell, q1, q2, q3, q4⟩ := ob_at B.1 hc hk
      have hst := (u_facts hfc hkC (u_lays C.1.2.2.2.2 kws hfn) hi).1
      exact Sx.n he fun Q kk => W.getf C.1.1 C.1.2.1 C.1.2.2.2.1 (C.tb hlink) hi2 hst q1 (by rw [q3]; exact fun h => by cases h) (v := fv cj f h a) (by rw [hsl, q4 f hfn]; rfl) rfl rfl hd (kk _ _ _ B)
    · subst hc6
      obtain ⟨g, g1, g2, g3, g4⟩ := (B.1.2.1 a).2.2.2.1 hk
      obtain ⟨y1, y2, y3⟩ := C.kt.1 g g1
      match f, hf2 with
      | 0, _ =>
        have e : fv 6 0 h a = .ref (p_aV P g) := by
          show va_rf (h.2.2.2 a 0) = _
          rw [show h.2.2.2 a 0 = some (p_aV P g) from g4]
          rfl
        rw [e] at he
        exact Sx.n he fun Q kk => vk_getf C.1.1 C.1.2.1 (by rw [g2]; exact y3) B.2.1 C.1.2.2.2.1 (C.tb hlink) (fun x h => h) hd (kk _ _ _ B)
      | 1, _ =>
        have e : fv 6 1 h a = .int 0 := by
          show Value.int (h.2.1 a 1) = _
          rw [show h.2.1 a 1 = 0 from g3]
        rw [e] at he
        exact Sx.n he fun Q kk => vk_getf C.1.1 C.1.2.1 (by rw [g2]; exact y2) B.2.1 C.1.2.2.2.1 (C.tb hlink) (fun x h => h) hd (kk _ _ _ B)
      | n + 2, hz => exact absurd hz (by omega)
theorem sn_putfield {i : Nat} (ho : m_own M < 23) (C : CX P M p R s m args meth c) (B : BX P s (m_ml M) H locs ls la h) (hd : decode (m_b M) pc = .ok (.putfield i, len)) (he : ex M (.putfield i) len pc ls st k h = some r) : Sx p l e R s m args below meth c P M pc la st k H locs r := by
  obtain ⟨h9, hE⟩ := ln_inv he; subst h9; replace he := hE; clear hE
  cases hf : fl (m_own M) i with
  | none => rw [hf] at he; cases he
  | some q =>
    obtain ⟨cj, f⟩ := q
    rw [hf] at he
    replace he : (p_v st fun v st => p_r st fun a st => if kd h.1 a = 10 + cj ∧ ((TO cj f).2.2.2 = false ∨ (m_y M).name = "<init>" ∧ (TO cj f).1 = RN (m_own M)) then fw cj f a v h fun h => x_n (pc + 3) ls st k h else none) = some r := he
    obtain ⟨⟨hc, hfn⟩, hlink⟩ := fl_ok ho hf
    dsimp only at hc hfn hlink
    obtain ⟨kcl, kws, kty, knm, -, -⟩ := kf_all cj hc
    obtain ⟨t1, t2⟩ := kty f hfn
    have hK := C.2.2.2.1.1
    obtain ⟨hS, hfc, kC, hkC, hkind⟩ := hK.1 cj _ kcl
    obtain ⟨cf, kf, fi, fd, hi, hsl⟩ := hS f hfn
    dsimp only at hi hsl
    have hi2 := hi
    obtain ⟨v, st, hq, hE⟩ := pv_inv he; subst hq; replace he := hE; clear hE
    obtain ⟨a, st, hq, hE⟩ := pr_inv he; subst hq; replace he := hE; clear hE
    obtain ⟨⟨hk, hfin⟩, he⟩ := it_inv he
    have hob := ob_at B.1 hc hk
    obtain ⟨hba, cell, q1, q2, q3, q4⟩ := hob
    have hap : ∀ x y, x < NO cj → y < NO cj → x ≠ y → ((p_D P).2 cj) x ≠ ((p_D P).2 cj) y := va_apart (own := RN (m_own M)) C.1.2.2.2.2 kws (tyO cj) (fun g hg => (kty g hg).1) knm hK kcl
    have key : ∀ h' : AH, h'.1 = h.1 → (∀ q, q ≠ a → arow h' q = arow h q) → (∀ g, g ≠ f → fvr cj g (arow h' a) = fvr cj g (arow h a)) → fvr cj f (arow h' a) = v → narrow (tyO cj f) v = v → fits (tyO cj f) v = true → x_n (pc + 3) ls st k h' = some r → Sx p l e R s m args below meth c P M pc la (v :: .ref a :: st) k H locs r := by
      intro h' h1 h2 h3 h4 hn hft he
      have hlays := u_lays C.1.2.2.2.2 kws hfn
      have hst := (u_facts hfc hkC hlays hi).1
      have fin : ∀ (H1 : Heap), H1[a]? = some (cell.setSlot fd.slot v) → H1.size = H.size → (∀ q, q ≠ a → H1[q]? = H[q]?) → BX P s (m_ml M) H1 (locs ++ [⟨a, fd.slot⟩]) ls la h' := by
        intro H1 e1 e2 e3
        refine ⟨B.1.at1 e2 e3 h1 h2 (HX_put (B.1.2.1 a) hc hk (by show h'.1.2.1 a = h.1.2.1 a; rw [h1]) (t_OB.to (V := updV (fun g => fvr cj g (arow h a)) f v) ⟨_, e1, q2, q3, ?_⟩ fun g hg => ?_)), B.2.1.put e2 e3 hba, B.2.2⟩
        · rw [hsl]
          exact t_set q4 hap hfn v
        · by_cases hgf : g = f
          · subst hgf
            simp [updV, h4]
          · simp [updV, hgf, h3 g hgf]
      rcases hb : (TO cj f).2.2.2 with _ | _
      · have hlay := C.1.2.2.2.2 _ (kws _ (u_in_lay hfn))
        unfold u_lay at hlay
        rw [if_neg (by rw [hb]; decide)] at hlay
        have h6 := u_store hfc hkC hkind hlay hi t1 hn hft
        exact Sx.n he fun Q kk => W.putK C.1.1 C.1.2.1 (f := fd) ⟨C.1.2.2.2.1, C.tb hlink, ⟨_, _, _, hi2⟩, hst⟩ (by rw [q2]; exact h6) q1 q3 (by rw [hsl]; exact k2_hasslot (q4 f hfn)) rfl rfl hd fun H1 e1 e2 e3 => kk _ _ _ (fin H1 e1 e2 e3)
      · obtain ⟨hin2, hdecl⟩ := hfin.resolve_left (by rw [hb]; decide)
        have hlay := C.1.2.2.2.2 _ (kws _ (u_in_lay hfn))
        unfold u_lay at hlay
        rw [if_pos hb] at hlay
        have hcf : m.cls = cf := by
          obtain ⟨_, _, c', _, _, _, -, -, hf', -, -, -, hown2, -⟩ := Cond.laysFinal_spec hlay
          have e1 : c' = cf := by have := hi.symm.trans hf'; simp at this; exact this.1.symm
          rw [hdecl] at hown2
          rw [← e1]; exact Option.some.inj (C.1.2.2.2.1.symm.trans hown2)
        have h6 := u_fits hfc hkC hkind (Or.inr hlay) hi t1 hn hft
        exact Sx.n he fun Q kk => W.putFinK C.1.1 C.1.2.1 C.1.2.2.2.1 (C.tb hlink) hi2 hst hcf (C.2.1.1.trans hin2) (by rw [q2]; exact h6) q1 q3 (by rw [hsl]; exact k2_hasslot (q4 f hfn)) rfl rfl hd fun H1 e1 e2 e3 => kk _ _ _ (fin H1 e1 e2 e3)
    rcases fty_val cj f t2 with ⟨y1, y2⟩ | ⟨y1, y2⟩ | ⟨y1, y2⟩
    · unfold fw at he
      rw [y1] at he
      cases v with
      | int x =>
        obtain ⟨hn, he⟩ := it_inv he
        refine key (h.1, u2 h.2.1 a f x, h.2.2.1, h.2.2.2) rfl (fun q hq => ?_) (fun g hg => ?_) ?_ hn (fit_n y2 hn) he
        · show ((h.1.2.1 q, u2 h.2.1 a f x q, h.2.2.1 q, h.2.2.2 q) : AR) = _
          rw [u2_a _ _ _ _ hq]
          rfl
        · show (match fty cj g with | 0 => Value.int (u2 h.2.1 a f x a g) | 1 => Value.long (h.2.2.1 a g) | _ => va_rf (h.2.2.2 a g)) = _
          rw [u2_i _ _ _ _ hg]
          rfl
        · show (match fty cj f with | 0 => Value.int (u2 h.2.1 a f x a f) | 1 => Value.long (h.2.2.1 a f) | _ => va_rf (h.2.2.2 a f)) = _
          rw [y1, u2_s]
          rfl
      | _ => cases he
    · unfold fw at he
      rw [y1] at he
      cases v with
      | long x =>
        refine key (h.1, h.2.1, u2 h.2.2.1 a f x, h.2.2.2) rfl (fun q hq => ?_) (fun g hg => ?_) ?_ (by rw [y2]; rfl) (by rw [y2]; rfl) he
        · show ((h.1.2.1 q, h.2.1 q, u2 h.2.2.1 a f x q, h.2.2.2 q) : AR) = _
          rw [u2_a _ _ _ _ hq]
          rfl
        · show (match fty cj g with | 0 => Value.int (h.2.1 a g) | 1 => Value.long (u2 h.2.2.1 a f x a g) | _ => va_rf (h.2.2.2 a g)) = _
          rw [u2_i _ _ _ _ hg]
          rfl
        · show (match fty cj f with | 0 => Value.int (h.2.1 a f) | 1 => Value.long (u2 h.2.2.1 a f x a f) | _ => va_rf (h.2.2.2 a f)) = _
          rw [y1, u2_s]
          rfl
      | _ => cases he
    · unfold fw at he
      rw [y1] at he
      cases v with
      | ref b =>
        refine key (h.1, h.2.1, h.2.2.1, u2 h.2.2.2 a f (some b)) rfl (fun q hq => ?_) (fun g hg => ?_) ?_ (by rcases y2 with ⟨n, y2⟩ | ⟨n, y2⟩ <;> rw [y2] <;> rfl) (by rcases y2 with ⟨n, y2⟩ | ⟨n, y2⟩ <;> rw [y2] <;> rfl) he
        · show ((h.1.2.1 q, h.2.1 q, h.2.2.1 q, u2 h.2.2.2 a f (some b) q) : AR) = _
          rw [u2_a _ _ _ _ hq]
          rfl
        · show (match fty cj g with | 0 => Value.int (h.2.1 a g) | 1 => Value.long (h.2.2.1 a g) | _ => va_rf (u2 h.2.2.2 a f (some b) a g)) = _
          rw [u2_i _ _ _ _ hg]
          rfl
        · show (match fty cj f with | 0 => Value.int (h.2.1 a f) | 1 => Value.long (h.2.2.1 a f) | _ => va_rf (u2 h.2.2.2 a f (some b) a f)) = _
          rw [y1, u2_s]
          rfl
      | _ => cases he
theorem sn_arraylength (C : CX P M p R s m args meth c) (B : BX P s (m_ml M) H locs ls la h) (hd : decode (m_b M) pc = .ok (.arraylength, len)) (he : ex M (.arraylength) len pc ls st k h = some r) : Sx p l e R s m args below meth c P M pc la st k H locs r := by
  obtain ⟨h9, hE⟩ := ln_inv he; subst h9; replace he := hE; clear hE
  obtain ⟨a, st, hq, hE⟩ := pr_inv he; subst hq; replace he := hE; clear hE
  obtain ⟨⟨⟨k1, k2⟩, k3, k4⟩, he⟩ := it_inv he
  by_cases h7 : kd h.1 a = 7
  · obtain ⟨g1, g2, -⟩ := (B.1.2.1 a).2.1 h7
    obtain ⟨scr, s1, s2, s3, s4, s5⟩ := C.scr B.2.1
    have e1 : le h.1 a = p_L P := g2
    rw [e1] at he
    exact Sx.n he fun Q kk => W.alen (n := nI (p_L P)) C.1.1 C.1.2.1 (by rw [g1]; exact s1) s2 (by rw [s4]; rfl) rfl rfl hd (kk _ _ _ B)
  · by_cases h8 : kd h.1 a = 8
    · obtain ⟨g1, g2, -⟩ := (B.1.2.1 a).2.2.2.2.2.1 h8
      obtain ⟨scr, s1, s2, s3, s4, s5, s6, s7⟩ := C.kt.2.2.1.kept B.2.1.2.1
      have e1 : le h.1 a = 4 := g2
      rw [e1] at he
      exact Sx.n he fun Q kk => W.alen (n := nI 4) C.1.1 C.1.2.1 (by rw [g1]; exact s1) s2 s5 rfl rfl hd (kk _ _ _ B)
    · by_cases h9 : kd h.1 a = 9
      · obtain ⟨g, g0, g1, g2, -⟩ := (B.1.2.1 a).2.2.2.2.1 h9
        obtain ⟨scr, s1, s2, s3, s4, s5, s6, s7⟩ := (C.kt.2.1 g g0).kept B.2.1.2.1
        have e1 : le h.1 a = slen.getD g 0 := g2
        rw [e1] at he
        exact Sx.n he fun Q kk => W.alen (n := nI (slen.getD g 0)) C.1.1 C.1.2.1 (by rw [g1]; exact s1) s2 s5 rfl rfl hd (kk _ _ _ B)
      · have hA : isA (kd h.1 a) = true := by
          have : kd h.1 a = 1 ∨ kd h.1 a = 2 ∨ kd h.1 a = 5 ∨ kd h.1 a = 6 := by omega
          rcases this with q | q | q | q <;> rw [q] <;> rfl
        obtain ⟨-, g⟩ := ar_at B.1 (k := kd h.1 a) rfl hA
        exact Sx.n he fun Q kk => W.alen (n := nI (le h.1 a)) C.1.1 C.1.2.1 g (C.arr (kd h.1 a) hA _ _) (by rw [arrV_size]; rfl) rfl rfl hd (kk _ _ _ B)
theorem sn_iaload (C : CX P M p R s m args meth c) (B : BX P s (m_ml M) H locs ls la h) (hd : decode (m_b M) pc = .ok (.iaload, len)) (he : ex M (.iaload) len pc ls st k h = some r) : Sx p l e R s m args below meth c P M pc la st k H locs r := by
  obtain ⟨h9, hE⟩ := ln_inv he; subst h9; replace he := hE; clear hE
  obtain ⟨a, i, st, hq, hE⟩ := pir_inv he; subst hq; replace he := hE; clear hE
  obtain ⟨⟨hk, hi⟩, he⟩ := it_inv he
  have hlt : i.toNatClampNeg < le h.1 a := Nat.not_le.mp fun q => inr_in hi (Or.inr q)
  rcases hk with hk | hk
  · obtain ⟨-, g⟩ := ar_at B.1 (k := 1) hk rfl
    exact Sx.n he fun Q kk => W.iald (v := .int (h.2.1 a i.toNatClampNeg)) C.1.1 C.1.2.1 g (C.arr 1 rfl _ _) (fun q => by cases q) (by rw [arrV_size]; exact inr_in hi) (by rw [arrV_read _ _ hlt]; rfl) rfl rfl hd (kk _ _ _ B)
  · obtain ⟨g1, g2, g3⟩ := (B.1.2.1 a).2.1 hk
    obtain ⟨scr, s1, s2, s3, s4, s5⟩ := C.scr B.2.1
    have e1 : le h.1 a = p_L P := g2
    rw [e1] at hi hlt
    have e2 : h.2.1 a i.toNatClampNeg = p_xs P i.toNatClampNeg := g3 _ hlt
    exact Sx.n he fun Q kk => W.iald (v := .int (h.2.1 a i.toNatClampNeg)) C.1.1 C.1.2.1 (by rw [g1]; exact s1) s2 s3 (by rw [s4]; exact inr_in hi) (by rw [s5 _ hlt, e2]) rfl rfl hd (kk _ _ _ B)
theorem sn_baload (C : CX P M p R s m args meth c) (B : BX P s (m_ml M) H locs ls la h) (hd : decode (m_b M) pc = .ok (.baload, len)) (he : ex M (.baload) len pc ls st k h = some r) : Sx p l e R s m args below meth c P M pc la st k H locs r := by
  obtain ⟨h9, hE⟩ := ln_inv he; subst h9; replace he := hE; clear hE
  obtain ⟨a, i, st, hq, hE⟩ := pir_inv he; subst hq; replace he := hE; clear hE
  obtain ⟨⟨hk, hi⟩, he⟩ := it_inv he
  have hlt : i.toNatClampNeg < le h.1 a := Nat.not_le.mp fun q => inr_in hi (Or.inr q)
  rcases hk with hk | hk
  · obtain ⟨-, g⟩ := ar_at B.1 (k := 2) hk rfl
    exact Sx.n he fun Q kk => W.bald (v := .int (h.2.1 a i.toNatClampNeg)) C.1.1 C.1.2.1 g (C.arr 2 rfl _ _) (fun q => by cases q) (by rw [arrV_size]; exact inr_in hi) (by rw [arrV_read _ _ hlt]; rfl) rfl rfl hd (kk _ _ _ B)
  · obtain ⟨g, g0, g1, g2, g3⟩ := (B.1.2.1 a).2.2.2.2.1 hk
    obtain ⟨scr, s1, s2, s3, s4, s5, s6, s7⟩ := (C.kt.2.1 g g0).kept B.2.1.2.1
    have e1 : le h.1 a = slen.getD g 0 := g2
    have e2 : h.2.1 a i.toNatClampNeg = (bL.getD g []).getD i.toNatClampNeg 0 := g3 _ hlt
    rw [e2] at he
    rw [e1] at hi hlt
    exact Sx.n he fun Q kk => W.bald (v := .int ((bL.getD g []).getD i.toNatClampNeg 0)) C.1.1 C.1.2.1 (by rw [g1]; exact s1) s2 s3 (fun q => q.elim (fun q => inr_in hi (Or.inl q)) fun q => absurd (Nat.le_trans s4 q) (Nat.not_le.mpr hlt)) (s6 _ hlt) rfl rfl hd (kk _ _ _ B)
theorem sn_aaload (C : CX P M p R s m args meth c) (B : BX P s (m_ml M) H locs ls la h) (hd : decode (m_b M) pc = .ok (.aaload, len)) (he : ex M (.aaload) len pc ls st k h = some r) : Sx p l e R s m args below meth c P M pc la st k H locs r := by
  obtain ⟨h9, hE⟩ := ln_inv he; subst h9; replace he := hE; clear hE
  obtain ⟨a, i, st, hq, hE⟩ := pir_inv he; subst hq; replace he := hE; clear hE
  obtain ⟨⟨hk, hi⟩, he⟩ := it_inv he
  have hlt : i.toNatClampNeg < le h.1 a := Nat.not_le.mp fun q => inr_in hi (Or.inr q)
  rcases hk with hk | hk | hk
  · obtain ⟨-, g⟩ := ar_at B.1 (k := 5) hk rfl
    exact Sx.n he fun Q kk => W.aald (v := va_rf (h.2.2.2 a i.toNatClampNeg)) (ty := .object RX7) C.1.1 C.1.2.1 g (C.arr 5 rfl _ _) rfl (fun q => by cases q) (by rw [arrV_size]; exact inr_in hi) (by rw [arrV_read _ _ hlt]; rfl) rfl rfl hd (kk _ _ _ B)
  · obtain ⟨-, g⟩ := ar_at B.1 (k := 6) hk rfl
    exact Sx.n he fun Q kk => W.aald (v := va_rf (h.2.2.2 a i.toNatClampNeg)) (ty := .object RX2) C.1.1 C.1.2.1 g (C.arr 6 rfl _ _) rfl (fun q => by cases q) (by rw [arrV_size]; exact inr_in hi) (by rw [arrV_read _ _ hlt]; rfl) rfl rfl hd (kk _ _ _ B)
  · obtain ⟨g1, g2, g3⟩ := (B.1.2.1 a).2.2.2.2.2.1 hk
    obtain ⟨scr, s1, s2, s3, s4, s5, s6, s7⟩ := C.kt.2.2.1.kept B.2.1.2.1
    have e1 : le h.1 a = 4 := g2
    rw [e1] at hi hlt
    have e2 : va_rf (h.2.2.2 a i.toNatClampNeg) = .ref (p_aK P (5 + i.toNatClampNeg)) := by
      rw [show h.2.2.2 a i.toNatClampNeg = some (p_aK P (5 + i.toNatClampNeg)) from g3 _ hlt]
      rfl
    rw [e2] at he
    exact Sx.n he fun Q kk => W.aald (v := .ref (p_aK P (5 + i.toNatClampNeg))) (ty := .object "java/lang/String") C.1.1 C.1.2.1 (by rw [g1]; exact s1) s2 rfl s3 (fun q => q.elim (fun q => inr_in hi (Or.inl q)) fun q => absurd (Nat.le_trans s4 q) (Nat.not_le.mpr hlt)) (s6 _ hlt) rfl rfl hd (kk _ _ _ B)
theorem sn_iastore (C : CX P M p R s m args meth c) (B : BX P s (m_ml M) H locs ls la h) (hd : decode (m_b M) pc = .ok (.iastore, len)) (he : ex M (.iastore) len pc ls st k h = some r) : Sx p l e R s m args below meth c P M pc la st k H locs r := by
  obtain ⟨h9, hE⟩ := ln_inv he; subst h9; replace he := hE; clear hE
  obtain ⟨x, st, hq, hE⟩ := pi_inv he; subst hq; replace he := hE; clear hE
  obtain ⟨a, i, st, hq, hE⟩ := pir_inv he; subst hq; replace he := hE; clear hE
  obtain ⟨⟨hk, hi⟩, he⟩ := it_inv he
  obtain ⟨ba, g⟩ := ar_at B.1 (k := 1) hk rfl
  refine Sx.n he fun Q kk => W.iast C.1.1 C.1.2.1 g (C.arr 1 rfl _ _) (fun q => by cases q) (by rw [arrV_size]; exact inr_in hi) rfl rfl hd fun H1 e1 z oq => kk _ _ _ ⟨B.1.at1 z oq rfl (fun q hq => ?_) (HX_arr (k := 1) (B.1.2.1 a) hk rfl rfl ?_ (fun q => by cases q)), B.2.1.put z oq ba, B.2.2⟩
  · show ((h.1.2.1 q, u2 h.2.1 a i.toNatClampNeg x q, h.2.2.1 q, h.2.2.2 q) : AR) = _
    rw [u2_a _ _ _ _ hq]
    rfl
  · rw [e1]
    refine congrArg some (arrV_st _ _ _ _ _ _ ?_ fun q hq => ?_)
    · show Value.int (u2 h.2.1 a i.toNatClampNeg x a i.toNatClampNeg) = _
      rw [u2_s]
    · show Value.int (u2 h.2.1 a i.toNatClampNeg x a q) = _
      rw [u2_i _ _ _ _ hq]
      rfl
theorem nar_b (x : Int32) : narrow .byte (.int x) = .int (vp_nar .byte x) := by
  unfold vp_nar
  rfl
theorem sn_bastore (C : CX P M p R s m args meth c) (B : BX P s (m_ml M) H locs ls la h) (hd : decode (m_b M) pc = .ok (.bastore, len)) (he : ex M (.bastore) len pc ls st k h = some r) : Sx p l e R s m args below meth c P M pc la st k H locs r := by
  obtain ⟨h9, hE⟩ := ln_inv he; subst h9; replace he := hE; clear hE
  obtain ⟨x, st, hq, hE⟩ := pi_inv he; subst hq; replace he := hE; clear hE
  obtain ⟨a, i, st, hq, hE⟩ := pir_inv he; subst hq; replace he := hE; clear hE
  obtain ⟨hi, he⟩ := it_inv he
  obtain ⟨hk, he⟩ := it_inv he
  obtain ⟨ba, g⟩ := ar_at B.1 (k := 2) hk rfl
  refine Sx.n he fun Q kk => W.bast C.1.1 C.1.2.1 g (C.arr 2 rfl _ _) (fun q => by cases q) (by rw [arrV_size]; exact inr_in hi) rfl rfl hd fun H1 e1 z oq => kk _ _ _ ⟨B.1.at1 z oq rfl (fun q hq => ?_) (HX_arr (k := 2) (B.1.2.1 a) hk rfl rfl ?_ (fun _ j hj => ?_)), B.2.1.put z oq ba, B.2.2⟩
  · show ((h.1.2.1 q, u2 h.2.1 a i.toNatClampNeg (vp_nar .byte x) q, h.2.2.1 q, h.2.2.2 q) : AR) = _
    rw [u2_a _ _ _ _ hq]
    rfl
  · rw [e1]
    refine congrArg some (arrV_st _ _ _ _ _ _ ?_ fun q hq => ?_)
    · show Value.int (u2 h.2.1 a i.toNatClampNeg (vp_nar .byte x) a i.toNatClampNeg) = _
      rw [u2_s]
      exact (nar_b x).symm
    · show Value.int (u2 h.2.1 a i.toNatClampNeg (vp_nar .byte x) a q) = _
      rw [u2_i _ _ _ _ hq]
      rfl
  · show fits .byte (.int (u2 h.2.1 a i.toNatClampNeg (vp_nar .byte x) a j)) = true
    by_cases hq : j = i.toNatClampNeg
    · rw [hq, u2_s]
      exact fit_b x
    · rw [u2_i _ _ _ _ hq]
      exact ar_fit B.1 hk j hj
theorem sn_aastore (C : CX P M p R s m args meth c) (B : BX P s (m_ml M) H locs ls la h) (hd : decode (m_b M) pc = .ok (.aastore, len)) (he : ex M (.aastore) len pc ls st k h = some r) : Sx p l e R s m args below meth c P M pc la st k H locs r := by
  obtain ⟨h9, hE⟩ := ln_inv he; subst h9; replace he := hE; clear hE
  obtain ⟨b, st, hq, hE⟩ := pr_inv he; subst hq; replace he := hE; clear hE
  obtain ⟨a, i, st, hq, hE⟩ := pir_inv he; subst hq; replace he := hE; clear hE
  obtain ⟨⟨hkk, hi⟩, he⟩ := it_inv he
  have hlt : i.toNatClampNeg < le h.1 a := Nat.not_le.mp fun q => inr_in hi (Or.inr q)
  rcases hkk with ⟨hk, hkb⟩ | ⟨hk, hkb⟩
  · obtain ⟨ba, g⟩ := ar_at B.1 (k := 5) hk rfl
    obtain ⟨bb, cell, q1, q2, q3, q4⟩ := ob_at B.1 (c := 4) (by decide) hkb
    have hcls := (C.2.2.2.1.1.1 4 _ rfl).2
    obtain ⟨kA, comp, k1, k2, k3, -⟩ := (C.2.2.2.1.1.2 2 _ rfl).2
    have hcomp : comp = (p_D P).1 4 := Option.some.inj (k3.symm.trans hcls.1)
    subst hcomp
    obtain ⟨kC, hkC, -⟩ := hcls.2
    refine Sx.n he fun Q kk => W.aast C.1.1 C.1.2.1 g (fun q h => by cases h) (fun h => by cases h) k1 k2 rfl hkC ⟨fun q => inr_in hi (Or.inl q), by rw [arrV_size]; exact hlt⟩ q1 (fun q h => by rw [q3] at h; cases h) (by rw [q2]; exact hkC) (by rw [q2]; exact va_assign hcls) rfl rfl hd fun H1 e1 z oq => kk _ _ _ ⟨B.1.at1 z oq rfl (fun q hq => ?_) (HX_arr (k := 5) (B.1.2.1 a) hk rfl rfl ?_ (fun q => by cases q)), B.2.1.put z oq ba, B.2.2⟩
    · show ((h.1.2.1 q, h.2.1 q, h.2.2.1 q, u2 h.2.2.2 a i.toNatClampNeg (some b) q) : AR) = _
      rw [u2_a _ _ _ _ hq]
      rfl
    · rw [e1]
      refine congrArg some (arrV_st _ _ _ _ _ _ ?_ fun q hq => ?_)
      · show va_rf (u2 h.2.2.2 a i.toNatClampNeg (some b) a i.toNatClampNeg) = _
        rw [u2_s]
        rfl
      · show va_rf (u2 h.2.2.2 a i.toNatClampNeg (some b) a q) = _
        rw [u2_i _ _ _ _ hq]
        rfl
  · obtain ⟨ba, g⟩ := ar_at B.1 (k := 6) hk rfl
    obtain ⟨bb, cell, q1, q2, q3, q4⟩ := ob_at B.1 (c := 0) (by decide) hkb
    have hcls := (C.2.2.2.1.1.1 0 _ rfl).2
    obtain ⟨kA, comp, k1, k2, k3, -⟩ := (C.2.2.2.1.1.2 3 _ rfl).2
    have hcomp : comp = (p_D P).1 0 := Option.some.inj (k3.symm.trans hcls.1)
    subst hcomp
    obtain ⟨kC, hkC, -⟩ := hcls.2
    refine Sx.n he fun Q kk => W.aast C.1.1 C.1.2.1 g (fun q h => by cases h) (fun h => by cases h) k1 k2 rfl hkC ⟨fun q => inr_in hi (Or.inl q), by rw [arrV_size]; exact hlt⟩ q1 (fun q h => by rw [q3] at h; cases h) (by rw [q2]; exact hkC) (by rw [q2]; exact va_assign hcls) rfl rfl hd fun H1 e1 z oq => kk _ _ _ ⟨B.1.at1 z oq rfl (fun q hq => ?_) (HX_arr (k := 6) (B.1.2.1 a) hk rfl rfl ?_ (fun q => by cases q)), B.2.1.put z oq ba, B.2.2⟩
    · show ((h.1.2.1 q, h.2.1 q, h.2.2.1 q, u2 h.2.2.2 a i.toNatClampNeg (some b) q) : AR) = _
      rw [u2_a _ _ _ _ hq]
      rfl
    · rw [e1]
      refine congrArg some (arrV_st _ _ _ _ _ _ ?_ fun q hq => ?_)
      · show va_rf (u2 h.2.2.2 a i.toNatClampNeg (some b) a i.toNatClampNeg) = _
        rw [u2_s]
        rfl
      · show va_rf (u2 h.2.2.2 a i.toNatClampNeg (some b) a q) = _
        rw [u2_i _ _ _ _ hq]
        rfl
theorem CX.room (C : CX P M p R s m args meth c) {x y : Nat} (h : k.1 + x ≤ m_mc M ∧ k.2 + y ≤ m_ms M) : k.1 + x ≤ R.cells ∧ k.2 + y ≤ R.slots := ⟨Nat.le_trans h.1 C.2.2.1.2.2.1, Nat.le_trans h.2 C.2.2.1.2.2.2⟩
theorem BX.new (B : BX P s (m_ml M) H locs ls la h) {H1 : Heap} {sh : Nat × Nat} (z : H1.size = H.size + 1) (o1 : ∀ q : Nat, q < H.size → H1[q]? = H[q]?) (hx : HX P (sh, (fun _ => 0), (fun _ => 0), (fun _ => none)) H.size H1) : BX P s (m_ml M) H1 locs ls la (mk h sh) :=
  ⟨B.1.new z o1 hx, ⟨Nat.le_trans B.2.1.1 (by omega), fun x h1 h2 => (o1 x (Nat.lt_of_lt_of_le h1 B.2.1.1)).trans (B.2.1.2.1 x h1 h2), B.2.1.2.2⟩, B.2.2⟩
theorem HX_newA {P : SP} {H H1 : Heap} {k n : Nat} (hA : isA k = true) (hb : p_bs P ≤ H.size) (e : H1[H.size]? = some (arrV (p_tA P k) n (vK k ((k, n), (fun _ => 0), (fun _ => 0), (fun _ => none))))) : HX P ((k, n), (fun _ => 0), (fun _ => 0), (fun _ => none)) H.size H1 := by
  have q := isA_or hA
  exact ⟨fun _ => ⟨hb, e⟩, fun h2 => absurd (show k = 7 from h2) (by omega), fun c' hc' hk' => absurd (show k = 10 + c' from hk') (by omega), fun h2 => absurd (show k = 18 from h2) (by omega), fun h2 => absurd (show k = 9 from h2) (by omega), fun h2 => absurd (show k = 8 from h2) (by omega), fun _ j _ => by rfl⟩
theorem CX.bs (C : CX P M p R s m args meth c) (B : BX P s (m_ml M) H locs ls la h) : p_bs P ≤ H.size := Nat.le_trans C.2.2.2.2.1.2.2.2 B.2.1.1
theorem CX.newA (C : CX P M p R s m args meth c) {k : Nat} (hA : isA k = true) {cA : ClassId} (hf : s.vm.findClass ("[" ++ (p_ty k).toString) = some cA) : cA = p_tA P k := by
  have h1 := (C.2.2.2.1.1.2 (ixA k) _ (tys4_at _ k hA)).2
  dsimp only at h1
  rcases isA_or hA with rfl | rfl | rfl | rfl
  · exact Option.some.inj (hf.symm.trans h1)
  · exact Option.some.inj (hf.symm.trans h1)
  · obtain ⟨kA, comp, g1, g2, g3, g4⟩ := h1
    exact Option.some.inj (hf.symm.trans g4)
  · obtain ⟨kA, comp, g1, g2, g3, g4⟩ := h1
    exact Option.some.inj (hf.symm.trans g4)
theorem xmk_inv {hh : Nat × Nat} (he : x_mk M pc ls st k h hh = some r) : (k.1 + 1 ≤ m_mc M ∧ k.2 + hh.2 ≤ m_ms M) ∧ x_n pc ls (.ref h.1.1 :: st) (k.1 + 1, k.2 + hh.2) (mk h hh) = some r := it_inv he
theorem sn_newarray {t : ArrayType} (C : CX P M p R s m args meth c) (B : BX P s (m_ml M) H locs ls la h) (hd : decode (m_b M) pc = .ok (.newarray t, len)) (he : ex M (.newarray t) len pc ls st k h = some r) : Sx p l e R s m args below meth c P M pc la st k H locs r := by
  obtain ⟨h9, hE⟩ := ln_inv he; subst h9; replace he := hE; clear hE
  obtain ⟨n, st, hq, hE⟩ := pi_inv he; subst hq; replace he := hE; clear hE
  cases t with
  | int =>
    obtain ⟨⟨-, hn, hN⟩, he⟩ := it_inv he
    obtain ⟨hrm, he⟩ := xmk_inv he
    have hr2 := C.room hrm
    refine Sx.n (hk := fun _ _ => hrm) he fun Q kk => va_newaK (atype := .int) C.1.1 C.1.2.1 (C.tb ac_int) rfl hd rfl hn rfl (by show n.toNatClampNeg * 4 ≤ 536870912; omega) hr2.1 hr2.2 rfl fun H1 cA e1 z1 o1 hA hf => ?_
    have hcA := C.newA (k := 1) rfl hf
    subst hcA
    rw [B.1.1]
    exact kk _ _ _ (B.new z1 o1 (HX_newA rfl (C.bs B) e1))
  | byte =>
    obtain ⟨⟨-, hn, hN⟩, he⟩ := it_inv he
    obtain ⟨hrm, he⟩ := xmk_inv he
    have hr2 := C.room hrm
    refine Sx.n (hk := fun _ _ => hrm) he fun Q kk => va_newaK (atype := .byte) C.1.1 C.1.2.1 (C.tb ac_byte) rfl hd rfl hn rfl (by show n.toNatClampNeg * 1 ≤ 536870912; omega) hr2.1 hr2.2 rfl fun H1 cA e1 z1 o1 hA hf => ?_
    have hcA := C.newA (k := 2) rfl hf
    subst hcA
    rw [B.1.1]
    exact kk _ _ _ (B.new z1 o1 (HX_newA rfl (C.bs B) e1))
  | _ =>
    obtain ⟨⟨hz, -⟩, -⟩ := it_inv he
    exact absurd hz (by decide)
theorem sn_anewarray {i : Nat} (ho : m_own M < 23) (C : CX P M p R s m args meth c) (B : BX P s (m_ml M) H locs ls la h) (hd : decode (m_b M) pc = .ok (.anewarray i, len)) (he : ex M (.anewarray i) len pc ls st k h = some r) : Sx p l e R s m args below meth c P M pc la st k H locs r := by
  obtain ⟨h9, hE⟩ := ln_inv he; subst h9; replace he := hE; clear hE
  cases hf : cl (m_own M) i with
  | none => rw [hf] at he; cases he
  | some cj =>
    rw [hf] at he
    replace he : p_i st (fun n st => if (cj = 4 ∨ cj = 0) ∧ ¬ n < 0 ∧ n.toNatClampNeg ≤ 60000 then x_mk M (pc + 3) ls st k h (if cj = 4 then 5 else 6, n.toNatClampNeg) else none) = some r := he
    obtain ⟨n, st, hq, hE⟩ := pi_inv he; subst hq; replace he := hE; clear hE
    obtain ⟨⟨hcj, hn, hN⟩, he⟩ := it_inv he
    obtain ⟨-, hlink⟩ := cl_ok ho hf
    obtain ⟨hrm, he⟩ := xmk_inv he
    have hr2 := C.room hrm
    rcases hcj with hcj | hcj
    · subst hcj
      refine Sx.n (hk := fun _ _ => hrm) he fun Q kk => W.anew C.1.1 C.1.2.1 C.1.2.2.2.1 (C.tb hlink) (va_AO.use C.2.2.2.1.2.1) rfl hd rfl hn (by omega) hr2.1 hr2.2 fun cA kA comp f1 f2 f3 f4 => ?_
      have hcA := C.newA (k := 5) rfl f1
      subst hcA
      rw [B.1.1]
      refine kk _ _ _ (B.new (by rw [Array.size_push]) (fun q hq => by rw [Array.getElem?_push, if_neg (Nat.ne_of_lt hq)]) (HX_newA (k := 5) rfl (C.bs B) ?_))
      rw [Array.getElem?_push_size]
      exact congrArg some (arrV_new (p_tA P 5) n.toNatClampNeg .null)
    · subst hcj
      refine Sx.n (hk := fun _ _ => hrm) he fun Q kk => W.anew C.1.1 C.1.2.1 C.1.2.2.2.1 (C.tb hlink) (va_AO.use C.2.2.2.1.2.2.1) rfl hd rfl hn (by omega) hr2.1 hr2.2 fun cA kA comp f1 f2 f3 f4 => ?_
      have hcA := C.newA (k := 6) rfl f1
      subst hcA
      rw [B.1.1]
      refine kk _ _ _ (B.new (by rw [Array.size_push]) (fun q hq => by rw [Array.getElem?_push, if_neg (Nat.ne_of_lt hq)]) (HX_newA (k := 6) rfl (C.bs B) ?_))
      rw [Array.getElem?_push_size]
      exact congrArg some (arrV_new (p_tA P 6) n.toNatClampNeg .null)
theorem fv_default (c f : Nat) (h : okTy (tyO c f) = true) (sh : Nat × Nat) : defaultValue (tyO c f) = fvr c f (sh, (fun _ => 0), (fun _ => 0), (fun _ => none)) := by
  unfold fvr
  rcases fty_val c f h with ⟨y1, y2⟩ | ⟨y1, y2⟩ | ⟨y1, y2⟩
  · rcases y2 with y2 | y2 | y2 <;> rw [y1, y2] <;> rfl
  · rw [y1, y2]; rfl
  · rcases y2 with ⟨n, y2⟩ | ⟨n, y2⟩ <;> rw [y1, y2] <;> rfl
theorem sn_new {i : Nat} (ho : m_own M < 23) (C : CX P M p R s m args meth c) (B : BX P s (m_ml M) H locs ls la h) (hd : decode (m_b M) pc = .ok (.new i, len)) (he : ex M (.new i) len pc ls st k h = some r) : Sx p l e R s m args below meth c P M pc la st k H locs r := by
  obtain ⟨h9, hE⟩ := ln_inv he; subst h9; replace he := hE; clear hE
  cases hf : cl (m_own M) i with
  | none => rw [hf] at he; cases he
  | some cj =>
    rw [hf] at he
    replace he : x_mk M (pc + 3) ls st k h (10 + cj, NO cj) = some r := he
    obtain ⟨hc, hlink⟩ := cl_ok ho hf
    dsimp only at hc hlink
    obtain ⟨kcl, kws, kty, knm, kin, kini⟩ := kf_all cj hc
    obtain ⟨hrm, he⟩ := xmk_inv he
    have hr2 := C.room hrm
    have hKn := C.2.2.2.1.1.1 cj _ kcl
    refine Sx.n (hk := fun _ _ => hrm) he fun Q kk => W.newcK C.1.1 C.1.2.1 C.1.2.2.2.1 (C.tb hlink) (C.tb kin) (C.tb kini) rfl hd hr2.1 hr2.2 hKn.2.1 rfl fun H1 kC hkC e1 z1 o1 => ?_
    rw [B.1.1]
    refine kk _ _ _ (B.new z1 o1 ⟨fun h2 => absurd (isA_or (show isA (10 + cj) = true from h2)) (by omega), fun h2 => absurd (show 10 + cj = 7 from h2) (by omega), fun c' hc' hk' => ?_, fun h2 => absurd (show 10 + cj = 18 from h2) (by omega), fun h2 => absurd (show 10 + cj = 9 from h2) (by omega), fun h2 => absurd (show 10 + cj = 8 from h2) (by omega), fun h2 => absurd (show 10 + cj = 2 from h2) (by omega)⟩)
    have : c' = cj := by have : 10 + cj = 10 + c' := hk'; omega
    subst this
    exact ⟨C.bs B, (u_born (tyO c') C.1.2.2.2.2 kws hKn hkC e1 (fun g hg => (kty g hg).1)).to fun g hg => fv_default c' g (kty g hg).2 _⟩
theorem cpy_eq (f g : Nat → Int32) (sp dp n : Nat) : va_cpy f g sp dp n = cpy f g sp dp n := rfl
theorem nn_i {z : Int32} (hz : ¬ z < 0) : z.toInt = (z.toNatClampNeg : Int) := by
  have hz0 : (0 : Int) ≤ z.toInt := by
    have := Int32.not_lt.mp hz
    simpa using Int32.le_iff_toInt_le.mp this
  show z.toInt = ((z.toInt.toNat : Nat) : Int)
  omega
theorem W_copy (C : CX P M p R s m args meth c) (hz : la.size = m_ml M) {i : Nat} {a0 a : Nat} {cs : Cell} {n0 n1 : Nat} {f g : Nat → Int32} {sp dp n : Int32} {k1 k2 : Nat} {Q : State → Prop} (hlink : Cond.methodLink (RN (m_own M)) i arraycopyName ∈ TB)
    (hs : H[a0]? = some cs) (hsA : s.isArrayOf cs .byte) (hsU : cs.vm ≠ .unknown) (hcs : ∀ j, j < n0 → cs.slots[j]? = some (.int (f j))) (hsz : n0 ≤ cs.slots.size) (hfit : ∀ j, j < n0 → fits .byte (.int (f j)) = true) (hd1 : H[a]? = some (arrV (p_tA P 2) n1 (fun j => .int (g j))))
    (h1 : ¬ sp < 0) (h2 : ¬ dp < 0) (h3 : ¬ n < 0) (h4 : sp.toNatClampNeg + n.toNatClampNeg ≤ n0) (h5 : dp.toNatClampNeg + n.toNatClampNeg ≤ n1) (hfr : 1 ≤ R.frames) (hlo : (st.map fun v => v.category).sum + 22 ≤ R.locals) (hd : decode (m_b M) pc = .ok (.invokestatic i, 3))
    (kk : ∀ (H1 : Heap) (locs1 : List Loc), H1[a]? = some (arrV (p_tA P 2) n1 (fun j => .int (cpy f g sp.toNatClampNeg dp.toNatClampNeg n.toNatClampNeg j))) → H1.size = H.size → (∀ q : Nat, q ≠ a → H1[q]? = H[q]?) → (∀ x ∈ locs1, x ∈ locs ∨ x.base = a) → W p l e R s m args below meth c H1 locs1 k1 k2 Q (F0 m (pc + 3) la st)) : W p l e R s m args below meth c H locs k1 k2 Q (F0 m pc la (.int n :: .int dp :: .ref a :: .int sp :: .ref a0 :: st)) := by
  intro T hT X
  obtain ⟨hs6, k0, hk0, cm0, hkk0⟩ := hsA
  obtain ⟨-, kd1, hk1, cm1, hkk1⟩ := C.arr 2 rfl n1 (fun j => .int (g j))
  obtain ⟨vm', X', step⟩ := X.arraycopy C.1.1 C.1.2.2.2.1 (C.tb hlink) (C.tb cp_w.1.1) (C.tb cp_w.1.2) (C.tb cp_w.2) (src := a0) (dst := a) (cs := cs) (cd := arrV (p_tA P 2) n1 (fun j => .int (g j))) (srcPos := sp) (destPos := dp) (n := n) (by rw [hT]; exact hs) (by rw [hT]; exact hd1)
    hs6 (fun _ h => by cases h) hsU (fun h => by cases h) hk0 hk1 hkk0 hkk1 (by simp [refKind, p_ty]) h1 h2 h3
    (by rw [nn_i h1, nn_i h3]; omega)
    (by rw [nn_i h2, nn_i h3, arrV_size]; omega)
    (fun vm₁ _ i hi => by
      have e : cs.slots.getD (sp.toNatClampNeg + i) .null = .int (f (sp.toNatClampNeg + i)) := by
        rw [Array.getD_eq_getD_getElem?, hcs _ (by omega)]
        rfl
      rw [e]
      exact ⟨hfit _ (by omega), trivial⟩)
    (g := F0 m pc la (.int n :: .int dp :: .ref a :: .int sp :: .ref a0 :: st)) rfl (hz.trans C.1.2.2.1.symm) (rest := st) rfl (by rw [C.1.2.1]; exact hd) hfr (by rw [show nativeFrameWords "java/lang/System" "arraycopy" 5 = 7 from by decide +kernel]; show 2 * 0 + _ + (7 + 11) ≤ _; omega)
  have e1 : copied cs (arrV (p_tA P 2) n1 (fun j => .int (g j))) sp dp n = arrV (p_tA P 2) n1 (fun j => .int (cpy f g sp.toNatClampNeg dp.toNatClampNeg n.toNatClampNeg j)) := va_copiedX (fun z => .int z) cs (p_tA P 2) f g hcs h4
  rw [e1] at X' step
  have hl : a < H.size := (Array.getElem?_eq_some_iff.mp hd1).1
  have hheap : ((T.setVm vm').setCell a (arrV (p_tA P 2) n1 (fun j => .int (cpy f g sp.toNatClampNeg dp.toNatClampNeg n.toNatClampNeg j)))).heap = H.setIfInBounds a (arrV (p_tA P 2) n1 (fun j => .int (cpy f g sp.toNatClampNeg dp.toNatClampNeg n.toNatClampNeg j))) := by rw [← hT]; rfl
  obtain ⟨t, a1, b1⟩ := kk _ _ (by simp [Array.getElem?_setIfInBounds, hl]) (by simp) (fun q hq => by simp [Array.getElem?_setIfInBounds, Ne.symm hq]) (fun x hx => by
    rcases List.mem_append.mp hx with h | h
    · exact Or.inl h
    · obtain ⟨z, -, hz⟩ := List.mem_map.mp h
      exact Or.inr (by rw [← hz])) _ hheap X'
  exact ⟨t, step t a1, b1⟩
theorem sn_cpy {i : Nat} (C : CX P M p R s m args meth c) (B : BX P s (m_ml M) H locs ls la h) (hlink : Cond.methodLink (RN (m_own M)) i arraycopyName ∈ TB) (hd : decode (m_b M) pc = .ok (.invokestatic i, 3)) (he : x_cpy M pc ls st k h = some r) : Sx p l e R s m args below meth c P M pc la st k H locs r := by
  unfold x_cpy at he
  split at he
  · rename_i n dp b sp a st'
    obtain ⟨⟨⟨⟨ka, kb⟩, ⟨hn, hs, hdp⟩, h4, h5⟩, f1, f2, f3⟩, he⟩ := it_inv he
    obtain ⟨bb, gb⟩ := ar_at B.1 (k := 2) kb rfl
    have hfr := C.2.2.1.1
    have hlo := C.2.2.1.2.1
    have hcs : (st'.map fun v => v.category).sum + 22 ≤ R.locals := by
      have h1 : ∀ l : List Value, (l.map fun v => v.category).sum ≤ 2 * l.length := by
        intro l
        induction l with
        | nil => exact Nat.le_refl 0
        | cons v l ih =>
          have h2 : v.category ≤ 2 := by rcases lv_cat v with q | q <;> omega
          simp only [List.map_cons, List.sum_cons, List.length_cons]
          omega
      have := h1 st'
      omega
    have fin : ∀ (f : Nat → Int32) (n0 : Nat), f = h.2.1 a → n0 = le h.1 a → (∀ j, j < n0 → fits .byte (.int (f j)) = true) → ∀ (H1 : Heap) (locs1 : List Loc), H1[b]? = some (arrV (p_tA P 2) (le h.1 b) (fun j => .int (cpy f (h.2.1 b) sp.toNatClampNeg dp.toNatClampNeg n.toNatClampNeg j))) → H1.size = H.size → (∀ q : Nat, q ≠ b → H1[q]? = H[q]?) → (∀ x ∈ locs1, x ∈ locs ∨ x.base = b) → BX P s (m_ml M) H1 locs1 ls la (h.1, u1 h.2.1 b (cpy (h.2.1 a) (h.2.1 b) sp.toNatClampNeg dp.toNatClampNeg n.toNatClampNeg), h.2.2.1, h.2.2.2) := by
      intro f n0 ef en hff H1 locs1 e1 e2 e3 e4
      subst ef
      subst en
      refine ⟨B.1.at1 e2 e3 rfl (fun q hq => ?_) (HX_arr (k := 2) (B.1.2.1 b) kb rfl rfl ?_ (fun _ j hj => ?_)), ⟨by rw [e2]; exact B.2.1.1, fun q g1 g2 => ?_, fun x hx => ?_⟩, B.2.2⟩
      · show ((h.1.2.1 q, u1 h.2.1 b _ q, h.2.2.1 q, h.2.2.2 q) : AR) = _
        rw [show u1 h.2.1 b (cpy (h.2.1 a) (h.2.1 b) sp.toNatClampNeg dp.toNatClampNeg n.toNatClampNeg) q = h.2.1 q from if_neg hq]
        rfl
      · rw [e1]
        refine congrArg some (congrArg (arrV (p_tA P 2) (le h.1 b)) (funext fun j => ?_))
        show _ = Value.int (u1 h.2.1 b _ b j)
        rw [show u1 h.2.1 b (cpy (h.2.1 a) (h.2.1 b) sp.toNatClampNeg dp.toNatClampNeg n.toNatClampNeg) b = cpy (h.2.1 a) (h.2.1 b) sp.toNatClampNeg dp.toNatClampNeg n.toNatClampNeg from if_pos rfl]
      · show fits .byte (.int (u1 h.2.1 b _ b j)) = true
        rw [show u1 h.2.1 b (cpy (h.2.1 a) (h.2.1 b) sp.toNatClampNeg dp.toNatClampNeg n.toNatClampNeg) b = cpy (h.2.1 a) (h.2.1 b) sp.toNatClampNeg dp.toNatClampNeg n.toNatClampNeg from if_pos rfl]
        unfold cpy
        by_cases q : dp.toNatClampNeg ≤ j ∧ j < dp.toNatClampNeg + n.toNatClampNeg
        · rw [if_pos q]
          exact hff _ (by omega)
        · rw [if_neg q]
          exact ar_fit B.1 kb j hj
      · rw [e3 q (fun z => g2 (by rw [z]; exact bb))]
        exact B.2.1.2.1 q g1 g2
      · rcases e4 x hx with g | g
        · exact B.2.1.2.2 x g
        · rw [g]
          exact bb
    rcases ka with ka | ka
    · obtain ⟨-, ga⟩ := ar_at B.1 (k := 2) ka rfl
      exact Sx.n he fun Q kk => W_copy C B.2.2.size hlink ga (C.arr 2 rfl _ _) (fun h => by cases h) (fun j hj => by rw [arrV_read _ _ hj]; rfl) (by rw [arrV_size]; exact Nat.le_refl _) (ar_fit B.1 ka) gb hs hdp hn h4 h5 (by omega) hcs hd fun H1 locs1 e1 e2 e3 e4 => kk _ _ _ (fin _ _ rfl rfl (ar_fit B.1 ka) H1 locs1 e1 e2 e3 e4)
    · obtain ⟨g, g0, g1, g2, g3⟩ := (B.1.2.1 a).2.2.2.2.1 ka
      obtain ⟨scr, s1, s2, s3, s4, s5, s6, s7⟩ := (C.kt.2.1 g g0).kept B.2.1.2.1
      have e1 : le h.1 a = slen.getD g 0 := g2
      have hf : ∀ j, j < le h.1 a → fits .byte (.int (h.2.1 a j)) = true := fun j hj => by
        rw [show h.2.1 a j = (bL.getD g []).getD j 0 from g3 j hj]
        exact bL_fit g g0 j (by rw [← e1]; exact hj)
      exact Sx.n he fun Q kk => W_copy (n0 := le h.1 a) (f := h.2.1 a) C B.2.2.size hlink (by rw [g1]; exact s1) s2 s3 (fun j hj => by rw [show h.2.1 a j = (bL.getD g []).getD j 0 from g3 j hj]; exact s6 j (by rw [← e1]; exact hj)) (by rw [e1]; exact s4) hf gb hs hdp hn h4 h5 (by omega) hcs hd fun H1 locs1 e1 e2 e3 e4 => kk _ _ _ (fin _ _ rfl rfl hf H1 locs1 e1 e2 e3 e4)
  · cases he
end SN
