/-! SOUNDNESS of the small machine: pool constants, fields, arrays, makings. -/
theorem HX_put {P : SP} {ρ ρ' : AR} {a c : Nat} {H H' : Heap} (hx : HX P ρ a H) (hc : c < 7) (hk : ρ.1.1 = 10 + c) (h1 : ρ'.1 = ρ.1) (hH : t_OB a ((p_D P).1 c) (NO c) ((p_D P).2 c) H' (fun f => fvr c f ρ')) : HX P ρ' a H' := by
  have e : ρ'.1.1 = 10 + c := by rw [h1]; exact hk
  refine ⟨fun _ h2 => absurd h2 (by omega), fun h2 => absurd h2 (by omega), fun c' hc' hk' => ?_, fun h2 => absurd h2 (by omega)⟩
  have : c' = c := by omega
  subst this
  exact ⟨(hx.2.2.1 c' hc' hk).1, hH⟩
theorem HX_arr {P : SP} {ρ ρ' : AR} {a k : Nat} {H H' : Heap} (hx : HX P ρ a H) (hk : ρ.1.1 = k) (k1 : 1 ≤ k) (k2 : k ≤ 6) (h1 : ρ'.1 = ρ.1) (hH : H'[a]? = some (arrV (p_tA P k) ρ.1.2 (vK k ρ'))) : HX P ρ' a H' := by
  subst hk
  refine ⟨fun _ _ => ⟨(hx.1 k1 k2).1, by rw [h1]; exact hH⟩, fun h2 => absurd h2 (by rw [h1]; omega), fun c' hc' hk' => absurd hk' (by rw [h1]; omega), fun h2 => absurd h2 (by rw [h1]; omega)⟩
theorem ar_at {P : SP} {h : AH} {H : Heap} {a k : Nat} (hR : HR P h H) (hk : kd h.1 a = k) (k1 : 1 ≤ k) (k2 : k ≤ 6) : p_bs P ≤ a ∧ H[a]? = some (arrV (p_tA P k) (le h.1 a) (vK k (arow h a))) := by
  subst hk
  exact (hR.2.1 a).1 k1 k2
theorem ob_at {P : SP} {h : AH} {H : Heap} {a c : Nat} (hR : HR P h H) (hc : c < 7) (hk : kd h.1 a = 10 + c) : p_bs P ≤ a ∧ t_OB a ((p_D P).1 c) (NO c) ((p_D P).2 c) H (fun f => fvr c f (arow h a)) := (hR.2.1 a).2.2.1 c hc hk
theorem u2_s {α : Type} (f : Nat → Nat → α) (a i : Nat) (x : α) : u2 f a i x a i = x := if_pos ⟨rfl, rfl⟩
theorem u2_i {α : Type} (f : Nat → Nat → α) (a i : Nat) (x : α) {j : Nat} (h : j ≠ i) : u2 f a i x a j = f a j := if_neg fun q => h q.2
theorem u2_a {α : Type} (f : Nat → Nat → α) (a i : Nat) (x : α) {b : Nat} (h : b ≠ a) : u2 f a i x b = f b := by
  funext j
  exact if_neg fun q => h q.1
theorem fty_val (c f : Nat) (h : okTy (tyO c f) = true) : (fty c f = 0 ∧ tyO c f = .int) ∨ (fty c f = 1 ∧ tyO c f = .long) ∨ (fty c f = 2 ∧ ((∃ n, tyO c f = .object n) ∨ ∃ t, tyO c f = .array t)) := by
  unfold fty
  cases hq : tyO c f with
  | int => exact Or.inl ⟨rfl, rfl⟩
  | long => exact Or.inr (Or.inl ⟨rfl, rfl⟩)
  | object n => exact Or.inr (Or.inr ⟨rfl, Or.inl ⟨n, rfl⟩⟩)
  | array t => exact Or.inr (Or.inr ⟨rfl, Or.inr ⟨t, rfl⟩⟩)
  | _ => rw [hq] at h; cases h
theorem arrV_st (cA : ClassId) (n j : Nat) (f g : Nat → Value) (v : Value) (h1 : g j = v) (h2 : ∀ q, q ≠ j → g q = f q) : (arrV cA n f).setSlot j v = arrV cA n g := by
  rw [arrV_store]
  congr 1
  funext q
  by_cases hq : q = j
  · subst hq
    simp [updV, h1]
  · simp [updV, hq, h2 q hq]
section SN
variable {p : Program} {l : Launch} {e : Env} {R : Room} {s : State} {m : MethodId} {args : Array Value} {below : List Frame} {meth : Method} {c : Code} {H : Heap} {locs : List Loc} {P : SP} {M : MI} {len pc : Nat} {ls st : List Value} {la : Array Slot} {k : Nat × Nat} {h : AH} {r : SRr}
theorem CX.tb (C : CX P M p R s m args meth c) {w : Cond} (hw : w ∈ TB) : w.before args s = true := C.1.2.2.2.2 w hw
theorem CX.arr (C : CX P M p R s m args meth c) (k : Nat) (k1 : 1 ≤ k) (k2 : k ≤ 6) : ArrOfT s (p_tA P k) (p_ty k) := (C.2.2.2.1.1.2 (k - 1) _ (tys6_at _ k k1 k2)).1
theorem CX.scr (C : CX P M p R s m args meth c) (hS : va_S (p_A P) s.heap H locs) : va_X (p_b P) (p_L P) (p_xs P) s H := by
  obtain ⟨-, ⟨b1, b2, b3, b4⟩, -⟩ := C.2.2.2
  exact b1.kept (hS.2.1 _ (Nat.lt_of_lt_of_le b2 b4) (Nat.not_le.mpr b2))

theorem sn_ldc {i : Nat} (ho : m_own M < 14) (C : CX P M p R s m args meth c) (B : BX P s (m_ml M) H locs ls la h) (hd : decode (m_b M) pc = .ok (.ldc i, len)) (he : ex M (.ldc i) len pc ls st k h = some r) : Sx p l e R s m args below meth c P M pc la st k H locs r := by
  obtain ⟨h9, hE⟩ := ln_inv he; subst h9; replace he := hE; clear hE
  cases hf : ki (m_own M) i with
  | some v =>
    rw [hf] at he
    exact Sx.n he fun Q kk => lv_ldc C.1.1 C.1.2.1 C.1.2.2.2.1 (C.tb (ki_ok ho hf)) hd (kk _ _ _ B)
  | none =>
    rw [hf] at he
    obtain ⟨⟨h1, h2⟩, he⟩ := it_inv he
    obtain ⟨-, -, ⟨-, c2⟩, -⟩ := C.2.2.2
    obtain ⟨j, hj⟩ := List.getElem?_of_mem h2
    have hj2 : j < 12 := (List.getElem?_eq_some_iff.mp hj).1
    have e1 : stT.getD j 0 = i := by rw [List.getD_eq_getElem?_getD, hj]; rfl
    obtain ⟨tx, ht⟩ := c2 j hj2
    have e2 := B.1.2.2 j hj2
    rw [e1] at ht e2
    exact Sx.n he fun Q kk => va_ldcS C.1.1 C.1.2.1 (by have := C.1.2.2.2.1; rw [h1] at this; exact this) ht hd (by rw [e2] at kk; exact kk _ _ _ B)
theorem sn_ldc2_w {i : Nat} (ho : m_own M < 14) (C : CX P M p R s m args meth c) (B : BX P s (m_ml M) H locs ls la h) (hd : decode (m_b M) pc = .ok (.ldc2_w i, len)) (he : ex M (.ldc2_w i) len pc ls st k h = some r) : Sx p l e R s m args below meth c P M pc la st k H locs r := by
  obtain ⟨h9, hE⟩ := ln_inv he; subst h9; replace he := hE; clear hE
  cases hf : kl (m_own M) i with
  | some v =>
    rw [hf] at he
    exact Sx.n he fun Q kk => lv_ldc2 C.1.1 C.1.2.1 C.1.2.2.2.1 (C.tb (kl_ok ho hf)) hd (kk _ _ _ B)
  | none => rw [hf] at he; cases he
theorem sn_getfield {i : Nat} (ho : m_own M < 14) (C : CX P M p R s m args meth c) (B : BX P s (m_ml M) H locs ls la h) (hd : decode (m_b M) pc = .ok (.getfield i, len)) (he : ex M (.getfield i) len pc ls st k h = some r) : Sx p l e R s m args below meth c P M pc la st k H locs r := by
  obtain ⟨h9, hE⟩ := ln_inv he; subst h9; replace he := hE; clear hE
  cases hf : fl (m_own M) i with
  | none => rw [hf] at he; cases he
  | some q =>
    obtain ⟨cj, f⟩ := q
    rw [hf] at he
    replace he : (p_r st fun a st => if kd h.1 a = 10 + cj then x_n (pc + 3) ls (fv cj f h a :: st) k h else none) = some r := he
    obtain ⟨⟨hc, hfn⟩, hlink⟩ := fl_ok ho hf
    dsimp only at hc hfn hlink
    obtain ⟨kcl, kws, kty, knm, -, -⟩ := kf_all cj hc
    obtain ⟨t1, t2, t3⟩ := kty f hfn
    have hK := C.2.2.2.1.1
    obtain ⟨hS, hfc, kC, hkC, hkind⟩ := hK.1 cj _ kcl
    obtain ⟨cf, kf, fi, fd, hi, hsl⟩ := hS f hfn
    dsimp only at hi hsl
    have hi2 := hi
    rw [t3] at hi2
    obtain ⟨a, st, hq, hE⟩ := pr_inv he; subst hq; replace he := hE; clear hE
    obtain ⟨hk, he⟩ := it_inv he
    obtain ⟨-, cell, q1, q2, q3, q4⟩ := ob_at B.1 hc hk
    have hst := (u_facts hfc hkC (u_lays C.1.2.2.2.2 kws hfn) hi).1
    exact Sx.n he fun Q kk => W.getf C.1.1 C.1.2.1 C.1.2.2.2.1 (C.tb hlink) hi2 hst q1 (by rw [q3]; exact fun h => by cases h) (v := fv cj f h a) (by rw [hsl, q4 f hfn]; rfl) rfl rfl hd (kk _ _ _ B)
theorem sn_putfield {i : Nat} (ho : m_own M < 14) (C : CX P M p R s m args meth c) (B : BX P s (m_ml M) H locs ls la h) (hd : decode (m_b M) pc = .ok (.putfield i, len)) (he : ex M (.putfield i) len pc ls st k h = some r) : Sx p l e R s m args below meth c P M pc la st k H locs r := by
  obtain ⟨h9, hE⟩ := ln_inv he; subst h9; replace he := hE; clear hE
  cases hf : fl (m_own M) i with
  | none => rw [hf] at he; cases he
  | some q =>
    obtain ⟨cj, f⟩ := q
    rw [hf] at he
    replace he : (p_v st fun v st => p_r st fun a st => if kd h.1 a = 10 + cj ∧ ((TO cj f).2.2.2 = false ∨ (m_y M).name = "<init>" ∧ (TO cj f).1 = RN (m_own M)) then fw cj f a v h fun h => x_n (pc + 3) ls st k h else none) = some r := he
    obtain ⟨⟨hc, hfn⟩, hlink⟩ := fl_ok ho hf
    dsimp only at hc hfn hlink
    obtain ⟨kcl, kws, kty, knm, -, -⟩ := kf_all cj hc
    obtain ⟨t1, t2, t3⟩ := kty f hfn
    have hK := C.2.2.2.1.1
    obtain ⟨hS, hfc, kC, hkC, hkind⟩ := hK.1 cj _ kcl
    obtain ⟨cf, kf, fi, fd, hi, hsl⟩ := hS f hfn
    dsimp only at hi hsl
    have hi2 := hi
    rw [t3] at hi2
    obtain ⟨v, st, hq, hE⟩ := pv_inv he; subst hq; replace he := hE; clear hE
    obtain ⟨a, st, hq, hE⟩ := pr_inv he; subst hq; replace he := hE; clear hE
    obtain ⟨⟨hk, hfin⟩, he⟩ := it_inv he
    have hob := ob_at B.1 hc hk
    obtain ⟨hba, cell, q1, q2, q3, q4⟩ := hob
    have hap : ∀ x y, x < NO cj → y < NO cj → x ≠ y → ((p_D P).2 cj) x ≠ ((p_D P).2 cj) y := va_apart (own := RN (m_own M)) C.1.2.2.2.2 kws (tyO cj) (fun g hg => (kty g hg).1) knm hK kcl
    have key : ∀ h' : AH, h'.1 = h.1 → (∀ q, q ≠ a → arow h' q = arow h q) → (∀ g, g ≠ f → fvr cj g (arow h' a) = fvr cj g (arow h a)) → fvr cj f (arow h' a) = v → narrow (tyO cj f) v = v → fits (tyO cj f) v = true → x_n (pc + 3) ls st k h' = some r → Sx p l e R s m args below meth c P M pc la (v :: .ref a :: st) k H locs r := by
      intro h' h1 h2 h3 h4 hn hft he
      have hlays := u_lays C.1.2.2.2.2 kws hfn
      have hst := (u_facts hfc hkC hlays hi).1
      have fin : ∀ (H1 : Heap), H1[a]? = some (cell.setSlot fd.slot v) → H1.size = H.size → (∀ q, q ≠ a → H1[q]? = H[q]?) → BX P s (m_ml M) H1 (locs ++ [⟨a, fd.slot⟩]) ls la h' := by
        intro H1 e1 e2 e3
        refine ⟨B.1.at1 e2 e3 h1 h2 (HX_put (B.1.2.1 a) hc hk (by show h'.1.2.1 a = h.1.2.1 a; rw [h1]) (t_OB.to (V := updV (fun g => fvr cj g (arow h a)) f v) ⟨_, e1, q2, q3, ?_⟩ fun g hg => ?_)), B.2.1.put e2 e3 hba, B.2.2⟩
        · rw [hsl]
          exact t_set q4 hap hfn v
        · by_cases hgf : g = f
          · subst hgf
            simp [updV, h4]
          · simp [updV, hgf, h3 g hgf]
      rcases hb : (TO cj f).2.2.2 with _ | _
      · have hlay := C.1.2.2.2.2 _ (kws _ (u_in_lay hfn))
        unfold u_lay at hlay
        rw [if_neg (by rw [hb]; decide)] at hlay
        have h6 := u_store hfc hkC hkind hlay hi t1 hn hft
        exact Sx.n he fun Q kk => W.putK C.1.1 C.1.2.1 (f := fd) ⟨C.1.2.2.2.1, C.tb hlink, ⟨_, _, _, hi2⟩, hst⟩ (by rw [q2]; exact h6) q1 q3 (by rw [hsl]; exact k2_hasslot (q4 f hfn)) rfl rfl hd fun H1 e1 e2 e3 => kk _ _ _ (fin H1 e1 e2 e3)
      · obtain ⟨hin2, hdecl⟩ := hfin.resolve_left (by rw [hb]; decide)
        have hlay := C.1.2.2.2.2 _ (kws _ (u_in_lay hfn))
        unfold u_lay at hlay
        rw [if_pos hb] at hlay
        have hcf : m.cls = cf := by
          obtain ⟨_, _, c', _, _, _, -, -, hf', -, -, -, hown2, -⟩ := Cond.laysFinal_spec hlay
          have e1 : c' = cf := by have := hi.symm.trans hf'; simp at this; exact this.1.symm
          rw [hdecl] at hown2
          rw [← e1]; exact Option.some.inj (C.1.2.2.2.1.symm.trans hown2)
        have h6 := u_fits hfc hkC hkind (Or.inr hlay) hi t1 hn hft
        exact Sx.n he fun Q kk => W.putFinK C.1.1 C.1.2.1 C.1.2.2.2.1 (C.tb hlink) hi2 hst hcf (C.2.1.1.trans hin2) (by rw [q2]; exact h6) q1 q3 (by rw [hsl]; exact k2_hasslot (q4 f hfn)) rfl rfl hd fun H1 e1 e2 e3 => kk _ _ _ (fin H1 e1 e2 e3)
    rcases fty_val cj f t2 with ⟨y1, y2⟩ | ⟨y1, y2⟩ | ⟨y1, y2⟩
    · unfold fw at he
      rw [y1] at he
      cases v with
      | int x =>
        refine key (h.1, u2 h.2.1 a f x, h.2.2.1, h.2.2.2) rfl (fun q hq => ?_) (fun g hg => ?_) ?_ (by rw [y2]; rfl) (by rw [y2]; rfl) he
        · show ((h.1.2.1 q, u2 h.2.1 a f x q, h.2.2.1 q, h.2.2.2 q) : AR) = _
          rw [u2_a _ _ _ _ hq]
          rfl
        · show (match fty cj g with | 0 => Value.int (u2 h.2.1 a f x a g) | 1 => Value.long (h.2.2.1 a g) | _ => va_rf (h.2.2.2 a g)) = _
          rw [u2_i _ _ _ _ hg]
          rfl
        · show (match fty cj f with | 0 => Value.int (u2 h.2.1 a f x a f) | 1 => Value.long (h.2.2.1 a f) | _ => va_rf (h.2.2.2 a f)) = _
          rw [y1, u2_s]
          rfl
      | _ => cases he
    · unfold fw at he
      rw [y1] at he
      cases v with
      | long x =>
        refine key (h.1, h.2.1, u2 h.2.2.1 a f x, h.2.2.2) rfl (fun q hq => ?_) (fun g hg => ?_) ?_ (by rw [y2]; rfl) (by rw [y2]; rfl) he
        · show ((h.1.2.1 q, h.2.1 q, u2 h.2.2.1 a f x q, h.2.2.2 q) : AR) = _
          rw [u2_a _ _ _ _ hq]
          rfl
        · show (match fty cj g with | 0 => Value.int (h.2.1 a g) | 1 => Value.long (u2 h.2.2.1 a f x a g) | _ => va_rf (h.2.2.2 a g)) = _
          rw [u2_i _ _ _ _ hg]
          rfl
        · show (match fty cj f with | 0 => Value.int (h.2.1 a f) | 1 => Value.long (u2 h.2.2.1 a f x a f) | _ => va_rf (h.2.2.2 a f)) = _
          rw [y1, u2_s]
          rfl
      | _ => cases he
    · unfold fw at he
      rw [y1] at he
      cases v with
      | ref b =>
        refine key (h.1, h.2.1, h.2.2.1, u2 h.2.2.2 a f (some b)) rfl (fun q hq => ?_) (fun g hg => ?_) ?_ (by rcases y2 with ⟨n, y2⟩ | ⟨n, y2⟩ <;> rw [y2] <;> rfl) (by rcases y2 with ⟨n, y2⟩ | ⟨n, y2⟩ <;> rw [y2] <;> rfl) he
        · show ((h.1.2.1 q, h.2.1 q, h.2.2.1 q, u2 h.2.2.2 a f (some b) q) : AR) = _
          rw [u2_a _ _ _ _ hq]
          rfl
        · show (match fty cj g with | 0 => Value.int (h.2.1 a g) | 1 => Value.long (h.2.2.1 a g) | _ => va_rf (u2 h.2.2.2 a f (some b) a g)) = _
          rw [u2_i _ _ _ _ hg]
          rfl
        · show (match fty cj f with | 0 => Value.int (h.2.1 a f) | 1 => Value.long (h.2.2.1 a f) | _ => va_rf (u2 h.2.2.2 a f (some b) a f)) = _
          rw [y1, u2_s]
          rfl
      | _ => cases he
theorem sn_arraylength (C : CX P M p R s m args meth c) (B : BX P s (m_ml M) H locs ls la h) (hd : decode (m_b M) pc = .ok (.arraylength, len)) (he : ex M (.arraylength) len pc ls st k h = some r) : Sx p l e R s m args below meth c P M pc la st k H locs r := by
  obtain ⟨h9, hE⟩ := ln_inv he; subst h9; replace he := hE; clear hE
  obtain ⟨a, st, hq, hE⟩ := pr_inv he; subst hq; replace he := hE; clear hE
  obtain ⟨⟨k1, k2⟩, he⟩ := it_inv he
  by_cases h7 : kd h.1 a = 7
  · obtain ⟨g1, g2, -⟩ := (B.1.2.1 a).2.1 h7
    obtain ⟨scr, s1, s2, s3, s4, s5⟩ := C.scr B.2.1
    have e1 : le h.1 a = p_L P := g2
    rw [e1] at he
    exact Sx.n he fun Q kk => W.alen (n := nI (p_L P)) C.1.1 C.1.2.1 (by rw [g1]; exact s1) s2 (by rw [s4]; rfl) rfl rfl hd (kk _ _ _ B)
  · obtain ⟨-, g⟩ := ar_at B.1 (k := kd h.1 a) rfl k1 (by omega)
    exact Sx.n he fun Q kk => W.alen (n := nI (le h.1 a)) C.1.1 C.1.2.1 g (C.arr (kd h.1 a) k1 (by omega) _ _) (by rw [arrV_size]; rfl) rfl rfl hd (kk _ _ _ B)
theorem sn_iaload (C : CX P M p R s m args meth c) (B : BX P s (m_ml M) H locs ls la h) (hd : decode (m_b M) pc = .ok (.iaload, len)) (he : ex M (.iaload) len pc ls st k h = some r) : Sx p l e R s m args below meth c P M pc la st k H locs r := by
  obtain ⟨h9, hE⟩ := ln_inv he; subst h9; replace he := hE; clear hE
  obtain ⟨a, i, st, hq, hE⟩ := pir_inv he; subst hq; replace he := hE; clear hE
  obtain ⟨⟨hk, hi⟩, he⟩ := it_inv he
  have hlt : i.toNatClampNeg < le h.1 a := Nat.not_le.mp fun q => inr_in hi (Or.inr q)
  rcases hk with hk | hk
  · obtain ⟨-, g⟩ := ar_at B.1 (k := 1) hk (by decide) (by decide)
    exact Sx.n he fun Q kk => W.iald (v := .int (h.2.1 a i.toNatClampNeg)) C.1.1 C.1.2.1 g (C.arr 1 (by decide) (by decide) _ _) (fun q => by cases q) (by rw [arrV_size]; exact inr_in hi) (by rw [arrV_read _ _ hlt]; rfl) rfl rfl hd (kk _ _ _ B)
  · obtain ⟨g1, g2, g3⟩ := (B.1.2.1 a).2.1 hk
    obtain ⟨scr, s1, s2, s3, s4, s5⟩ := C.scr B.2.1
    have e1 : le h.1 a = p_L P := g2
    rw [e1] at hi hlt
    have e2 : h.2.1 a i.toNatClampNeg = p_xs P i.toNatClampNeg := g3 _ hlt
    exact Sx.n he fun Q kk => W.iald (v := .int (h.2.1 a i.toNatClampNeg)) C.1.1 C.1.2.1 (by rw [g1]; exact s1) s2 s3 (by rw [s4]; exact inr_in hi) (by rw [s5 _ hlt, e2]) rfl rfl hd (kk _ _ _ B)
theorem sn_baload (C : CX P M p R s m args meth c) (B : BX P s (m_ml M) H locs ls la h) (hd : decode (m_b M) pc = .ok (.baload, len)) (he : ex M (.baload) len pc ls st k h = some r) : Sx p l e R s m args below meth c P M pc la st k H locs r := by
  obtain ⟨h9, hE⟩ := ln_inv he; subst h9; replace he := hE; clear hE
  obtain ⟨a, i, st, hq, hE⟩ := pir_inv he; subst hq; replace he := hE; clear hE
  obtain ⟨⟨hk, hi⟩, he⟩ := it_inv he
  have hlt : i.toNatClampNeg < le h.1 a := Nat.not_le.mp fun q => inr_in hi (Or.inr q)
  rcases hk with hk | hk
  · obtain ⟨-, g⟩ := ar_at B.1 (k := 2) hk (by decide) (by decide)
    exact Sx.n he fun Q kk => W.bald (v := .int (h.2.1 a i.toNatClampNeg)) C.1.1 C.1.2.1 g (C.arr 2 (by decide) (by decide) _ _) (fun q => by cases q) (by rw [arrV_size]; exact inr_in hi) (by rw [arrV_read _ _ hlt]; rfl) rfl rfl hd (kk _ _ _ B)
  · obtain ⟨-, g⟩ := ar_at B.1 (k := 3) hk (by decide) (by decide)
    exact Sx.n he fun Q kk => W.zald (v := .int (h.2.1 a i.toNatClampNeg)) C.1.1 C.1.2.1 g (C.arr 3 (by decide) (by decide) _ _) (fun q => by cases q) (by rw [arrV_size]; exact inr_in hi) (by rw [arrV_read _ _ hlt]; rfl) rfl rfl hd (kk _ _ _ B)
theorem sn_laload (C : CX P M p R s m args meth c) (B : BX P s (m_ml M) H locs ls la h) (hd : decode (m_b M) pc = .ok (.laload, len)) (he : ex M (.laload) len pc ls st k h = some r) : Sx p l e R s m args below meth c P M pc la st k H locs r := by
  obtain ⟨h9, hE⟩ := ln_inv he; subst h9; replace he := hE; clear hE
  obtain ⟨a, i, st, hq, hE⟩ := pir_inv he; subst hq; replace he := hE; clear hE
  obtain ⟨⟨hk, hi⟩, he⟩ := it_inv he
  have hlt : i.toNatClampNeg < le h.1 a := Nat.not_le.mp fun q => inr_in hi (Or.inr q)
  obtain ⟨-, g⟩ := ar_at B.1 (k := 4) hk (by decide) (by decide)
  exact Sx.n he fun Q kk => W.lald (v := .long (h.2.2.1 a i.toNatClampNeg)) C.1.1 C.1.2.1 g (C.arr 4 (by decide) (by decide) _ _) (fun q => by cases q) (by rw [arrV_size]; exact inr_in hi) (by rw [arrV_read _ _ hlt]; rfl) rfl rfl hd (kk _ _ _ B)
theorem sn_aaload (C : CX P M p R s m args meth c) (B : BX P s (m_ml M) H locs ls la h) (hd : decode (m_b M) pc = .ok (.aaload, len)) (he : ex M (.aaload) len pc ls st k h = some r) : Sx p l e R s m args below meth c P M pc la st k H locs r := by
  obtain ⟨h9, hE⟩ := ln_inv he; subst h9; replace he := hE; clear hE
  obtain ⟨a, i, st, hq, hE⟩ := pir_inv he; subst hq; replace he := hE; clear hE
  obtain ⟨⟨hk, hi⟩, he⟩ := it_inv he
  have hlt : i.toNatClampNeg < le h.1 a := Nat.not_le.mp fun q => inr_in hi (Or.inr q)
  rcases hk with hk | hk
  · obtain ⟨-, g⟩ := ar_at B.1 (k := 5) hk (by decide) (by decide)
    exact Sx.n he fun Q kk => W.aald (v := va_rf (h.2.2.2 a i.toNatClampNeg)) (ty := .object RX7) C.1.1 C.1.2.1 g (C.arr 5 (by decide) (by decide) _ _) rfl (fun q => by cases q) (by rw [arrV_size]; exact inr_in hi) (by rw [arrV_read _ _ hlt]; rfl) rfl rfl hd (kk _ _ _ B)
  · obtain ⟨-, g⟩ := ar_at B.1 (k := 6) hk (by decide) (by decide)
    exact Sx.n he fun Q kk => W.aald (v := va_rf (h.2.2.2 a i.toNatClampNeg)) (ty := .object RX2) C.1.1 C.1.2.1 g (C.arr 6 (by decide) (by decide) _ _) rfl (fun q => by cases q) (by rw [arrV_size]; exact inr_in hi) (by rw [arrV_read _ _ hlt]; rfl) rfl rfl hd (kk _ _ _ B)
theorem sn_iastore (C : CX P M p R s m args meth c) (B : BX P s (m_ml M) H locs ls la h) (hd : decode (m_b M) pc = .ok (.iastore, len)) (he : ex M (.iastore) len pc ls st k h = some r) : Sx p l e R s m args below meth c P M pc la st k H locs r := by
  obtain ⟨h9, hE⟩ := ln_inv he; subst h9; replace he := hE; clear hE
  obtain ⟨x, st, hq, hE⟩ := pi_inv he; subst hq; replace he := hE; clear hE
  obtain ⟨a, i, st, hq, hE⟩ := pir_inv he; subst hq; replace he := hE; clear hE
  obtain ⟨⟨hk, hi⟩, he⟩ := it_inv he
  obtain ⟨ba, g⟩ := ar_at B.1 (k := 1) hk (by decide) (by decide)
  refine Sx.n he fun Q kk => W.iast C.1.1 C.1.2.1 g (C.arr 1 (by decide) (by decide) _ _) (fun q => by cases q) (by rw [arrV_size]; exact inr_in hi) rfl rfl hd fun H1 e1 z oq => kk _ _ _ ⟨B.1.at1 z oq rfl (fun q hq => ?_) (HX_arr (k := 1) (B.1.2.1 a) hk (by decide) (by decide) rfl ?_), B.2.1.put z oq ba, B.2.2⟩
  · show ((h.1.2.1 q, u2 h.2.1 a i.toNatClampNeg x q, h.2.2.1 q, h.2.2.2 q) : AR) = _
    rw [u2_a _ _ _ _ hq]
    rfl
  · rw [e1]
    refine congrArg some (arrV_st _ _ _ _ _ _ ?_ fun q hq => ?_)
    · show Value.int (u2 h.2.1 a i.toNatClampNeg x a i.toNatClampNeg) = _
      rw [u2_s]
    · show Value.int (u2 h.2.1 a i.toNatClampNeg x a q) = _
      rw [u2_i _ _ _ _ hq]
      rfl
theorem sn_lastore (C : CX P M p R s m args meth c) (B : BX P s (m_ml M) H locs ls la h) (hd : decode (m_b M) pc = .ok (.lastore, len)) (he : ex M (.lastore) len pc ls st k h = some r) : Sx p l e R s m args below meth c P M pc la st k H locs r := by
  obtain ⟨h9, hE⟩ := ln_inv he; subst h9; replace he := hE; clear hE
  obtain ⟨x, st, hq, hE⟩ := pl_inv he; subst hq; replace he := hE; clear hE
  obtain ⟨a, i, st, hq, hE⟩ := pir_inv he; subst hq; replace he := hE; clear hE
  obtain ⟨⟨hk, hi⟩, he⟩ := it_inv he
  obtain ⟨ba, g⟩ := ar_at B.1 (k := 4) hk (by decide) (by decide)
  refine Sx.n he fun Q kk => W.last C.1.1 C.1.2.1 g (C.arr 4 (by decide) (by decide) _ _) (fun q => by cases q) (by rw [arrV_size]; exact inr_in hi) rfl rfl hd fun H1 e1 z oq => kk _ _ _ ⟨B.1.at1 z oq rfl (fun q hq => ?_) (HX_arr (k := 4) (B.1.2.1 a) hk (by decide) (by decide) rfl ?_), B.2.1.put z oq ba, B.2.2⟩
  · show ((h.1.2.1 q, h.2.1 q, u2 h.2.2.1 a i.toNatClampNeg x q, h.2.2.2 q) : AR) = _
    rw [u2_a _ _ _ _ hq]
    rfl
  · rw [e1]
    refine congrArg some (arrV_st _ _ _ _ _ _ ?_ fun q hq => ?_)
    · show Value.long (u2 h.2.2.1 a i.toNatClampNeg x a i.toNatClampNeg) = _
      rw [u2_s]
    · show Value.long (u2 h.2.2.1 a i.toNatClampNeg x a q) = _
      rw [u2_i _ _ _ _ hq]
      rfl
theorem nar_b (x : Int32) : narrow .byte (.int x) = .int (vp_nar .byte x) := by
  unfold vp_nar
  rfl
theorem nar_z (x : Int32) : narrow .boolean (.int x) = .int (vp_nar .boolean x) := by
  unfold vp_nar
  rfl
theorem sn_bastore (C : CX P M p R s m args meth c) (B : BX P s (m_ml M) H locs ls la h) (hd : decode (m_b M) pc = .ok (.bastore, len)) (he : ex M (.bastore) len pc ls st k h = some r) : Sx p l e R s m args below meth c P M pc la st k H locs r := by
  obtain ⟨h9, hE⟩ := ln_inv he; subst h9; replace he := hE; clear hE
  obtain ⟨x, st, hq, hE⟩ := pi_inv he; subst hq; replace he := hE; clear hE
  obtain ⟨a, i, st, hq, hE⟩ := pir_inv he; subst hq; replace he := hE; clear hE
  obtain ⟨hi, he⟩ := it_inv he
  by_cases hk : kd h.1 a = 2
  · rw [if_pos hk] at he
    obtain ⟨ba, g⟩ := ar_at B.1 (k := 2) hk (by decide) (by decide)
    refine Sx.n he fun Q kk => W.bast C.1.1 C.1.2.1 g (C.arr 2 (by decide) (by decide) _ _) (fun q => by cases q) (by rw [arrV_size]; exact inr_in hi) rfl rfl hd fun H1 e1 z oq => kk _ _ _ ⟨B.1.at1 z oq rfl (fun q hq => ?_) (HX_arr (k := 2) (B.1.2.1 a) hk (by decide) (by decide) rfl ?_), B.2.1.put z oq ba, B.2.2⟩
    · show ((h.1.2.1 q, u2 h.2.1 a i.toNatClampNeg (vp_nar .byte x) q, h.2.2.1 q, h.2.2.2 q) : AR) = _
      rw [u2_a _ _ _ _ hq]
      rfl
    · rw [e1]
      refine congrArg some (arrV_st _ _ _ _ _ _ ?_ fun q hq => ?_)
      · show Value.int (u2 h.2.1 a i.toNatClampNeg (vp_nar .byte x) a i.toNatClampNeg) = _
        rw [u2_s]
        exact (nar_b x).symm
      · show Value.int (u2 h.2.1 a i.toNatClampNeg (vp_nar .byte x) a q) = _
        rw [u2_i _ _ _ _ hq]
        rfl
  · rw [if_neg hk] at he
    obtain ⟨hk, he⟩ := it_inv he
    obtain ⟨ba, g⟩ := ar_at B.1 (k := 3) hk (by decide) (by decide)
    refine Sx.n he fun Q kk => W.zast C.1.1 C.1.2.1 g (C.arr 3 (by decide) (by decide) _ _) (fun q => by cases q) (by rw [arrV_size]; exact inr_in hi) rfl rfl hd fun H1 e1 z oq => kk _ _ _ ⟨B.1.at1 z oq rfl (fun q hq => ?_) (HX_arr (k := 3) (B.1.2.1 a) hk (by decide) (by decide) rfl ?_), B.2.1.put z oq ba, B.2.2⟩
    · show ((h.1.2.1 q, u2 h.2.1 a i.toNatClampNeg (vp_nar .boolean x) q, h.2.2.1 q, h.2.2.2 q) : AR) = _
      rw [u2_a _ _ _ _ hq]
      rfl
    · rw [e1]
      refine congrArg some (arrV_st _ _ _ _ _ _ ?_ fun q hq => ?_)
      · show Value.int (u2 h.2.1 a i.toNatClampNeg (vp_nar .boolean x) a i.toNatClampNeg) = _
        rw [u2_s]
        exact (nar_z x).symm
      · show Value.int (u2 h.2.1 a i.toNatClampNeg (vp_nar .boolean x) a q) = _
        rw [u2_i _ _ _ _ hq]
        rfl
theorem sn_aastore (C : CX P M p R s m args meth c) (B : BX P s (m_ml M) H locs ls la h) (hd : decode (m_b M) pc = .ok (.aastore, len)) (he : ex M (.aastore) len pc ls st k h = some r) : Sx p l e R s m args below meth c P M pc la st k H locs r := by
  obtain ⟨h9, hE⟩ := ln_inv he; subst h9; replace he := hE; clear hE
  obtain ⟨b, st, hq, hE⟩ := pr_inv he; subst hq; replace he := hE; clear hE
  obtain ⟨a, i, st, hq, hE⟩ := pir_inv he; subst hq; replace he := hE; clear hE
  obtain ⟨⟨hkk, hi⟩, he⟩ := it_inv he
  have hlt : i.toNatClampNeg < le h.1 a := Nat.not_le.mp fun q => inr_in hi (Or.inr q)
  rcases hkk with ⟨hk, hkb⟩ | ⟨hk, hkb⟩
  · obtain ⟨ba, g⟩ := ar_at B.1 (k := 5) hk (by decide) (by decide)
    obtain ⟨bb, cell, q1, q2, q3, q4⟩ := ob_at B.1 (c := 4) (by decide) hkb
    have hcls := (C.2.2.2.1.1.1 4 _ rfl).2
    obtain ⟨kA, comp, k1, k2, k3, -⟩ := (C.2.2.2.1.1.2 4 _ rfl).2
    have hcomp : comp = (p_D P).1 4 := Option.some.inj (k3.symm.trans hcls.1)
    subst hcomp
    obtain ⟨kC, hkC, -⟩ := hcls.2
    refine Sx.n he fun Q kk => W.aast C.1.1 C.1.2.1 g (fun q h => by cases h) (fun h => by cases h) k1 k2 rfl hkC ⟨fun q => inr_in hi (Or.inl q), by rw [arrV_size]; exact hlt⟩ q1 (fun q h => by rw [q3] at h; cases h) (by rw [q2]; exact hkC) (by rw [q2]; exact va_assign hcls) rfl rfl hd fun H1 e1 z oq => kk _ _ _ ⟨B.1.at1 z oq rfl (fun q hq => ?_) (HX_arr (k := 5) (B.1.2.1 a) hk (by decide) (by decide) rfl ?_), B.2.1.put z oq ba, B.2.2⟩
    · show ((h.1.2.1 q, h.2.1 q, h.2.2.1 q, u2 h.2.2.2 a i.toNatClampNeg (some b) q) : AR) = _
      rw [u2_a _ _ _ _ hq]
      rfl
    · rw [e1]
      refine congrArg some (arrV_st _ _ _ _ _ _ ?_ fun q hq => ?_)
      · show va_rf (u2 h.2.2.2 a i.toNatClampNeg (some b) a i.toNatClampNeg) = _
        rw [u2_s]
        rfl
      · show va_rf (u2 h.2.2.2 a i.toNatClampNeg (some b) a q) = _
        rw [u2_i _ _ _ _ hq]
        rfl
  · obtain ⟨ba, g⟩ := ar_at B.1 (k := 6) hk (by decide) (by decide)
    obtain ⟨bb, cell, q1, q2, q3, q4⟩ := ob_at B.1 (c := 0) (by decide) hkb
    have hcls := (C.2.2.2.1.1.1 0 _ rfl).2
    obtain ⟨kA, comp, k1, k2, k3, -⟩ := (C.2.2.2.1.1.2 5 _ rfl).2
    have hcomp : comp = (p_D P).1 0 := Option.some.inj (k3.symm.trans hcls.1)
    subst hcomp
    obtain ⟨kC, hkC, -⟩ := hcls.2
    refine Sx.n he fun Q kk => W.aast C.1.1 C.1.2.1 g (fun q h => by cases h) (fun h => by cases h) k1 k2 rfl hkC ⟨fun q => inr_in hi (Or.inl q), by rw [arrV_size]; exact hlt⟩ q1 (fun q h => by rw [q3] at h; cases h) (by rw [q2]; exact hkC) (by rw [q2]; exact va_assign hcls) rfl rfl hd fun H1 e1 z oq => kk _ _ _ ⟨B.1.at1 z oq rfl (fun q hq => ?_) (HX_arr (k := 6) (B.1.2.1 a) hk (by decide) (by decide) rfl ?_), B.2.1.put z oq ba, B.2.2⟩
    · show ((h.1.2.1 q, h.2.1 q, h.2.2.1 q, u2 h.2.2.2 a i.toNatClampNeg (some b) q) : AR) = _
      rw [u2_a _ _ _ _ hq]
      rfl
    · rw [e1]
      refine congrArg some (arrV_st _ _ _ _ _ _ ?_ fun q hq => ?_)
      · show va_rf (u2 h.2.2.2 a i.toNatClampNeg (some b) a i.toNatClampNeg) = _
        rw [u2_s]
        rfl
      · show va_rf (u2 h.2.2.2 a i.toNatClampNeg (some b) a q) = _
        rw [u2_i _ _ _ _ hq]
        rfl
theorem CX.room (C : CX P M p R s m args meth c) {x y : Nat} (h : k.1 + x ≤ m_mc M ∧ k.2 + y ≤ m_ms M) : k.1 + x ≤ R.cells ∧ k.2 + y ≤ R.slots := ⟨Nat.le_trans h.1 C.2.2.1.2.2.1, Nat.le_trans h.2 C.2.2.1.2.2.2⟩
theorem BX.new (B : BX P s (m_ml M) H locs ls la h) {H1 : Heap} {sh : Nat × Nat} (z : H1.size = H.size + 1) (o1 : ∀ q : Nat, q < H.size → H1[q]? = H[q]?) (hx : HX P (sh, (fun _ => 0), (fun _ => 0), (fun _ => none)) H.size H1) : BX P s (m_ml M) H1 locs ls la (mk h sh) :=
  ⟨B.1.new z o1 hx, ⟨Nat.le_trans B.2.1.1 (by omega), fun x h1 h2 => (o1 x (Nat.lt_of_lt_of_le h1 B.2.1.1)).trans (B.2.1.2.1 x h1 h2), B.2.1.2.2⟩, B.2.2⟩
theorem HX_newA {P : SP} {H H1 : Heap} {k n : Nat} (k1 : 1 ≤ k) (k2 : k ≤ 6) (hb : p_bs P ≤ H.size) (e : H1[H.size]? = some (arrV (p_tA P k) n (vK k ((k, n), (fun _ => 0), (fun _ => 0), (fun _ => none))))) : HX P ((k, n), (fun _ => 0), (fun _ => 0), (fun _ => none)) H.size H1 :=
  ⟨fun _ _ => ⟨hb, e⟩, fun h2 => absurd (show k = 7 from h2) (by omega), fun c' hc' hk' => absurd (show k = 10 + c' from hk') (by omega), fun h2 => absurd (show k = 20 from h2) (by omega)⟩
theorem CX.bs (C : CX P M p R s m args meth c) (B : BX P s (m_ml M) H locs ls la h) : p_bs P ≤ H.size := Nat.le_trans C.2.2.2.2.1.2.2.2 B.2.1.1
theorem CX.newA (C : CX P M p R s m args meth c) {k : Nat} (k1 : 1 ≤ k) (k2 : k ≤ 6) {cA : ClassId} (hf : s.vm.findClass ("[" ++ (p_ty k).toString) = some cA) : cA = p_tA P k := by
  have h1 := (C.2.2.2.1.1.2 (k - 1) _ (tys6_at _ k k1 k2)).2
  dsimp only at h1
  match k, k1, k2 with
  | 1, _, _ => exact Option.some.inj (hf.symm.trans h1)
  | 2, _, _ => exact Option.some.inj (hf.symm.trans h1)
  | 3, _, _ => exact Option.some.inj (hf.symm.trans h1)
  | 4, _, _ => exact Option.some.inj (hf.symm.trans h1)
  | 5, _, _ =>
    obtain ⟨kA, comp, g1, g2, g3, g4⟩ := h1
    exact Option.some.inj (hf.symm.trans g4)
  | 6, _, _ =>
    obtain ⟨kA, comp, g1, g2, g3, g4⟩ := h1
    exact Option.some.inj (hf.symm.trans g4)
  | k + 7, _, h => exact absurd h (by omega)
theorem xmk_inv {hh : Nat × Nat} (he : x_mk M pc ls st k h hh = some r) : (k.1 + 1 ≤ m_mc M ∧ k.2 + hh.2 ≤ m_ms M) ∧ x_n pc ls (.ref h.1.1 :: st) (k.1 + 1, k.2 + hh.2) (mk h hh) = some r := it_inv he
theorem sn_newarray {t : ArrayType} (C : CX P M p R s m args meth c) (B : BX P s (m_ml M) H locs ls la h) (hd : decode (m_b M) pc = .ok (.newarray t, len)) (he : ex M (.newarray t) len pc ls st k h = some r) : Sx p l e R s m args below meth c P M pc la st k H locs r := by
  obtain ⟨h9, hE⟩ := ln_inv he; subst h9; replace he := hE; clear hE
  obtain ⟨n, st, hq, hE⟩ := pi_inv he; subst hq; replace he := hE; clear hE
  cases t with
  | int =>
    obtain ⟨⟨-, hn, hN⟩, he⟩ := it_inv he
    obtain ⟨hrm, he⟩ := xmk_inv he
    have hr2 := C.room hrm
    refine Sx.n (hk := fun _ _ => hrm) he fun Q kk => va_newaK (atype := .int) C.1.1 C.1.2.1 (C.tb ac_int) rfl hd rfl hn rfl (by show n.toNatClampNeg * 4 ≤ 536870912; omega) hr2.1 hr2.2 rfl fun H1 cA e1 z1 o1 hA hf => ?_
    have hcA := C.newA (k := 1) (by decide) (by decide) hf
    subst hcA
    rw [B.1.1]
    exact kk _ _ _ (B.new z1 o1 (HX_newA (by decide) (by decide) (C.bs B) e1))
  | byte =>
    obtain ⟨⟨-, hn, hN⟩, he⟩ := it_inv he
    obtain ⟨hrm, he⟩ := xmk_inv he
    have hr2 := C.room hrm
    refine Sx.n (hk := fun _ _ => hrm) he fun Q kk => va_newaK (atype := .byte) C.1.1 C.1.2.1 (C.tb ac_byte) rfl hd rfl hn rfl (by show n.toNatClampNeg * 1 ≤ 536870912; omega) hr2.1 hr2.2 rfl fun H1 cA e1 z1 o1 hA hf => ?_
    have hcA := C.newA (k := 2) (by decide) (by decide) hf
    subst hcA
    rw [B.1.1]
    exact kk _ _ _ (B.new z1 o1 (HX_newA (by decide) (by decide) (C.bs B) e1))
  | boolean =>
    obtain ⟨⟨-, hn, hN⟩, he⟩ := it_inv he
    obtain ⟨hrm, he⟩ := xmk_inv he
    have hr2 := C.room hrm
    refine Sx.n (hk := fun _ _ => hrm) he fun Q kk => va_newaK (atype := .boolean) C.1.1 C.1.2.1 (C.tb ac_boolean) rfl hd rfl hn rfl (by show n.toNatClampNeg * 1 ≤ 536870912; omega) hr2.1 hr2.2 rfl fun H1 cA e1 z1 o1 hA hf => ?_
    have hcA := C.newA (k := 3) (by decide) (by decide) hf
    subst hcA
    rw [B.1.1]
    exact kk _ _ _ (B.new z1 o1 (HX_newA (by decide) (by decide) (C.bs B) e1))
  | long =>
    obtain ⟨⟨-, hn, hN⟩, he⟩ := it_inv he
    obtain ⟨hrm, he⟩ := xmk_inv he
    have hr2 := C.room hrm
    refine Sx.n (hk := fun _ _ => hrm) he fun Q kk => va_newaK (atype := .long) C.1.1 C.1.2.1 (C.tb ac_long) rfl hd rfl hn rfl (by show n.toNatClampNeg * 8 ≤ 536870912; omega) hr2.1 hr2.2 rfl fun H1 cA e1 z1 o1 hA hf => ?_
    have hcA := C.newA (k := 4) (by decide) (by decide) hf
    subst hcA
    rw [B.1.1]
    exact kk _ _ _ (B.new z1 o1 (HX_newA (by decide) (by decide) (C.bs B) e1))
  | _ =>
    obtain ⟨⟨hz, -⟩, -⟩ := it_inv he
    exact absurd hz (by decide)
theorem sn_anewarray {i : Nat} (ho : m_own M < 14) (C : CX P M p R s m args meth c) (B : BX P s (m_ml M) H locs ls la h) (hd : decode (m_b M) pc = .ok (.anewarray i, len)) (he : ex M (.anewarray i) len pc ls st k h = some r) : Sx p l e R s m args below meth c P M pc la st k H locs r := by
  obtain ⟨h9, hE⟩ := ln_inv he; subst h9; replace he := hE; clear hE
  cases hf : cl (m_own M) i with
  | none => rw [hf] at he; cases he
  | some cj =>
    rw [hf] at he
    replace he : p_i st (fun n st => if (cj = 4 ∨ cj = 0) ∧ ¬ n < 0 ∧ n.toNatClampNeg ≤ 60000 then x_mk M (pc + 3) ls st k h (if cj = 4 then 5 else 6, n.toNatClampNeg) else none) = some r := he
    obtain ⟨n, st, hq, hE⟩ := pi_inv he; subst hq; replace he := hE; clear hE
    obtain ⟨⟨hcj, hn, hN⟩, he⟩ := it_inv he
    obtain ⟨-, hlink⟩ := cl_ok ho hf
    obtain ⟨hrm, he⟩ := xmk_inv he
    have hr2 := C.room hrm
    rcases hcj with hcj | hcj
    · subst hcj
      refine Sx.n (hk := fun _ _ => hrm) he fun Q kk => W.anew C.1.1 C.1.2.1 C.1.2.2.2.1 (C.tb hlink) (va_AO.use C.2.2.2.1.2.1) rfl hd rfl hn (by omega) hr2.1 hr2.2 fun cA kA comp f1 f2 f3 f4 => ?_
      have hcA := C.newA (k := 5) (by decide) (by decide) f1
      subst hcA
      rw [B.1.1]
      refine kk _ _ _ (B.new (by rw [Array.size_push]) (fun q hq => by rw [Array.getElem?_push, if_neg (Nat.ne_of_lt hq)]) (HX_newA (k := 5) (by decide) (by decide) (C.bs B) ?_))
      rw [Array.getElem?_push_size]
      exact congrArg some (arrV_new (p_tA P 5) n.toNatClampNeg .null)
    · subst hcj
      refine Sx.n (hk := fun _ _ => hrm) he fun Q kk => W.anew C.1.1 C.1.2.1 C.1.2.2.2.1 (C.tb hlink) (va_AO.use C.2.2.2.1.2.2.1) rfl hd rfl hn (by omega) hr2.1 hr2.2 fun cA kA comp f1 f2 f3 f4 => ?_
      have hcA := C.newA (k := 6) (by decide) (by decide) f1
      subst hcA
      rw [B.1.1]
      refine kk _ _ _ (B.new (by rw [Array.size_push]) (fun q hq => by rw [Array.getElem?_push, if_neg (Nat.ne_of_lt hq)]) (HX_newA (k := 6) (by decide) (by decide) (C.bs B) ?_))
      rw [Array.getElem?_push_size]
      exact congrArg some (arrV_new (p_tA P 6) n.toNatClampNeg .null)
theorem fv_default (c f : Nat) (h : okTy (tyO c f) = true) (sh : Nat × Nat) : defaultValue (tyO c f) = fvr c f (sh, (fun _ => 0), (fun _ => 0), (fun _ => none)) := by
  unfold fvr
  rcases fty_val c f h with ⟨y1, y2⟩ | ⟨y1, y2⟩ | ⟨y1, y2⟩
  · rw [y1, y2]; rfl
  · rw [y1, y2]; rfl
  · rcases y2 with ⟨n, y2⟩ | ⟨n, y2⟩ <;> rw [y1, y2] <;> rfl
theorem sn_new {i : Nat} (ho : m_own M < 14) (C : CX P M p R s m args meth c) (B : BX P s (m_ml M) H locs ls la h) (hd : decode (m_b M) pc = .ok (.new i, len)) (he : ex M (.new i) len pc ls st k h = some r) : Sx p l e R s m args below meth c P M pc la st k H locs r := by
  obtain ⟨h9, hE⟩ := ln_inv he; subst h9; replace he := hE; clear hE
  cases hf : cl (m_own M) i with
  | none => rw [hf] at he; cases he
  | some cj =>
    rw [hf] at he
    replace he : x_mk M (pc + 3) ls st k h (10 + cj, NO cj) = some r := he
    obtain ⟨hc, hlink⟩ := cl_ok ho hf
    dsimp only at hc hlink
    obtain ⟨kcl, kws, kty, knm, kin, kini⟩ := kf_all cj hc
    obtain ⟨hrm, he⟩ := xmk_inv he
    have hr2 := C.room hrm
    have hKn := C.2.2.2.1.1.1 cj _ kcl
    refine Sx.n (hk := fun _ _ => hrm) he fun Q kk => W.newcK C.1.1 C.1.2.1 C.1.2.2.2.1 (C.tb hlink) (C.tb kin) (C.tb kini) rfl hd hr2.1 hr2.2 hKn.2.1 rfl fun H1 kC hkC e1 z1 o1 => ?_
    rw [B.1.1]
    refine kk _ _ _ (B.new z1 o1 ⟨fun _ h2 => absurd (show 10 + cj ≤ 6 from h2) (by omega), fun h2 => absurd (show 10 + cj = 7 from h2) (by omega), fun c' hc' hk' => ?_, fun h2 => absurd (show 10 + cj = 20 from h2) (by omega)⟩)
    have : c' = cj := by have : 10 + cj = 10 + c' := hk'; omega
    subst this
    exact ⟨C.bs B, (u_born (tyO c') C.1.2.2.2.2 kws hKn hkC e1 (fun g hg => (kty g hg).1)).to fun g hg => fv_default c' g (kty g hg).2.1 _⟩
end SN
