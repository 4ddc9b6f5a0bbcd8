/-! What the class answers, over the row of numbers σ alone. -/
def poZ (σ : Nat → Int) (x : Int) : Int := if hasS σ x = true then cuL (nAS σ) (szS σ) x 600 0 else -1
def pgZ (σ : Nat → Int) : Int := bsL (fun i b => decide (gAS σ b < gAS σ i)) (szS σ) 600 2 1
def cgZ (σ : Nat → Int) (d : Int) : Int := cnL (fun p => decide (gAS σ p = d)) (szS σ) 600 1 0
def stZ (σ : Nat → Int) (p : Int) : Int := gAS σ p / σ 2
def tgZ (σ : Nat → Int) (v : Int) : Int := tcN (stZ σ) v (szS σ - 1).toNat
def ugZ (σ : Nat → Int) : Int := cnL (fun s => decide (0 < tgZ σ s)) 600 600 1 0
def cmZ (σ : Nat → Int) : Int := if szS σ < 2 then -1 else bsL (fun i b => decide (tgZ σ b < tgZ σ i)) 600 600 2 1 * σ 2
def rcZ (σ : Nat → Int) (k : Int) : Int := rcL (gAS σ) (szS σ) k 600 1 0 0
def lrZ (σ : Nat → Int) : Int := lrL (gAS σ) (szS σ) (σ 2) 600 1 0 0 1
def reZ (σ : Nat → Int) (p : Int) : Int := reL (gAS σ) (szS σ) (σ 2) 600 p
def clZ (σ : Nat → Int) (w : Int) : Int := if w ≤ szS σ then bsL (fun i b => decide (nAS σ (i + w - 1) - nAS σ i < nAS σ (b + w - 1) - nAS σ b)) (szS σ - w + 2) 600 2 1 else -1
def cpZ (σ : Nat → Int) (d e f : Int) : Int := cnL (fun p => decide (gAS σ p = d ∧ gAS σ (p + 1) = e ∧ (f = 0 ∨ gAS σ (p + 2) = f))) (szS σ) 600 1 0
def mrZ (σ : Nat → Int) (w : Int) : Int := mrA w (mmL (gAS σ) (szS σ) 600 1 (0, -1))
def prZ (σ : Nat → Int) (d : Int) : Int × Int × Int := prL (nAS σ) (fun x => hasS σ (x + d)) (szS σ + 1) 601 1 0 (-1) (-1)
def pbZ (σ : Nat → Int) (d w : Int) : Int := if w = 0 then (prZ σ d).1 else if w = 1 then (prZ σ d).2.1 else (prZ σ d).2.2
def trZ (σ : Nat → Int) (d e : Int) : Int := cnL (fun p => hasS σ (nAS σ p + d) && hasS σ (nAS σ p + e)) (szS σ + 1) 601 1 0
def wsZ (σ : Nat → Int) (n : Int) : Int := wsL (nAS σ) n 600 1 (szS σ) 0
def fnZ (σ : Nat → Int) (m : Int) : Int := fiL (hasS σ) (nAS σ) (szS σ) (2 * nAS σ (szS σ)) m 300000 1 (2 * nAS σ 1)
def plZ (σ : Nat → Int) (x d : Int) : Int := pgL (hasS σ) (szS σ) d 600 1 (x + d)
def lpZ (σ : Nat → Int) (d : Int) : Int := lpL (nAS σ) (hasS σ) (szS σ) d 600 1 (nAS σ 1) 0
def ccZ (σ τ : Nat → Int) : Int := cnL (fun p => hasS τ (nAS σ p)) (szS σ + 1) 601 1 0
def lnZ (σ τ : Nat → Int) : Int := nAS σ (fdL (fun p => !hasS τ (nAS σ p)) (szS σ + 1) 601 1)
def loZ (σ τ : Nat → Int) : Int := if lnZ σ τ = -1 then lnZ τ σ else if lnZ τ σ = -1 then lnZ σ τ else if lnZ τ σ < lnZ σ τ then lnZ τ σ else lnZ σ τ
def lkZ (σ τ : Nat → Int) : Int := lkL (fun i j => decide (σ (1222 + i.toNat) = τ (1222 + j.toNat))) (σ 4) (τ 4) 600 0
def pkZ (σ τ : Nat → Int) (k : Int) : Int := pkL (nAS σ) (hasS τ) (szS σ + 1) k 601 0 1
def meZ (σ τ : Nat → Int) (n w : Int) : Int := cnL (fun p => hasS τ (if w = 0 then n - nAS σ p else nAS σ p - n)) (szS σ + 1) 601 1 0
def fuZ (σ τ : Nat → Int) : Int := if fdL (fun p => !decide (nAS σ p = nAS τ p)) (max (szS σ) (szS τ) + 1) 601 1 < max (szS σ) (szS τ) + 1 then fdL (fun p => !decide (nAS σ p = nAS τ p)) (max (szS σ) (szS τ) + 1) 601 1 else -1
def llZ (σ τ : Nat → Int) : Int := cnL (fun p => decide (nAS σ p = nAS τ p)) (min (szS σ) (szS τ) + 1) 601 1 0
def cuZ (σ : Nat → Int) (x : Int) : Int := cuL (nAS σ) (szS σ) x 600 0
def l0Z (σ τ : Nat → Int) : LdS := (cuZ σ 0, cuZ τ 0, cuZ σ 0 - cuZ τ 0, cuZ σ 0 - cuZ τ 0, 0, cuZ σ 0 - cuZ τ 0, 0, cmp0 (cuZ σ 0 - cuZ τ 0))
def ldZ (σ τ : Nat → Int) (w : Int) : Int := ldA w (ldL (nAS σ) (nAS τ) (szS σ) (szS τ) 1200 (l0Z σ τ))
def rsZ (σ : Nat → Int) (m p : Int) : Int := nAS σ p % m
def raZ (σ : Nat → Int) (m c : Int) : Int := if c = -1 then ruN (rsZ σ m) (szS σ).toNat else tcN (rsZ σ m) c (szS σ).toNat
def rgZ (σ : Nat → Int) (g turn : Int) : Int := if turn < szS σ then rnL g turn.toNat (fun j => nAS σ (j + 1)) (szS σ) 0 else -1
def chZ0 (σ : Nat → Int) (x : Int) : Int × Int × Int := chL (nAS σ) (szS σ) 600 (poZ σ x) x 0 (fun _ => false)
def chZ (σ : Nat → Int) (x w : Int) : Int := if poZ σ x = -1 then -1 else if w = 0 then (chZ0 σ x).2.2 else if w = 1 then (chZ0 σ x).2.1 else bI (1 ≤ (chZ0 σ x).1 ∧ (chZ0 σ x).1 ≤ szS σ)
def ctZ (σ : Nat → Int) (i en : Int) : Int := cnL (hbS σ) (min en (σ 3)) 600 i 0
def pwZ (σ : Nat → Int) : List Int := pwL (nAS σ) (reZ σ) (szS σ) 600 1 0
def prpZ (σ : Nat → Int) (w : Int) : Int := if w = 0 then σ 0 else if w = 1 then σ 1 else if w = 2 then σ 2 else if w = 3 then σ 3 else if w = 4 then szS σ else if w = 5 then σ 4 else if w = 6 then bI (ngS σ = -1) else σ 6
/-- of a list -/
def liZ (ln : Nat) (lv : Nat → Int) (i : Int) : Int := if 0 ≤ i ∧ i ≤ (ln : Int) - 1 then lv i.toNat else -1
def ciZ (ln : Nat) (lv : Nat → Int) (σ : Nat → Int) : Int := cnL (fun i => hasS σ (liZ ln lv i)) ln 10 0 0
def fiZ (ln : Nat) (lv : Nat → Int) (σ : Nat → Int) : Int := liZ ln lv (fdL (fun i => !hasS σ (liZ ln lv i)) ln 10 0)
def tgtZ (ln : Nat) (lv : Nat → Int) (σ : Nat → Int) : Bool := if poZ σ (liZ ln lv 0) = -1 then false else tgB (fun i => decide (nAS σ (poZ σ (liZ ln lv 0) + i) = liZ ln lv i)) ln 10 1
/-- of what was: the times at which the numbers went -/
def skZ (σ : Nat → Int) (i : Int) : Int := if σ (20 + i.toNat) = 0 then 2147483647 else σ (20 + i.toNat)
def geZ (σ : Nat → Int) (ev : Int) (i : Int) : Bool := decide (ev ≤ skZ σ i)
def paZ (σ : Nat → Int) (idx ev : Int) : Int := ctN (geZ σ ev) (idx + 1).toNat
def iaZ (σ : Nat → Int) (pl ev : Int) : Int := if 1 ≤ pl ∧ pl ≤ ctN (geZ σ ev) (σ 3).toNat then (ixN (geZ σ ev) (σ 3).toNat pl : Int) else -1
def fsZ (σ : Nat → Int) (ev : Int) : Int := if fdL (fun i => decide (skZ σ i = ev)) (σ 3) 600 0 < σ 3 then σ 1 + σ 2 * fdL (fun i => decide (skZ σ i = ev)) (σ 3) 600 0 else -1
def whZ (σ : Nat → Int) (rd : Int) : Int := σ (620 + rd.toNat)
def roZ (σ : Nat → Int) (ev : Int) : Int := if fdL (fun i => decide (whZ σ i = ev)) (σ 4 + 1) 601 1 < σ 4 + 1 then fdL (fun i => decide (whZ σ i = ev)) (σ 4 + 1) 601 1 else 0
def snZ (σ : Nat → Int) (k : Int) : Int := if snL (fun i => !hbS σ i) (σ 3) k 600 0 0 < σ 3 then σ 1 + σ 2 * snL (fun i => !hbS σ i) (σ 3) k 600 0 0 else -1
def orZ (σ : Nat → Int) (rd w : Int) : Int := if 1 ≤ rd ∧ rd ≤ σ 4 then (if w = 0 then σ (1222 + rd.toNat) else if w = 1 then paZ σ (σ 3 - 1) (whZ σ rd) - paZ σ (σ 3 - 1) (whZ σ rd + 1) else if w = 2 then fsZ σ (whZ σ rd) else paZ σ (σ 3 - 1) (whZ σ rd + 1)) else -1
def osZ (σ : Nat → Int) (x w : Int) : Int := if iXS σ x = -1 ∨ hbS σ (iXS σ x) = true then -1 else if w = 0 then roZ σ (skZ σ (iXS σ x)) else paZ σ (iXS σ x) (skZ σ (iXS σ x))
def lbZ (σ : Nat → Int) (fi la pl : Int) : Int := if la < fi ∨ ¬ (1 ≤ la ∧ la ≤ σ 4) then -1 else if iaZ σ pl (whZ σ la + 1) = -1 then -1 else paZ σ (iaZ σ pl (whZ σ la + 1)) (whZ σ fi)
def lnoZ (σ : Nat → Int) (rd pl : Int) : Int := if 1 ≤ rd ∧ rd ≤ σ 4 then (if iaZ σ pl (whZ σ rd) = -1 ∨ skZ σ (iaZ σ pl (whZ σ rd)) = whZ σ rd then -1 else paZ σ (iaZ σ pl (whZ σ rd)) (whZ σ rd + 1)) else -1
def tbZ (σ : Nat → Int) : Bool := decide (¬ σ 4 < 2 ∧ ¬ whZ σ (σ 4) - whZ σ 1 = σ 4 - 1)
theorem cnL_cg {P P' : Int → Bool} {e : Int} : ∀ (k : Nat) (i c : Int), (∀ j, i ≤ j → j < e → P j = P' j) → cnL P e k i c = cnL P' e k i c := by
  intro k
  induction k with
  | zero => intro i c _; rfl
  | succ k ih =>
    intro i c h
    unfold cnL
    by_cases q : i < e
    · rw [if_pos q, if_pos q, h i (Int.le_refl _) q]
      exact ih _ _ fun j h1 h2 => h j (by omega) h2
    · rw [if_neg q, if_neg q]
theorem fdL_cg {P P' : Int → Bool} {e : Int} : ∀ (k : Nat) (i : Int), (∀ j, i ≤ j → j < e → P j = P' j) → fdL P e k i = fdL P' e k i := by
  intro k
  induction k with
  | zero => intro i _; rfl
  | succ k ih =>
    intro i h
    unfold fdL
    by_cases q : i < e
    · rw [if_pos q, if_pos q, h i (Int.le_refl _) q, ih _ fun j h1 h2 => h j (by omega) h2]
    · rw [if_neg q, if_neg q]
theorem snL_cg {P P' : Int → Bool} {e kk : Int} : ∀ (k : Nat) (a i : Int), (∀ j, i ≤ j → j < e → P j = P' j) → snL P e kk k a i = snL P' e kk k a i := by
  intro k
  induction k with
  | zero => intro a i _; rfl
  | succ k ih =>
    intro a i h
    unfold snL
    by_cases q : i < e
    · rw [if_pos q, if_pos q, h i (Int.le_refl _) q, ih _ _ fun j h1 h2 => h j (by omega) h2, ih _ _ fun j h1 h2 => h j (by omega) h2]
    · rw [if_neg q, if_neg q]
theorem iaL_cg {P P' : Int → Bool} {e pl : Int} : ∀ (k : Nat) (a i : Int), (∀ j, i ≤ j → j < e → P j = P' j) → iaL P e pl k a i = iaL P' e pl k a i := by
  intro k
  induction k with
  | zero => intro a i _; rfl
  | succ k ih =>
    intro a i h
    unfold iaL
    by_cases q : i < e
    · rw [if_pos q, if_pos q, h i (Int.le_refl _) q, ih _ _ fun j h1 h2 => h j (by omega) h2]
    · rw [if_neg q, if_neg q]
theorem lkL_cg {f f' : Int → Int → Bool} {a b : Int} : ∀ (k : Nat) (i : Int), 0 ≤ i → (∀ j, 1 ≤ j → j ≤ a → j ≤ b → f j j = f' j j) → lkL f a b k i = lkL f' a b k i := by
  intro k
  induction k with
  | zero => intro i _ _; rfl
  | succ k ih =>
    intro i h0 h
    unfold lkL
    by_cases q : i < a ∧ i < b
    · rw [h (i + 1) (by omega) (by omega) (by omega), ih (i + 1) (by omega) h]
    · rw [if_neg (fun z => q ⟨z.1, z.2.1⟩), if_neg (fun z => q ⟨z.1, z.2.1⟩)]
/-- the place by counting up is the place by the index -/
theorem iaL_ix (P : Int → Bool) (m : Nat) {pl : Int} (hp : 1 ≤ pl) : ∀ (k i : Nat), m ≤ i + k → i ≤ m → ctN P i < pl → iaL P (m : Int) pl k (ctN P i) (i : Int) = if pl ≤ ctN P m then (ixN P m pl : Int) else -1 := by
  intro k
  induction k with
  | zero =>
    intro i h1 h2 h3
    have e : i = m := by omega
    subst e
    unfold iaL
    rw [if_neg (by omega)]
  | succ k ih =>
    intro i h1 h2 h3
    unfold iaL
    by_cases q : i < m
    · rw [if_pos (by omega)]
      have ec : (if P (i : Int) = true then ctN P i + 1 else ctN P i) = ctN P (i + 1) := by
        rw [ctN]
        split <;> omega
      rw [ec]
      by_cases q2 : ctN P (i + 1) = pl
      · rw [if_pos q2]
        have hP : P (i : Int) = true := by
          rw [ctN] at q2
          by_cases z : P (i : Int) = true
          · exact z
          · rw [if_neg z] at q2
            omega
        have hc : ctN P i = pl - 1 := by
          rw [ctN, if_pos hP] at q2
          omega
        rw [ixN_eq P q hP hc]
        have := ctN_mono P (show i + 1 ≤ m by omega)
        rw [if_pos (by omega)]
      · rw [if_neg q2]
        have hlt : ctN P (i + 1) < pl := by
          have : ctN P (i + 1) ≤ ctN P i + 1 := by
            rw [ctN]
            split <;> omega
          omega
        have := ih (i + 1) (by omega) (by omega) hlt
        rw [Int.natCast_add] at this
        exact this
    · have e : i = m := by omega
      subst e
      rw [if_neg (by omega), if_neg (by omega)]
section SG
variable {G G' : Nat → Nat → Int} {S S2 : Nat} {σ τ : Nat → Int} {p d e f w n m x k g : Int}
theorem RS_po (h : RS G S σ) (w : WF σ) : poC G S x = poZ σ x := by unfold poC poZ; rw [RS_nA h w, RS_sz h w, RS_has h w]
theorem RS_pg (h : RS G S σ) (w : WF σ) : pgC G S = pgZ σ := by unfold pgC pgZ; rw [RS_gA h w, RS_sz h w]
theorem RS_cg (h : RS G S σ) (w : WF σ) : cgC G S d = cgZ σ d := by unfold cgC cgZ; rw [RS_gA h w, RS_sz h w]
theorem RS_st (h : RS G S σ) (w : WF σ) : stF G S = stZ σ := by
  funext p
  unfold stF stZ
  rw [RS_gA h w, h.2.2.1.2.2.1]
theorem RS_tg (h : RS G S σ) (w : WF σ) : tgC G S = tgZ σ := by
  funext v
  unfold tgC tgZ
  rw [RS_st h w, RS_sz h w]
theorem RS_ug (h : RS G S σ) (w : WF σ) : ugC G S = ugZ σ := by unfold ugC ugZ; rw [RS_tg h w]
theorem RS_cm (h : RS G S σ) (w : WF σ) : cmG G S = cmZ σ := by unfold cmG cmZ; rw [RS_tg h w, RS_sz h w, h.2.2.1.2.2.1]
theorem RS_lr (h : RS G S σ) (w : WF σ) : lrC G S = lrZ σ := by unfold lrC lrZ; rw [RS_gA h w, RS_sz h w, h.2.2.1.2.2.1]
theorem RS_cl (h : RS G S σ) (w' : WF σ) : clC G S w = clZ σ w := by unfold clC clZ; rw [RS_nA h w', RS_sz h w']
theorem RS_pb (h : RS G S σ) (w' : WF σ) : pbC G S d w = pbZ σ d w := by unfold pbC pbZ prZ; rw [RS_nA h w', RS_sz h w', RS_has h w']
theorem RS_ws (h : RS G S σ) (w : WF σ) : wsC G S = wsZ σ := by
  funext n
  unfold wsC wsZ
  rw [RS_nA h w, RS_sz h w]
theorem RS_fn (h : RS G S σ) (w : WF σ) : fnC G S m = fnZ σ m := by unfold fnC fnZ; rw [RS_has h w, RS_nA h w, RS_sz h w]
theorem RS_pl (h : RS G S σ) (w : WF σ) : plC G S x d = plZ σ x d := by unfold plC plZ; rw [RS_has h w, RS_sz h w]
theorem RS_lp (h : RS G S σ) (w : WF σ) : lpC G S d = lpZ σ d := by unfold lpC lpZ; rw [RS_nA h w, RS_has h w, RS_sz h w]
theorem RS_cc (h : RS G S σ) (w : WF σ) (h2 : RS G S2 τ) (w2 : WF τ) : ccC G S S2 = ccZ σ τ := by unfold ccC ccZ; rw [RS_nA h w, RS_has h2 w2, RS_sz h w]
theorem RS_ln (h : RS G S σ) (w : WF σ) (h2 : RS G S2 τ) (w2 : WF τ) : lnC G S S2 = lnZ σ τ := by unfold lnC lnZ; rw [RS_nA h w, RS_has h2 w2, RS_sz h w]
theorem RS_lo (h : RS G S σ) (w : WF σ) (h2 : RS G S2 τ) (w2 : WF τ) : loA G S S2 = loZ σ τ := by unfold loA loZ; rw [RS_ln h w h2 w2, RS_ln h2 w2 h w]
theorem RS_pk (h : RS G S σ) (w : WF σ) (h2 : RS G S2 τ) (w2 : WF τ) : pkC G S S2 k = pkZ σ τ k := by unfold pkC pkZ; rw [RS_nA h w, RS_has h2 w2, RS_sz h w]
theorem RS_me (h : RS G S σ) (w' : WF σ) (h2 : RS G S2 τ) (w2 : WF τ) : cmC G S S2 n w = meZ σ τ n w := by unfold cmC meZ; rw [RS_nA h w', RS_has h2 w2, RS_sz h w']
theorem RS_fu (h : RS G S σ) (w : WF σ) (h2 : RS G S2 τ) (w2 : WF τ) : fuC G S S2 = fuZ σ τ := by unfold fuC fuZ; rw [RS_nA h w, RS_nA h2 w2, RS_sz h w, RS_sz h2 w2]
theorem RS_ll (h : RS G S σ) (w : WF σ) (h2 : RS G S2 τ) (w2 : WF τ) : clP G S S2 = llZ σ τ := by unfold clP llZ; rw [RS_nA h w, RS_nA h2 w2, RS_sz h w, RS_sz h2 w2]
theorem RS_ld (h : RS G S σ) (w' : WF σ) (h2 : RS G S2 τ) (w2 : WF τ) : ldA w (ldL (nA G S) (nA G S2) (G S 13) (G S2 13) 1200 (ld0 G S S2)) = ldZ σ τ w := by unfold ldZ ld0 l0Z cuZ; rw [RS_nA h w', RS_nA h2 w2, RS_sz h w', RS_sz h2 w2]
theorem RS_lk (h : RS G S σ) (w : WF σ) (h2 : RS G S2 τ) (w2 : WF τ) : lrR G S S2 = lkZ σ τ := by
  unfold lrR lkZ
  have f1 := h.2.2.1.2.2.2.2.1
  have f2 := h2.2.2.1.2.2.2.2.1
  have b1 := WF_5 w
  have b2 := WF_5 w2
  rw [f1, f2]
  refine lkL_cg 600 0 (by omega) fun j j1 j2 j3 => ?_
  have e1 := (h.2.2.2.2.2.2 j.toNat (by omega) (by omega)).1
  have e2 := (h2.2.2.2.2.2.2 j.toNat (by omega) (by omega)).1
  unfold gR
  rw [if_pos (by omega), if_pos (by omega), e1, e2]
theorem RS_ra (h : RS G S σ) (w : WF σ) {c : Int} : rsC G S m c = raZ σ m c := by
  have e : rsF G S m = rsZ σ m := by
    funext p
    unfold rsF rsZ
    rw [RS_nA h w]
  unfold rsC raZ
  rw [e, RS_sz h w]
theorem RS_rg (h : RS G S σ) (w : WF σ) {t : Int} : rgC G S g t = rgZ σ g t := by unfold rgC rgZ; rw [RS_nA h w, RS_sz h w]
theorem RS_ch (h : RS G S σ) (w' : WF σ) : chC G S x w = chZ σ x w := by unfold chC chZ chZ0; rw [RS_nA h w', RS_po h w', RS_sz h w']
theorem RS_pw (h : RS G S σ) (w : WF σ) : pwC G S = pwZ σ := by
  have e : reL (gA G S) (G S 13) (G S 2) 600 = reZ σ := by
    funext p
    unfold reZ
    rw [RS_gA h w, RS_sz h w, h.2.2.1.2.2.1]
  unfold pwC pwZ
  rw [e, RS_nA h w, RS_sz h w]
theorem RS_prp (h : RS G S σ) (w' : WF σ) : prC G S w = prpZ σ w := by
  obtain ⟨f0, f1, f2, f3, f4, f5, f6⟩ := h.2.2.1
  unfold prC prpZ
  rw [f0, f1, f2, f3, f4, f6, RS_sz h w', (RS_ng h w').1]
theorem RS_sk (h : RS G S σ) (w : WF σ) (hp : 0 ≤ p ∧ p < σ 3) : sK G S p = skZ σ p := by
  have w3 := w.2.2.2.1
  have := h.2.2.2.2.2.1 p.toNat (by omega)
  unfold sK skZ
  rw [if_pos (by omega), this]
theorem RS_ct' (h : RS G S σ) (w : WF σ) (hx : 0 ≤ x) : cnL (hX G S) (min e (G S 3)) 600 x 0 = ctZ σ x e := by
  unfold ctZ
  rw [h.2.2.1.2.2.2.1]
  refine cnL_cg 600 x 0 fun j j1 j2 => ?_
  have := RS_hX h w (j := j.toNat) (by omega)
  rw [Int.toNat_of_nonneg (by omega)] at this
  exact this
theorem RS_pa (h : RS G S σ) (w : WF σ) (hx : -1 ≤ x ∧ x < σ 3) : plA G S x e = paZ σ x e := by
  have w3 := w.2.2.2.1
  unfold plA paZ
  rw [cnL_ct0 _ (by omega) (by omega)]
  refine ctN_congr _ fun i hi => ?_
  unfold geZ
  rw [RS_sk h w (p := i) (by omega)]
theorem RS_ia (h : RS G S σ) (w : WF σ) (hp : 1 ≤ p) : ixA9 G S p e = iaZ σ p e := by
  have w3 := w.2.2.2.1
  unfold ixA9 iaZ
  rw [h.2.2.1.2.2.2.1]
  rw [iaL_cg (P' := geZ σ e) 600 0 0 fun j j1 j2 => by
    unfold geZ
    rw [RS_sk h w (p := j) (by omega)]]
  have := iaL_ix (geZ σ e) (σ 3).toNat hp 600 0 (by omega) (by omega) (by show (0 : Int) < p; omega)
  rw [Int.toNat_of_nonneg (by omega)] at this
  have e0 : ctN (geZ σ e) 0 = 0 := rfl
  rw [e0] at this
  have this' : iaL (geZ σ e) (σ 3) p 600 0 0 = _ := this
  rw [this']
  by_cases q : p ≤ ctN (geZ σ e) (σ 3).toNat
  · rw [if_pos q, if_pos ⟨hp, q⟩]
  · rw [if_neg q, if_neg (fun z => q z.2)]
theorem RS_fs (h : RS G S σ) (w : WF σ) : fsB G S e = fsZ σ e := by
  have w3 := w.2.2.2.1
  unfold fsB fsZ
  rw [h.2.2.1.2.2.2.1, h.2.2.1.2.1, h.2.2.1.2.2.1]
  rw [fdL_cg (P' := fun i => decide (skZ σ i = e)) 600 0 fun j j1 j2 => by rw [RS_sk h w (p := j) (by omega)]]
theorem RS_wh (h : RS G S σ) (w : WF σ) (hp : 1 ≤ p ∧ p ≤ σ 4) : eR G S p = whZ σ p := by
  have := WF_5 w
  have e := (h.2.2.2.2.2.2 p.toNat (by omega) (by omega)).2
  unfold eR whZ
  rw [if_pos (by omega), e]
theorem RS_ro (h : RS G S σ) (w : WF σ) : roE G S e = roZ σ e := by
  unfold roE roZ
  rw [h.2.2.1.2.2.2.2.1]
  rw [fdL_cg (P' := fun i => decide (whZ σ i = e)) 601 1 fun j j1 j2 => by rw [RS_wh h w (p := j) (by omega)]]
theorem RS_sn (h : RS G S σ) (w : WF σ) : stN G S k = snZ σ k := by
  have w3 := w.2.2.2.1
  unfold stN snZ
  rw [h.2.2.1.2.2.2.1, h.2.2.1.2.1, h.2.2.1.2.2.1]
  rw [snL_cg (P' := fun i => !hbS σ i) 600 0 0 fun j j1 j2 => by
    have := RS_hX h w (j := j.toNat) (by omega)
    rw [Int.toNat_of_nonneg (by omega)] at this
    rw [this]]
theorem RS_or (h : RS G S σ) (w' : WF σ) : oRd G S p w = orZ σ p w := by
  have w3 := w'.2.2.2.1
  have w5 := WF_5 w'
  unfold oRd orZ
  rw [h.2.2.1.2.2.2.2.1]
  by_cases q : 1 ≤ p ∧ p ≤ σ 4
  · have e := (h.2.2.2.2.2.2 p.toNat (by omega) (by omega)).1
    have e' : gR G S p = σ (1222 + p.toNat) := by
      unfold gR
      rw [if_pos (by omega), e]
    rw [if_pos q, if_pos q, RS_wh h w' q, h.2.2.1.2.2.2.1, RS_pa h w' (by omega), RS_pa h w' (by omega), RS_fs h w', e']
  · rw [if_neg q, if_neg q]
theorem RS_os (h : RS G S σ) (w' : WF σ) : oSt G S x w = osZ σ x w := by
  have b := iXS_b w' x
  unfold oSt osZ
  rw [RS_iX h w']
  by_cases q : iXS σ x = -1
  · rw [if_pos (Or.inl q), if_pos (Or.inl q)]
  · have e := RS_hX h w' (j := (iXS σ x).toNat) (by omega)
    rw [Int.toNat_of_nonneg (by omega)] at e
    rw [e, RS_sk h w' (by omega), RS_ro h w', RS_pa h w' (by omega)]
theorem iaZ_b (w : WF σ) : -1 ≤ iaZ σ p e ∧ iaZ σ p e < σ 3 := by
  have w3 := w.2.2.2.1
  unfold iaZ
  split
  · rename_i q
    have := (ixN_ok (geZ σ e) (σ 3).toNat p q.1 q.2).1
    omega
  · omega
theorem RS_lb (h : RS G S σ) (w : WF σ) (hf : 1 ≤ f) (hp : 1 ≤ p) : lBk G S f e p = lbZ σ f e p := by
  unfold lBk lbZ
  rw [h.2.2.1.2.2.2.2.1]
  by_cases q : e < f ∨ ¬ (1 ≤ e ∧ e ≤ σ 4)
  · rw [if_pos q, if_pos q]
  · have b := iaZ_b (p := p) (e := whZ σ e + 1) w
    rw [if_neg q, if_neg q, RS_wh h w (by omega), RS_wh h w (by omega), RS_ia h w hp]
    by_cases z : iaZ σ p (whZ σ e + 1) = -1
    · rw [if_pos z, if_pos z]
    · rw [if_neg z, if_neg z, RS_pa h w (by omega)]
theorem RS_lno (h : RS G S σ) (w : WF σ) (hp : 1 ≤ p) : lOn G S e p = lnoZ σ e p := by
  unfold lOn lnoZ
  rw [h.2.2.1.2.2.2.2.1]
  by_cases q : 1 ≤ e ∧ e ≤ σ 4
  · have b := iaZ_b (p := p) (e := whZ σ e) w
    rw [if_pos q, if_pos q, RS_wh h w (by omega), RS_ia h w hp]
    by_cases z : iaZ σ p (whZ σ e) = -1
    · rw [if_pos (Or.inl z), if_pos (Or.inl z)]
    · rw [RS_sk h w (by omega), RS_pa h w (by omega)]
  · rw [if_neg q, if_neg q]
theorem RS_tb (h : RS G S σ) (w : WF σ) : tBR G S = tbZ σ := by
  have f4 := h.2.2.1.2.2.2.2.1
  unfold tBR tbZ
  rw [f4]
  by_cases q : σ 4 < 2
  · simp only [q, not_true_eq_false, false_and]
  · rw [RS_wh h w (by omega), RS_wh h w (by omega)]
end SG
