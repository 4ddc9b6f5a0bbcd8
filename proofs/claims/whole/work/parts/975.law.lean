/-! The law: one case after the other. -/
theorem and63 (x : Int32) : ∃ d : Int, (0 ≤ d ∧ d ≤ 63) ∧ x &&& zi 63 = zi d := by
  refine ⟨((x.toUInt32.toNat % 64 : Nat) : Int), by omega, ?_⟩
  apply zi_ext
  rw [zi_nat]
  have e : (x &&& zi 63).toUInt32.toNat = (x.toUInt32.toNat &&& 63) := by
    show ((x.toBitVec &&& (BitVec.ofInt 32 63)).toNat) = _
    rw [BitVec.toNat_and]
    rfl
  have e3 : ∀ m : Nat, m &&& 63 = m % 64 := fun m => Nat.and_two_pow_sub_one_eq_mod m 6
  rw [e, e3]
  omega
/-- the law at pc P: behind the case all stands again -/
def LC (E : AE) (r : Nat → Nat → Option Nat) (G L : Nat → Nat → Int) (X m b : Nat) (i : Int) (k1 k2 P : Nat) (st : List Value) : Prop := ∃ (G2 L2 : Nat → Nat → Int) (r2 : Nat → Nat → Option Nat), IV E r2 G2 L2 X m ∧ G2 b = G b ∧ ∀ Q, RK ML_law P [.ref b, .ref X, .ref m, .int (zi i)] st (k1, k2) (E, zg G, zk L, r) Q = RK ML_law 2193 [.ref b, .ref X, .ref m, .int (zi i)] [] (k1, k2) (E, zg G2, zk L2, r2) Q
section LW
variable {E : AE} {G L : Nat → Nat → Int} {r : Nat → Nat → Option Nat} {Q : AH → Value → Prop} {X m n a cl b k1 k2 : Nat} {p q : Nat → Nat} {σ τ σ' : Nat → Nat → Int} {kk nn : Nat → Int} {ln : Nat → Nat} {lv : Nat → Nat → Int} {N : Nat → Nat} {Sg : Nat → Nat → Nat → Int} {ys : List Int} {st fl f1 f2 i : Int} {tb : Nat → Int}
theorem lc_0 (h : ST E r G L X m n σ a kk nn τ cl ln lv ys st fl tb f1 f2 N Sg) (hk1 : k1 ≤ 600000) (hk2 : k2 ≤ 7302250) (hX : kd E X = 15) (hm : kd E m = 16) (hkb : kd E b = 1 ∨ kd E b = 7) (hbX : b < X) (hi : 0 ≤ i ∧ i + 6 ≤ (le E b : Int)) (hlb : (le E b : Int) ≤ 3072) (hC : ∀ j, I32 (G b j)) : LC E r G L X m b i k1 k2 268 [] := by
  obtain ⟨G1, r1, G2, L2, v, hI, fr, e1, e2⟩ := ca_status  h 
  have hb1 : G1 b = G b := (fr b hbX).1
  have ec : ∀ ls (h : AH) (Q : AH → Value → Prop), RK ML_law 276 ls [.int (zi v), .int (zi v)] (k1, k2) h Q = RK ML_law 2193 ls [] (k1, k2) h Q := fun ls h Q => by
    have e : zi v = zi (zi v).toInt := (zi_of _).symm
    rw [e, fL_law_276 (zi_rng _) (zi_rng _), if_pos rfl]
  refine ⟨G2, L2, r1, hI, (fr b hbX).2, fun Q => ?_⟩
  simp (disch := first | assumption | exact c2_int _ | exact c2_ref _ | exact c2_jk | exact c2_null | omega | exact bI_r _ | exact bI_01 _) only [↓fL_law_268, ↓fL_law_268n, ↓fL_law_269, ↓fL_law_272, ↓fL_law_272n, ↓fL_law_273, ↓e1, ↓e2, ↓ec]
theorem lc_1 (h : ST E r G L X m n σ a kk nn τ cl ln lv ys st fl tb f1 f2 N Sg) (hk1 : k1 ≤ 600000) (hk2 : k2 ≤ 7302250) (hX : kd E X = 15) (hm : kd E m = 16) (hkb : kd E b = 1 ∨ kd E b = 7) (hbX : b < X) (hi : 0 ≤ i ∧ i + 6 ≤ (le E b : Int)) (hlb : (le E b : Int) ≤ 3072) (hC : ∀ j, I32 (G b j)) : LC E r G L X m b i k1 k2 281 [] := by
  obtain ⟨G1, r1, G2, L2, v, hI, fr, e1, e2⟩ := ca_feed (v1 := G b (zi (i + 1)).toNatClampNeg) (v2 := G b (zi (i + 2)).toNatClampNeg) (v3 := G b (zi (i + 3)).toNatClampNeg) (v4 := G b (zi (i + 4)).toNatClampNeg) (v5 := G b (zi (i + 5)).toNatClampNeg) h (hC _) (hC _) (hC _) (hC _) (hC _)
  have hb1 : G1 b = G b := (fr b hbX).1
  have t1 : inr (zi (i + 1)) (le E b) = true := zi_inr (by omega) (by omega)
  have t2 : inr (zi (i + 2)) (le E b) = true := zi_inr (by omega) (by omega)
  have t3 : inr (zi (i + 3)) (le E b) = true := zi_inr (by omega) (by omega)
  have t4 : inr (zi (i + 4)) (le E b) = true := zi_inr (by omega) (by omega)
  have t5 : inr (zi (i + 5)) (le E b) = true := zi_inr (by omega) (by omega)
  rw [← hb1] at e2
  have ec : ∀ ls (h : AH) (Q : AH → Value → Prop), RK ML_law 339 ls [.int (zi v), .int (zi v)] (k1, k2) h Q = RK ML_law 2193 ls [] (k1, k2) h Q := fun ls h Q => by
    have e : zi v = zi (zi v).toInt := (zi_of _).symm
    rw [e, fL_law_339 (zi_rng _) (zi_rng _), if_pos rfl]
  refine ⟨G2, L2, r1, hI, (fr b hbX).2, fun Q => ?_⟩
  simp (disch := first | assumption | exact c2_int _ | exact c2_ref _ | exact c2_jk | exact c2_null | omega | exact bI_r _ | exact bI_01 _) only [↓fL_law_281, ↓fL_law_281n, ↓fL_law_282, ↓fL_law_282n, ↓fL_law_283, ↓fL_law_284, ↓fL_law_285, ↓fL_law_286, ↓fL_law_287, ↓fL_law_287n, ↓fL_law_288, ↓fL_law_289, ↓fL_law_290, ↓fL_law_291, ↓fL_law_292, ↓fL_law_292n, ↓fL_law_293, ↓fL_law_294, ↓fL_law_295, ↓fL_law_296, ↓fL_law_297, ↓fL_law_297n, ↓fL_law_298, ↓fL_law_299, ↓fL_law_300, ↓fL_law_301, ↓fL_law_302, ↓fL_law_302n, ↓fL_law_303, ↓fL_law_304, ↓fL_law_305, ↓fL_law_306, ↓fL_law_307, ↓fL_law_310, ↓fL_law_310n, ↓fL_law_311, ↓fL_law_311n, ↓fL_law_312, ↓fL_law_313, ↓fL_law_314, ↓fL_law_315, ↓fL_law_316, ↓fL_law_316n, ↓fL_law_317, ↓fL_law_318, ↓fL_law_319, ↓fL_law_320, ↓fL_law_321, ↓fL_law_321n, ↓fL_law_322, ↓fL_law_323, ↓fL_law_324, ↓fL_law_325, ↓fL_law_326, ↓fL_law_326n, ↓fL_law_327, ↓fL_law_328, ↓fL_law_329, ↓fL_law_330, ↓fL_law_331, ↓fL_law_331n, ↓fL_law_332, ↓fL_law_333, ↓fL_law_334, ↓fL_law_335, ↓fL_law_336, ↓e1, ↓e2, ↓ec]
theorem lc_2 (h : ST E r G L X m n σ a kk nn τ cl ln lv ys st fl tb f1 f2 N Sg) (hk1 : k1 ≤ 600000) (hk2 : k2 ≤ 7302250) (hX : kd E X = 15) (hm : kd E m = 16) (hkb : kd E b = 1 ∨ kd E b = 7) (hbX : b < X) (hi : 0 ≤ i ∧ i + 6 ≤ (le E b : Int)) (hlb : (le E b : Int) ≤ 3072) (hC : ∀ j, I32 (G b j)) : LC E r G L X m b i k1 k2 344 [] := by
  obtain ⟨G1, r1, G2, L2, v, hI, fr, e1, e2⟩ := ca_load (v1 := G b (zi (i + 1)).toNatClampNeg) h (hC _)
  have hb1 : G1 b = G b := (fr b hbX).1
  have t1 : inr (zi (i + 1)) (le E b) = true := zi_inr (by omega) (by omega)
  rw [← hb1] at e2
  have ec : ∀ ls (h : AH) (Q : AH → Value → Prop), RK ML_law 362 ls [.int (zi v), .int (zi v)] (k1, k2) h Q = RK ML_law 2193 ls [] (k1, k2) h Q := fun ls h Q => by
    have e : zi v = zi (zi v).toInt := (zi_of _).symm
    rw [e, fL_law_362 (zi_rng _) (zi_rng _), if_pos rfl]
  refine ⟨G2, L2, r1, hI, (fr b hbX).2, fun Q => ?_⟩
  simp (disch := first | assumption | exact c2_int _ | exact c2_ref _ | exact c2_jk | exact c2_null | omega | exact bI_r _ | exact bI_01 _) only [↓fL_law_344, ↓fL_law_344n, ↓fL_law_345, ↓fL_law_345n, ↓fL_law_346, ↓fL_law_347, ↓fL_law_348, ↓fL_law_349, ↓fL_law_350, ↓fL_law_353, ↓fL_law_353n, ↓fL_law_354, ↓fL_law_354n, ↓fL_law_355, ↓fL_law_356, ↓fL_law_357, ↓fL_law_358, ↓fL_law_359, ↓e1, ↓e2, ↓ec]
theorem lc_3 (h : ST E r G L X m n σ a kk nn τ cl ln lv ys st fl tb f1 f2 N Sg) (hk1 : k1 ≤ 600000) (hk2 : k2 ≤ 7302250) (hX : kd E X = 15) (hm : kd E m = 16) (hkb : kd E b = 1 ∨ kd E b = 7) (hbX : b < X) (hi : 0 ≤ i ∧ i + 6 ≤ (le E b : Int)) (hlb : (le E b : Int) ≤ 3072) (hC : ∀ j, I32 (G b j)) : LC E r G L X m b i k1 k2 367 [] := by
  obtain ⟨G1, r1, G2, L2, v, hI, fr, e1, e2⟩ := ca_fault (w := G b (zi (i + 1)).toNatClampNeg) h (hC _)
  have hb1 : G1 b = G b := (fr b hbX).1
  have t1 : inr (zi (i + 1)) (le E b) = true := zi_inr (by omega) (by omega)
  rw [← hb1] at e2
  have ec : ∀ ls (h : AH) (Q : AH → Value → Prop), RK ML_law 385 ls [.int (zi v), .int (zi v)] (k1, k2) h Q = RK ML_law 2193 ls [] (k1, k2) h Q := fun ls h Q => by
    have e : zi v = zi (zi v).toInt := (zi_of _).symm
    rw [e, fL_law_385 (zi_rng _) (zi_rng _), if_pos rfl]
  refine ⟨G2, L2, r1, hI, (fr b hbX).2, fun Q => ?_⟩
  simp (disch := first | assumption | exact c2_int _ | exact c2_ref _ | exact c2_jk | exact c2_null | omega | exact bI_r _ | exact bI_01 _) only [↓fL_law_367, ↓fL_law_367n, ↓fL_law_368, ↓fL_law_368n, ↓fL_law_369, ↓fL_law_370, ↓fL_law_371, ↓fL_law_372, ↓fL_law_373, ↓fL_law_376, ↓fL_law_376n, ↓fL_law_377, ↓fL_law_377n, ↓fL_law_378, ↓fL_law_379, ↓fL_law_380, ↓fL_law_381, ↓fL_law_382, ↓e1, ↓e2, ↓ec]
theorem lc_4 (h : ST E r G L X m n σ a kk nn τ cl ln lv ys st fl tb f1 f2 N Sg) (hk1 : k1 ≤ 600000) (hk2 : k2 ≤ 7302250) (hX : kd E X = 15) (hm : kd E m = 16) (hkb : kd E b = 1 ∨ kd E b = 7) (hbX : b < X) (hi : 0 ≤ i ∧ i + 6 ≤ (le E b : Int)) (hlb : (le E b : Int) ≤ 3072) (hC : ∀ j, I32 (G b j)) : LC E r G L X m b i k1 k2 390 [] := by
  obtain ⟨G1, r1, G2, L2, v, hI, fr, e1, e2⟩ := ca_many (w := G b (zi (i + 1)).toNatClampNeg) h (hC _)
  have hb1 : G1 b = G b := (fr b hbX).1
  have t1 : inr (zi (i + 1)) (le E b) = true := zi_inr (by omega) (by omega)
  rw [← hb1] at e2
  have ec : ∀ ls (h : AH) (Q : AH → Value → Prop), RK ML_law 408 ls [.int (zi v), .int (zi v)] (k1, k2) h Q = RK ML_law 2193 ls [] (k1, k2) h Q := fun ls h Q => by
    have e : zi v = zi (zi v).toInt := (zi_of _).symm
    rw [e, fL_law_408 (zi_rng _) (zi_rng _), if_pos rfl]
  refine ⟨G2, L2, r1, hI, (fr b hbX).2, fun Q => ?_⟩
  simp (disch := first | assumption | exact c2_int _ | exact c2_ref _ | exact c2_jk | exact c2_null | omega | exact bI_r _ | exact bI_01 _) only [↓fL_law_390, ↓fL_law_390n, ↓fL_law_391, ↓fL_law_391n, ↓fL_law_392, ↓fL_law_393, ↓fL_law_394, ↓fL_law_395, ↓fL_law_396, ↓fL_law_399, ↓fL_law_399n, ↓fL_law_400, ↓fL_law_400n, ↓fL_law_401, ↓fL_law_402, ↓fL_law_403, ↓fL_law_404, ↓fL_law_405, ↓e1, ↓e2, ↓ec]
theorem lc_5 (h : ST E r G L X m n σ a kk nn τ cl ln lv ys st fl tb f1 f2 N Sg) (hk1 : k1 ≤ 600000) (hk2 : k2 ≤ 7302250) (hX : kd E X = 15) (hm : kd E m = 16) (hkb : kd E b = 1 ∨ kd E b = 7) (hbX : b < X) (hi : 0 ≤ i ∧ i + 6 ≤ (le E b : Int)) (hlb : (le E b : Int) ≤ 3072) (hC : ∀ j, I32 (G b j)) : LC E r G L X m b i k1 k2 413 [] := by
  obtain ⟨G1, r1, G2, L2, v, hI, fr, e1, e2⟩ := ca_sieve (v1 := G b (zi (i + 1)).toNatClampNeg) (v2 := G b (zi (i + 2)).toNatClampNeg) h (hC _) (hC _)
  have hb1 : G1 b = G b := (fr b hbX).1
  have t1 : inr (zi (i + 1)) (le E b) = true := zi_inr (by omega) (by omega)
  have t2 : inr (zi (i + 2)) (le E b) = true := zi_inr (by omega) (by omega)
  rw [← hb1] at e2
  have ec : ∀ ls (h : AH) (Q : AH → Value → Prop), RK ML_law 441 ls [.int (zi v), .int (zi v)] (k1, k2) h Q = RK ML_law 2193 ls [] (k1, k2) h Q := fun ls h Q => by
    have e : zi v = zi (zi v).toInt := (zi_of _).symm
    rw [e, fL_law_441 (zi_rng _) (zi_rng _), if_pos rfl]
  refine ⟨G2, L2, r1, hI, (fr b hbX).2, fun Q => ?_⟩
  simp (disch := first | assumption | exact c2_int _ | exact c2_ref _ | exact c2_jk | exact c2_null | omega | exact bI_r _ | exact bI_01 _) only [↓fL_law_413, ↓fL_law_413n, ↓fL_law_414, ↓fL_law_414n, ↓fL_law_415, ↓fL_law_416, ↓fL_law_417, ↓fL_law_418, ↓fL_law_419, ↓fL_law_419n, ↓fL_law_420, ↓fL_law_421, ↓fL_law_422, ↓fL_law_423, ↓fL_law_424, ↓fL_law_427, ↓fL_law_427n, ↓fL_law_428, ↓fL_law_428n, ↓fL_law_429, ↓fL_law_430, ↓fL_law_431, ↓fL_law_432, ↓fL_law_433, ↓fL_law_433n, ↓fL_law_434, ↓fL_law_435, ↓fL_law_436, ↓fL_law_437, ↓fL_law_438, ↓e1, ↓e2, ↓ec]
theorem lc_6 (h : ST E r G L X m n σ a kk nn τ cl ln lv ys st fl tb f1 f2 N Sg) (hk1 : k1 ≤ 600000) (hk2 : k2 ≤ 7302250) (hX : kd E X = 15) (hm : kd E m = 16) (hkb : kd E b = 1 ∨ kd E b = 7) (hbX : b < X) (hi : 0 ≤ i ∧ i + 6 ≤ (le E b : Int)) (hlb : (le E b : Int) ≤ 3072) (hC : ∀ j, I32 (G b j)) : LC E r G L X m b i k1 k2 446 [] := by
  obtain ⟨G1, r1, G2, L2, v, hI, fr, e1, e2⟩ := ca_round (s := G b (zi (i + 1)).toNatClampNeg) h (hC _)
  have hb1 : G1 b = G b := (fr b hbX).1
  have t1 : inr (zi (i + 1)) (le E b) = true := zi_inr (by omega) (by omega)
  rw [← hb1] at e2
  have ec : ∀ ls (h : AH) (Q : AH → Value → Prop), RK ML_law 464 ls [.int (zi v), .int (zi v)] (k1, k2) h Q = RK ML_law 2193 ls [] (k1, k2) h Q := fun ls h Q => by
    have e : zi v = zi (zi v).toInt := (zi_of _).symm
    rw [e, fL_law_464 (zi_rng _) (zi_rng _), if_pos rfl]
  refine ⟨G2, L2, r1, hI, (fr b hbX).2, fun Q => ?_⟩
  simp (disch := first | assumption | exact c2_int _ | exact c2_ref _ | exact c2_jk | exact c2_null | omega | exact bI_r _ | exact bI_01 _) only [↓fL_law_446, ↓fL_law_446n, ↓fL_law_447, ↓fL_law_447n, ↓fL_law_448, ↓fL_law_449, ↓fL_law_450, ↓fL_law_451, ↓fL_law_452, ↓fL_law_455, ↓fL_law_455n, ↓fL_law_456, ↓fL_law_456n, ↓fL_law_457, ↓fL_law_458, ↓fL_law_459, ↓fL_law_460, ↓fL_law_461, ↓e1, ↓e2, ↓ec]
theorem lc_7 (h : ST E r G L X m n σ a kk nn τ cl ln lv ys st fl tb f1 f2 N Sg) (hk1 : k1 ≤ 600000) (hk2 : k2 ≤ 7302250) (hX : kd E X = 15) (hm : kd E m = 16) (hkb : kd E b = 1 ∨ kd E b = 7) (hbX : b < X) (hi : 0 ≤ i ∧ i + 6 ≤ (le E b : Int)) (hlb : (le E b : Int) ≤ 3072) (hC : ∀ j, I32 (G b j)) : LC E r G L X m b i k1 k2 469 [] := by
  obtain ⟨G1, r1, G2, L2, v, hI, fr, e1, e2⟩ := ca_all (s := G b (zi (i + 1)).toNatClampNeg) h (hC _)
  have hb1 : G1 b = G b := (fr b hbX).1
  have t1 : inr (zi (i + 1)) (le E b) = true := zi_inr (by omega) (by omega)
  rw [← hb1] at e2
  have ec : ∀ ls (h : AH) (Q : AH → Value → Prop), RK ML_law 487 ls [.int (zi v), .int (zi v)] (k1, k2) h Q = RK ML_law 2193 ls [] (k1, k2) h Q := fun ls h Q => by
    have e : zi v = zi (zi v).toInt := (zi_of _).symm
    rw [e, fL_law_487 (zi_rng _) (zi_rng _), if_pos rfl]
  refine ⟨G2, L2, r1, hI, (fr b hbX).2, fun Q => ?_⟩
  simp (disch := first | assumption | exact c2_int _ | exact c2_ref _ | exact c2_jk | exact c2_null | omega | exact bI_r _ | exact bI_01 _) only [↓fL_law_469, ↓fL_law_469n, ↓fL_law_470, ↓fL_law_470n, ↓fL_law_471, ↓fL_law_472, ↓fL_law_473, ↓fL_law_474, ↓fL_law_475, ↓fL_law_478, ↓fL_law_478n, ↓fL_law_479, ↓fL_law_479n, ↓fL_law_480, ↓fL_law_481, ↓fL_law_482, ↓fL_law_483, ↓fL_law_484, ↓e1, ↓e2, ↓ec]
theorem lc_8 (h : ST E r G L X m n σ a kk nn τ cl ln lv ys st fl tb f1 f2 N Sg) (hk1 : k1 ≤ 600000) (hk2 : k2 ≤ 7302250) (hX : kd E X = 15) (hm : kd E m = 16) (hkb : kd E b = 1 ∨ kd E b = 7) (hbX : b < X) (hi : 0 ≤ i ∧ i + 6 ≤ (le E b : Int)) (hlb : (le E b : Int) ≤ 3072) (hC : ∀ j, I32 (G b j)) : LC E r G L X m b i k1 k2 492 [] := by
  obtain ⟨G1, r1, G2, L2, v, hI, fr, e1, e2⟩ := ca_told (v1 := G b (zi (i + 1)).toNatClampNeg) (v2 := G b (zi (i + 2)).toNatClampNeg) (v3 := G b (zi (i + 3)).toNatClampNeg) h (hC _) (hC _) (hC _)
  have hb1 : G1 b = G b := (fr b hbX).1
  have t1 : inr (zi (i + 1)) (le E b) = true := zi_inr (by omega) (by omega)
  have t2 : inr (zi (i + 2)) (le E b) = true := zi_inr (by omega) (by omega)
  have t3 : inr (zi (i + 3)) (le E b) = true := zi_inr (by omega) (by omega)
  rw [← hb1] at e2
  have ec : ∀ ls (h : AH) (Q : AH → Value → Prop), RK ML_law 530 ls [.int (zi v), .int (zi v)] (k1, k2) h Q = RK ML_law 2193 ls [] (k1, k2) h Q := fun ls h Q => by
    have e : zi v = zi (zi v).toInt := (zi_of _).symm
    rw [e, fL_law_530 (zi_rng _) (zi_rng _), if_pos rfl]
  refine ⟨G2, L2, r1, hI, (fr b hbX).2, fun Q => ?_⟩
  simp (disch := first | assumption | exact c2_int _ | exact c2_ref _ | exact c2_jk | exact c2_null | omega | exact bI_r _ | exact bI_01 _) only [↓fL_law_492, ↓fL_law_492n, ↓fL_law_493, ↓fL_law_493n, ↓fL_law_494, ↓fL_law_495, ↓fL_law_496, ↓fL_law_497, ↓fL_law_498, ↓fL_law_498n, ↓fL_law_499, ↓fL_law_500, ↓fL_law_501, ↓fL_law_502, ↓fL_law_503, ↓fL_law_503n, ↓fL_law_504, ↓fL_law_505, ↓fL_law_506, ↓fL_law_507, ↓fL_law_508, ↓fL_law_511, ↓fL_law_511n, ↓fL_law_512, ↓fL_law_512n, ↓fL_law_513, ↓fL_law_514, ↓fL_law_515, ↓fL_law_516, ↓fL_law_517, ↓fL_law_517n, ↓fL_law_518, ↓fL_law_519, ↓fL_law_520, ↓fL_law_521, ↓fL_law_522, ↓fL_law_522n, ↓fL_law_523, ↓fL_law_524, ↓fL_law_525, ↓fL_law_526, ↓fL_law_527, ↓e1, ↓e2, ↓ec]
theorem lc_9 (h : ST E r G L X m n σ a kk nn τ cl ln lv ys st fl tb f1 f2 N Sg) (hk1 : k1 ≤ 600000) (hk2 : k2 ≤ 7302250) (hX : kd E X = 15) (hm : kd E m = 16) (hkb : kd E b = 1 ∨ kd E b = 7) (hbX : b < X) (hi : 0 ≤ i ∧ i + 6 ≤ (le E b : Int)) (hlb : (le E b : Int) ≤ 3072) (hC : ∀ j, I32 (G b j)) : LC E r G L X m b i k1 k2 535 [] := by
  obtain ⟨G1, r1, G2, L2, v, hI, fr, e1, e2⟩ := ca_strike (s := G b (zi (i + 1)).toNatClampNeg) (x := G b (zi (i + 2)).toNatClampNeg) h (hC _) (hC _)
  have hb1 : G1 b = G b := (fr b hbX).1
  have t1 : inr (zi (i + 1)) (le E b) = true := zi_inr (by omega) (by omega)
  have t2 : inr (zi (i + 2)) (le E b) = true := zi_inr (by omega) (by omega)
  rw [← hb1] at e2
  have ec : ∀ ls (h : AH) (Q : AH → Value → Prop), RK ML_law 563 ls [.int (zi v), .int (zi v)] (k1, k2) h Q = RK ML_law 2193 ls [] (k1, k2) h Q := fun ls h Q => by
    have e : zi v = zi (zi v).toInt := (zi_of _).symm
    rw [e, fL_law_563 (zi_rng _) (zi_rng _), if_pos rfl]
  refine ⟨G2, L2, r1, hI, (fr b hbX).2, fun Q => ?_⟩
  simp (disch := first | assumption | exact c2_int _ | exact c2_ref _ | exact c2_jk | exact c2_null | omega | exact bI_r _ | exact bI_01 _) only [↓fL_law_535, ↓fL_law_535n, ↓fL_law_536, ↓fL_law_536n, ↓fL_law_537, ↓fL_law_538, ↓fL_law_539, ↓fL_law_540, ↓fL_law_541, ↓fL_law_541n, ↓fL_law_542, ↓fL_law_543, ↓fL_law_544, ↓fL_law_545, ↓fL_law_546, ↓fL_law_549, ↓fL_law_549n, ↓fL_law_550, ↓fL_law_550n, ↓fL_law_551, ↓fL_law_552, ↓fL_law_553, ↓fL_law_554, ↓fL_law_555, ↓fL_law_555n, ↓fL_law_556, ↓fL_law_557, ↓fL_law_558, ↓fL_law_559, ↓fL_law_560, ↓e1, ↓e2, ↓ec]
theorem lc_10 (h : ST E r G L X m n σ a kk nn τ cl ln lv ys st fl tb f1 f2 N Sg) (hk1 : k1 ≤ 600000) (hk2 : k2 ≤ 7302250) (hX : kd E X = 15) (hm : kd E m = 16) (hkb : kd E b = 1 ∨ kd E b = 7) (hbX : b < X) (hi : 0 ≤ i ∧ i + 6 ≤ (le E b : Int)) (hlb : (le E b : Int) ≤ 3072) (hC : ∀ j, I32 (G b j)) : LC E r G L X m b i k1 k2 568 [] := by
  obtain ⟨G1, r1, G2, L2, v, hI, fr, e1, e2⟩ := ca_longer (s := G b (zi (i + 1)).toNatClampNeg) (y := G b (zi (i + 2)).toNatClampNeg) h (hC _) (hC _)
  have hb1 : G1 b = G b := (fr b hbX).1
  have t1 : inr (zi (i + 1)) (le E b) = true := zi_inr (by omega) (by omega)
  have t2 : inr (zi (i + 2)) (le E b) = true := zi_inr (by omega) (by omega)
  rw [← hb1] at e2
  have ec : ∀ ls (h : AH) (Q : AH → Value → Prop), RK ML_law 596 ls [.int (zi v), .int (zi v)] (k1, k2) h Q = RK ML_law 2193 ls [] (k1, k2) h Q := fun ls h Q => by
    have e : zi v = zi (zi v).toInt := (zi_of _).symm
    rw [e, fL_law_596 (zi_rng _) (zi_rng _), if_pos rfl]
  refine ⟨G2, L2, r1, hI, (fr b hbX).2, fun Q => ?_⟩
  simp (disch := first | assumption | exact c2_int _ | exact c2_ref _ | exact c2_jk | exact c2_null | omega | exact bI_r _ | exact bI_01 _) only [↓fL_law_568, ↓fL_law_568n, ↓fL_law_569, ↓fL_law_569n, ↓fL_law_570, ↓fL_law_571, ↓fL_law_572, ↓fL_law_573, ↓fL_law_574, ↓fL_law_574n, ↓fL_law_575, ↓fL_law_576, ↓fL_law_577, ↓fL_law_578, ↓fL_law_579, ↓fL_law_582, ↓fL_law_582n, ↓fL_law_583, ↓fL_law_583n, ↓fL_law_584, ↓fL_law_585, ↓fL_law_586, ↓fL_law_587, ↓fL_law_588, ↓fL_law_588n, ↓fL_law_589, ↓fL_law_590, ↓fL_law_591, ↓fL_law_592, ↓fL_law_593, ↓e1, ↓e2, ↓ec]
theorem lc_11 (h : ST E r G L X m n σ a kk nn τ cl ln lv ys st fl tb f1 f2 N Sg) (hk1 : k1 ≤ 600000) (hk2 : k2 ≤ 7302250) (hX : kd E X = 15) (hm : kd E m = 16) (hkb : kd E b = 1 ∨ kd E b = 7) (hbX : b < X) (hi : 0 ≤ i ∧ i + 6 ≤ (le E b : Int)) (hlb : (le E b : Int) ≤ 3072) (hC : ∀ j, I32 (G b j)) : LC E r G L X m b i k1 k2 601 [] := by
  obtain ⟨G1, r1, G2, L2, v, hI, fr, e1, e2⟩ := ca_make (ki := G b (zi (i + 1)).toNatClampNeg) (fr := G b (zi (i + 2)).toNatClampNeg) (by_ := G b (zi (i + 3)).toNatClampNeg) (ma := G b (zi (i + 4)).toNatClampNeg) h (hC _) (hC _) (hC _) (hC _)
  have hb1 : G1 b = G b := (fr b hbX).1
  have t1 : inr (zi (i + 1)) (le E b) = true := zi_inr (by omega) (by omega)
  have t2 : inr (zi (i + 2)) (le E b) = true := zi_inr (by omega) (by omega)
  have t3 : inr (zi (i + 3)) (le E b) = true := zi_inr (by omega) (by omega)
  have t4 : inr (zi (i + 4)) (le E b) = true := zi_inr (by omega) (by omega)
  rw [← hb1] at e2
  have ec : ∀ ls (h : AH) (Q : AH → Value → Prop), RK ML_law 649 ls [.int (zi v), .int (zi v)] (k1, k2) h Q = RK ML_law 2193 ls [] (k1, k2) h Q := fun ls h Q => by
    have e : zi v = zi (zi v).toInt := (zi_of _).symm
    rw [e, fL_law_649 (zi_rng _) (zi_rng _), if_pos rfl]
  refine ⟨G2, L2, r1, hI, (fr b hbX).2, fun Q => ?_⟩
  simp (disch := first | assumption | exact c2_int _ | exact c2_ref _ | exact c2_jk | exact c2_null | omega | exact bI_r _ | exact bI_01 _) only [↓fL_law_601, ↓fL_law_601n, ↓fL_law_602, ↓fL_law_602n, ↓fL_law_603, ↓fL_law_604, ↓fL_law_605, ↓fL_law_606, ↓fL_law_607, ↓fL_law_607n, ↓fL_law_608, ↓fL_law_609, ↓fL_law_610, ↓fL_law_611, ↓fL_law_612, ↓fL_law_612n, ↓fL_law_613, ↓fL_law_614, ↓fL_law_615, ↓fL_law_616, ↓fL_law_617, ↓fL_law_617n, ↓fL_law_618, ↓fL_law_619, ↓fL_law_620, ↓fL_law_621, ↓fL_law_622, ↓fL_law_625, ↓fL_law_625n, ↓fL_law_626, ↓fL_law_626n, ↓fL_law_627, ↓fL_law_628, ↓fL_law_629, ↓fL_law_630, ↓fL_law_631, ↓fL_law_631n, ↓fL_law_632, ↓fL_law_633, ↓fL_law_634, ↓fL_law_635, ↓fL_law_636, ↓fL_law_636n, ↓fL_law_637, ↓fL_law_638, ↓fL_law_639, ↓fL_law_640, ↓fL_law_641, ↓fL_law_641n, ↓fL_law_642, ↓fL_law_643, ↓fL_law_644, ↓fL_law_645, ↓fL_law_646, ↓e1, ↓e2, ↓ec]
theorem lc_12 (h : ST E r G L X m n σ a kk nn τ cl ln lv ys st fl tb f1 f2 N Sg) (hk1 : k1 ≤ 600000) (hk2 : k2 ≤ 7302250) (hX : kd E X = 15) (hm : kd E m = 16) (hkb : kd E b = 1 ∨ kd E b = 7) (hbX : b < X) (hi : 0 ≤ i ∧ i + 6 ≤ (le E b : Int)) (hlb : (le E b : Int) ≤ 3072) (hC : ∀ j, I32 (G b j)) : LC E r G L X m b i k1 k2 654 [] := by
  obtain ⟨G1, r1, G2, L2, v, hI, fr, e1, e2⟩ := ca_drop (s := G b (zi (i + 1)).toNatClampNeg) h (hC _)
  have hb1 : G1 b = G b := (fr b hbX).1
  have t1 : inr (zi (i + 1)) (le E b) = true := zi_inr (by omega) (by omega)
  rw [← hb1] at e2
  have ec : ∀ ls (h : AH) (Q : AH → Value → Prop), RK ML_law 672 ls [.int (zi v), .int (zi v)] (k1, k2) h Q = RK ML_law 2193 ls [] (k1, k2) h Q := fun ls h Q => by
    have e : zi v = zi (zi v).toInt := (zi_of _).symm
    rw [e, fL_law_672 (zi_rng _) (zi_rng _), if_pos rfl]
  refine ⟨G2, L2, r1, hI, (fr b hbX).2, fun Q => ?_⟩
  simp (disch := first | assumption | exact c2_int _ | exact c2_ref _ | exact c2_jk | exact c2_null | omega | exact bI_r _ | exact bI_01 _) only [↓fL_law_654, ↓fL_law_654n, ↓fL_law_655, ↓fL_law_655n, ↓fL_law_656, ↓fL_law_657, ↓fL_law_658, ↓fL_law_659, ↓fL_law_660, ↓fL_law_663, ↓fL_law_663n, ↓fL_law_664, ↓fL_law_664n, ↓fL_law_665, ↓fL_law_666, ↓fL_law_667, ↓fL_law_668, ↓fL_law_669, ↓e1, ↓e2, ↓ec]
theorem lc_13 (h : ST E r G L X m n σ a kk nn τ cl ln lv ys st fl tb f1 f2 N Sg) (hk1 : k1 ≤ 600000) (hk2 : k2 ≤ 7302250) (hX : kd E X = 15) (hm : kd E m = 16) (hkb : kd E b = 1 ∨ kd E b = 7) (hbX : b < X) (hi : 0 ≤ i ∧ i + 6 ≤ (le E b : Int)) (hlb : (le E b : Int) ≤ 3072) (hC : ∀ j, I32 (G b j)) : LC E r G L X m b i k1 k2 677 [] := by
  obtain ⟨G1, r1, G2, L2, v, hI, fr, e1, e2⟩ := ca_undo  h 
  have hb1 : G1 b = G b := (fr b hbX).1
  have ec : ∀ ls (h : AH) (Q : AH → Value → Prop), RK ML_law 685 ls [.int (zi v), .int (zi v)] (k1, k2) h Q = RK ML_law 2193 ls [] (k1, k2) h Q := fun ls h Q => by
    have e : zi v = zi (zi v).toInt := (zi_of _).symm
    rw [e, fL_law_685 (zi_rng _) (zi_rng _), if_pos rfl]
  refine ⟨G2, L2, r1, hI, (fr b hbX).2, fun Q => ?_⟩
  simp (disch := first | assumption | exact c2_int _ | exact c2_ref _ | exact c2_jk | exact c2_null | omega | exact bI_r _ | exact bI_01 _) only [↓fL_law_677, ↓fL_law_677n, ↓fL_law_678, ↓fL_law_681, ↓fL_law_681n, ↓fL_law_682, ↓e1, ↓e2, ↓ec]
theorem lc_14 (h : ST E r G L X m n σ a kk nn τ cl ln lv ys st fl tb f1 f2 N Sg) (hk1 : k1 ≤ 600000) (hk2 : k2 ≤ 7302250) (hX : kd E X = 15) (hm : kd E m = 16) (hkb : kd E b = 1 ∨ kd E b = 7) (hbX : b < X) (hi : 0 ≤ i ∧ i + 6 ≤ (le E b : Int)) (hlb : (le E b : Int) ≤ 3072) (hC : ∀ j, I32 (G b j)) : LC E r G L X m b i k1 k2 690 [] := by
  obtain ⟨G1, r1, G2, L2, v, hI, fr, e1, e2⟩ := ca_number (v1 := G b (zi (i + 1)).toNatClampNeg) (v2 := G b (zi (i + 2)).toNatClampNeg) h (hC _) (hC _)
  have hb1 : G1 b = G b := (fr b hbX).1
  have t1 : inr (zi (i + 1)) (le E b) = true := zi_inr (by omega) (by omega)
  have t2 : inr (zi (i + 2)) (le E b) = true := zi_inr (by omega) (by omega)
  rw [← hb1] at e2
  have ec : ∀ ls (h : AH) (Q : AH → Value → Prop), RK ML_law 718 ls [.int (zi v), .int (zi v)] (k1, k2) h Q = RK ML_law 2193 ls [] (k1, k2) h Q := fun ls h Q => by
    have e : zi v = zi (zi v).toInt := (zi_of _).symm
    rw [e, fL_law_718 (zi_rng _) (zi_rng _), if_pos rfl]
  refine ⟨G2, L2, r1, hI, (fr b hbX).2, fun Q => ?_⟩
  simp (disch := first | assumption | exact c2_int _ | exact c2_ref _ | exact c2_jk | exact c2_null | omega | exact bI_r _ | exact bI_01 _) only [↓fL_law_690, ↓fL_law_690n, ↓fL_law_691, ↓fL_law_691n, ↓fL_law_692, ↓fL_law_693, ↓fL_law_694, ↓fL_law_695, ↓fL_law_696, ↓fL_law_696n, ↓fL_law_697, ↓fL_law_698, ↓fL_law_699, ↓fL_law_700, ↓fL_law_701, ↓fL_law_704, ↓fL_law_704n, ↓fL_law_705, ↓fL_law_705n, ↓fL_law_706, ↓fL_law_707, ↓fL_law_708, ↓fL_law_709, ↓fL_law_710, ↓fL_law_710n, ↓fL_law_711, ↓fL_law_712, ↓fL_law_713, ↓fL_law_714, ↓fL_law_715, ↓e1, ↓e2, ↓ec]
theorem lc_15 (h : ST E r G L X m n σ a kk nn τ cl ln lv ys st fl tb f1 f2 N Sg) (hk1 : k1 ≤ 600000) (hk2 : k2 ≤ 7302250) (hX : kd E X = 15) (hm : kd E m = 16) (hkb : kd E b = 1 ∨ kd E b = 7) (hbX : b < X) (hi : 0 ≤ i ∧ i + 6 ≤ (le E b : Int)) (hlb : (le E b : Int) ≤ 3072) (hC : ∀ j, I32 (G b j)) : LC E r G L X m b i k1 k2 723 [] := by
  obtain ⟨G1, r1, G2, L2, v, hI, fr, e1, e2⟩ := ca_rank (v1 := G b (zi (i + 1)).toNatClampNeg) (v2 := G b (zi (i + 2)).toNatClampNeg) h (hC _) (hC _)
  have hb1 : G1 b = G b := (fr b hbX).1
  have t1 : inr (zi (i + 1)) (le E b) = true := zi_inr (by omega) (by omega)
  have t2 : inr (zi (i + 2)) (le E b) = true := zi_inr (by omega) (by omega)
  rw [← hb1] at e2
  have ec : ∀ ls (h : AH) (Q : AH → Value → Prop), RK ML_law 751 ls [.int (zi v), .int (zi v)] (k1, k2) h Q = RK ML_law 2193 ls [] (k1, k2) h Q := fun ls h Q => by
    have e : zi v = zi (zi v).toInt := (zi_of _).symm
    rw [e, fL_law_751 (zi_rng _) (zi_rng _), if_pos rfl]
  refine ⟨G2, L2, r1, hI, (fr b hbX).2, fun Q => ?_⟩
  simp (disch := first | assumption | exact c2_int _ | exact c2_ref _ | exact c2_jk | exact c2_null | omega | exact bI_r _ | exact bI_01 _) only [↓fL_law_723, ↓fL_law_723n, ↓fL_law_724, ↓fL_law_724n, ↓fL_law_725, ↓fL_law_726, ↓fL_law_727, ↓fL_law_728, ↓fL_law_729, ↓fL_law_729n, ↓fL_law_730, ↓fL_law_731, ↓fL_law_732, ↓fL_law_733, ↓fL_law_734, ↓fL_law_737, ↓fL_law_737n, ↓fL_law_738, ↓fL_law_738n, ↓fL_law_739, ↓fL_law_740, ↓fL_law_741, ↓fL_law_742, ↓fL_law_743, ↓fL_law_743n, ↓fL_law_744, ↓fL_law_745, ↓fL_law_746, ↓fL_law_747, ↓fL_law_748, ↓e1, ↓e2, ↓ec]
theorem lc_16 (h : ST E r G L X m n σ a kk nn τ cl ln lv ys st fl tb f1 f2 N Sg) (hk1 : k1 ≤ 600000) (hk2 : k2 ≤ 7302250) (hX : kd E X = 15) (hm : kd E m = 16) (hkb : kd E b = 1 ∨ kd E b = 7) (hbX : b < X) (hi : 0 ≤ i ∧ i + 6 ≤ (le E b : Int)) (hlb : (le E b : Int) ≤ 3072) (hC : ∀ j, I32 (G b j)) : LC E r G L X m b i k1 k2 756 [] := by
  obtain ⟨G1, r1, G2, L2, v, hI, fr, e1, e2⟩ := ca_fate (v1 := G b (zi (i + 1)).toNatClampNeg) (v2 := G b (zi (i + 2)).toNatClampNeg) (v3 := G b (zi (i + 3)).toNatClampNeg) h (hC _) (hC _) (hC _)
  have hb1 : G1 b = G b := (fr b hbX).1
  have t1 : inr (zi (i + 1)) (le E b) = true := zi_inr (by omega) (by omega)
  have t2 : inr (zi (i + 2)) (le E b) = true := zi_inr (by omega) (by omega)
  have t3 : inr (zi (i + 3)) (le E b) = true := zi_inr (by omega) (by omega)
  rw [← hb1] at e2
  have ec : ∀ ls (h : AH) (Q : AH → Value → Prop), RK ML_law 794 ls [.int (zi v), .int (zi v)] (k1, k2) h Q = RK ML_law 2193 ls [] (k1, k2) h Q := fun ls h Q => by
    have e : zi v = zi (zi v).toInt := (zi_of _).symm
    rw [e, fL_law_794 (zi_rng _) (zi_rng _), if_pos rfl]
  refine ⟨G2, L2, r1, hI, (fr b hbX).2, fun Q => ?_⟩
  simp (disch := first | assumption | exact c2_int _ | exact c2_ref _ | exact c2_jk | exact c2_null | omega | exact bI_r _ | exact bI_01 _) only [↓fL_law_756, ↓fL_law_756n, ↓fL_law_757, ↓fL_law_757n, ↓fL_law_758, ↓fL_law_759, ↓fL_law_760, ↓fL_law_761, ↓fL_law_762, ↓fL_law_762n, ↓fL_law_763, ↓fL_law_764, ↓fL_law_765, ↓fL_law_766, ↓fL_law_767, ↓fL_law_767n, ↓fL_law_768, ↓fL_law_769, ↓fL_law_770, ↓fL_law_771, ↓fL_law_772, ↓fL_law_775, ↓fL_law_775n, ↓fL_law_776, ↓fL_law_776n, ↓fL_law_777, ↓fL_law_778, ↓fL_law_779, ↓fL_law_780, ↓fL_law_781, ↓fL_law_781n, ↓fL_law_782, ↓fL_law_783, ↓fL_law_784, ↓fL_law_785, ↓fL_law_786, ↓fL_law_786n, ↓fL_law_787, ↓fL_law_788, ↓fL_law_789, ↓fL_law_790, ↓fL_law_791, ↓e1, ↓e2, ↓ec]
theorem lc_17 (h : ST E r G L X m n σ a kk nn τ cl ln lv ys st fl tb f1 f2 N Sg) (hk1 : k1 ≤ 600000) (hk2 : k2 ≤ 7302250) (hX : kd E X = 15) (hm : kd E m = 16) (hkb : kd E b = 1 ∨ kd E b = 7) (hbX : b < X) (hi : 0 ≤ i ∧ i + 6 ≤ (le E b : Int)) (hlb : (le E b : Int) ≤ 3072) (hC : ∀ j, I32 (G b j)) : LC E r G L X m b i k1 k2 799 [] := by
  obtain ⟨G1, r1, G2, L2, v, hI, fr, e1, e2⟩ := ca_back (v1 := G b (zi (i + 1)).toNatClampNeg) (v2 := G b (zi (i + 2)).toNatClampNeg) (v3 := G b (zi (i + 3)).toNatClampNeg) h (hC _) (hC _) (hC _)
  have hb1 : G1 b = G b := (fr b hbX).1
  have t1 : inr (zi (i + 1)) (le E b) = true := zi_inr (by omega) (by omega)
  have t2 : inr (zi (i + 2)) (le E b) = true := zi_inr (by omega) (by omega)
  have t3 : inr (zi (i + 3)) (le E b) = true := zi_inr (by omega) (by omega)
  rw [← hb1] at e2
  have ec : ∀ ls (h : AH) (Q : AH → Value → Prop), RK ML_law 837 ls [.int (zi v), .int (zi v)] (k1, k2) h Q = RK ML_law 2193 ls [] (k1, k2) h Q := fun ls h Q => by
    have e : zi v = zi (zi v).toInt := (zi_of _).symm
    rw [e, fL_law_837 (zi_rng _) (zi_rng _), if_pos rfl]
  refine ⟨G2, L2, r1, hI, (fr b hbX).2, fun Q => ?_⟩
  simp (disch := first | assumption | exact c2_int _ | exact c2_ref _ | exact c2_jk | exact c2_null | omega | exact bI_r _ | exact bI_01 _) only [↓fL_law_799, ↓fL_law_799n, ↓fL_law_800, ↓fL_law_800n, ↓fL_law_801, ↓fL_law_802, ↓fL_law_803, ↓fL_law_804, ↓fL_law_805, ↓fL_law_805n, ↓fL_law_806, ↓fL_law_807, ↓fL_law_808, ↓fL_law_809, ↓fL_law_810, ↓fL_law_810n, ↓fL_law_811, ↓fL_law_812, ↓fL_law_813, ↓fL_law_814, ↓fL_law_815, ↓fL_law_818, ↓fL_law_818n, ↓fL_law_819, ↓fL_law_819n, ↓fL_law_820, ↓fL_law_821, ↓fL_law_822, ↓fL_law_823, ↓fL_law_824, ↓fL_law_824n, ↓fL_law_825, ↓fL_law_826, ↓fL_law_827, ↓fL_law_828, ↓fL_law_829, ↓fL_law_829n, ↓fL_law_830, ↓fL_law_831, ↓fL_law_832, ↓fL_law_833, ↓fL_law_834, ↓e1, ↓e2, ↓ec]
theorem lc_18 (h : ST E r G L X m n σ a kk nn τ cl ln lv ys st fl tb f1 f2 N Sg) (hk1 : k1 ≤ 600000) (hk2 : k2 ≤ 7302250) (hX : kd E X = 15) (hm : kd E m = 16) (hkb : kd E b = 1 ∨ kd E b = 7) (hbX : b < X) (hi : 0 ≤ i ∧ i + 6 ≤ (le E b : Int)) (hlb : (le E b : Int) ≤ 3072) (hC : ∀ j, I32 (G b j)) : LC E r G L X m b i k1 k2 842 [] := by
  obtain ⟨G1, r1, G2, L2, v, hI, fr, e1, e2⟩ := ca_ahead (v1 := G b (zi (i + 1)).toNatClampNeg) (v2 := G b (zi (i + 2)).toNatClampNeg) (v3 := G b (zi (i + 3)).toNatClampNeg) h (hC _) (hC _) (hC _)
  have hb1 : G1 b = G b := (fr b hbX).1
  have t1 : inr (zi (i + 1)) (le E b) = true := zi_inr (by omega) (by omega)
  have t2 : inr (zi (i + 2)) (le E b) = true := zi_inr (by omega) (by omega)
  have t3 : inr (zi (i + 3)) (le E b) = true := zi_inr (by omega) (by omega)
  rw [← hb1] at e2
  have ec : ∀ ls (h : AH) (Q : AH → Value → Prop), RK ML_law 880 ls [.int (zi v), .int (zi v)] (k1, k2) h Q = RK ML_law 2193 ls [] (k1, k2) h Q := fun ls h Q => by
    have e : zi v = zi (zi v).toInt := (zi_of _).symm
    rw [e, fL_law_880 (zi_rng _) (zi_rng _), if_pos rfl]
  refine ⟨G2, L2, r1, hI, (fr b hbX).2, fun Q => ?_⟩
  simp (disch := first | assumption | exact c2_int _ | exact c2_ref _ | exact c2_jk | exact c2_null | omega | exact bI_r _ | exact bI_01 _) only [↓fL_law_842, ↓fL_law_842n, ↓fL_law_843, ↓fL_law_843n, ↓fL_law_844, ↓fL_law_845, ↓fL_law_846, ↓fL_law_847, ↓fL_law_848, ↓fL_law_848n, ↓fL_law_849, ↓fL_law_850, ↓fL_law_851, ↓fL_law_852, ↓fL_law_853, ↓fL_law_853n, ↓fL_law_854, ↓fL_law_855, ↓fL_law_856, ↓fL_law_857, ↓fL_law_858, ↓fL_law_861, ↓fL_law_861n, ↓fL_law_862, ↓fL_law_862n, ↓fL_law_863, ↓fL_law_864, ↓fL_law_865, ↓fL_law_866, ↓fL_law_867, ↓fL_law_867n, ↓fL_law_868, ↓fL_law_869, ↓fL_law_870, ↓fL_law_871, ↓fL_law_872, ↓fL_law_872n, ↓fL_law_873, ↓fL_law_874, ↓fL_law_875, ↓fL_law_876, ↓fL_law_877, ↓e1, ↓e2, ↓ec]
theorem lc_19 (h : ST E r G L X m n σ a kk nn τ cl ln lv ys st fl tb f1 f2 N Sg) (hk1 : k1 ≤ 600000) (hk2 : k2 ≤ 7302250) (hX : kd E X = 15) (hm : kd E m = 16) (hkb : kd E b = 1 ∨ kd E b = 7) (hbX : b < X) (hi : 0 ≤ i ∧ i + 6 ≤ (le E b : Int)) (hlb : (le E b : Int) ≤ 3072) (hC : ∀ j, I32 (G b j)) : LC E r G L X m b i k1 k2 885 [] := by
  obtain ⟨G1, r1, G2, L2, v, hI, fr, e1, e2⟩ := ca_would (v1 := G b (zi (i + 1)).toNatClampNeg) (v2 := G b (zi (i + 2)).toNatClampNeg) h (hC _) (hC _)
  have hb1 : G1 b = G b := (fr b hbX).1
  have t1 : inr (zi (i + 1)) (le E b) = true := zi_inr (by omega) (by omega)
  have t2 : inr (zi (i + 2)) (le E b) = true := zi_inr (by omega) (by omega)
  rw [← hb1] at e2
  have ec : ∀ ls (h : AH) (Q : AH → Value → Prop), RK ML_law 913 ls [.int (zi v), .int (zi v)] (k1, k2) h Q = RK ML_law 2193 ls [] (k1, k2) h Q := fun ls h Q => by
    have e : zi v = zi (zi v).toInt := (zi_of _).symm
    rw [e, fL_law_913 (zi_rng _) (zi_rng _), if_pos rfl]
  refine ⟨G2, L2, r1, hI, (fr b hbX).2, fun Q => ?_⟩
  simp (disch := first | assumption | exact c2_int _ | exact c2_ref _ | exact c2_jk | exact c2_null | omega | exact bI_r _ | exact bI_01 _) only [↓fL_law_885, ↓fL_law_885n, ↓fL_law_886, ↓fL_law_886n, ↓fL_law_887, ↓fL_law_888, ↓fL_law_889, ↓fL_law_890, ↓fL_law_891, ↓fL_law_891n, ↓fL_law_892, ↓fL_law_893, ↓fL_law_894, ↓fL_law_895, ↓fL_law_896, ↓fL_law_899, ↓fL_law_899n, ↓fL_law_900, ↓fL_law_900n, ↓fL_law_901, ↓fL_law_902, ↓fL_law_903, ↓fL_law_904, ↓fL_law_905, ↓fL_law_905n, ↓fL_law_906, ↓fL_law_907, ↓fL_law_908, ↓fL_law_909, ↓fL_law_910, ↓e1, ↓e2, ↓ec]
theorem lc_20 (h : ST E r G L X m n σ a kk nn τ cl ln lv ys st fl tb f1 f2 N Sg) (hk1 : k1 ≤ 600000) (hk2 : k2 ≤ 7302250) (hX : kd E X = 15) (hm : kd E m = 16) (hkb : kd E b = 1 ∨ kd E b = 7) (hbX : b < X) (hi : 0 ≤ i ∧ i + 6 ≤ (le E b : Int)) (hlb : (le E b : Int) ≤ 3072) (hC : ∀ j, I32 (G b j)) : LC E r G L X m b i k1 k2 918 [] := by
  obtain ⟨G1, r1, G2, L2, v, hI, fr, e1, e2⟩ := ca_till (v1 := G b (zi (i + 1)).toNatClampNeg) (v2 := G b (zi (i + 2)).toNatClampNeg) h (hC _) (hC _)
  have hb1 : G1 b = G b := (fr b hbX).1
  have t1 : inr (zi (i + 1)) (le E b) = true := zi_inr (by omega) (by omega)
  have t2 : inr (zi (i + 2)) (le E b) = true := zi_inr (by omega) (by omega)
  rw [← hb1] at e2
  have ec : ∀ ls (h : AH) (Q : AH → Value → Prop), RK ML_law 946 ls [.int (zi v), .int (zi v)] (k1, k2) h Q = RK ML_law 2193 ls [] (k1, k2) h Q := fun ls h Q => by
    have e : zi v = zi (zi v).toInt := (zi_of _).symm
    rw [e, fL_law_946 (zi_rng _) (zi_rng _), if_pos rfl]
  refine ⟨G2, L2, r1, hI, (fr b hbX).2, fun Q => ?_⟩
  simp (disch := first | assumption | exact c2_int _ | exact c2_ref _ | exact c2_jk | exact c2_null | omega | exact bI_r _ | exact bI_01 _) only [↓fL_law_918, ↓fL_law_918n, ↓fL_law_919, ↓fL_law_919n, ↓fL_law_920, ↓fL_law_921, ↓fL_law_922, ↓fL_law_923, ↓fL_law_924, ↓fL_law_924n, ↓fL_law_925, ↓fL_law_926, ↓fL_law_927, ↓fL_law_928, ↓fL_law_929, ↓fL_law_932, ↓fL_law_932n, ↓fL_law_933, ↓fL_law_933n, ↓fL_law_934, ↓fL_law_935, ↓fL_law_936, ↓fL_law_937, ↓fL_law_938, ↓fL_law_938n, ↓fL_law_939, ↓fL_law_940, ↓fL_law_941, ↓fL_law_942, ↓fL_law_943, ↓e1, ↓e2, ↓ec]
theorem lc_21 (h : ST E r G L X m n σ a kk nn τ cl ln lv ys st fl tb f1 f2 N Sg) (hk1 : k1 ≤ 600000) (hk2 : k2 ≤ 7302250) (hX : kd E X = 15) (hm : kd E m = 16) (hkb : kd E b = 1 ∨ kd E b = 7) (hbX : b < X) (hi : 0 ≤ i ∧ i + 6 ≤ (le E b : Int)) (hlb : (le E b : Int) ≤ 3072) (hC : ∀ j, I32 (G b j)) : LC E r G L X m b i k1 k2 951 [] := by
  obtain ⟨G1, r1, G2, L2, v, hI, fr, e1, e2⟩ := ca_origin (v1 := G b (zi (i + 1)).toNatClampNeg) (v2 := G b (zi (i + 2)).toNatClampNeg) h (hC _) (hC _)
  have hb1 : G1 b = G b := (fr b hbX).1
  have t1 : inr (zi (i + 1)) (le E b) = true := zi_inr (by omega) (by omega)
  have t2 : inr (zi (i + 2)) (le E b) = true := zi_inr (by omega) (by omega)
  rw [← hb1] at e2
  have ec : ∀ ls (h : AH) (Q : AH → Value → Prop), RK ML_law 979 ls [.int (zi v), .int (zi v)] (k1, k2) h Q = RK ML_law 2193 ls [] (k1, k2) h Q := fun ls h Q => by
    have e : zi v = zi (zi v).toInt := (zi_of _).symm
    rw [e, fL_law_979 (zi_rng _) (zi_rng _), if_pos rfl]
  refine ⟨G2, L2, r1, hI, (fr b hbX).2, fun Q => ?_⟩
  simp (disch := first | assumption | exact c2_int _ | exact c2_ref _ | exact c2_jk | exact c2_null | omega | exact bI_r _ | exact bI_01 _) only [↓fL_law_951, ↓fL_law_951n, ↓fL_law_952, ↓fL_law_952n, ↓fL_law_953, ↓fL_law_954, ↓fL_law_955, ↓fL_law_956, ↓fL_law_957, ↓fL_law_957n, ↓fL_law_958, ↓fL_law_959, ↓fL_law_960, ↓fL_law_961, ↓fL_law_962, ↓fL_law_965, ↓fL_law_965n, ↓fL_law_966, ↓fL_law_966n, ↓fL_law_967, ↓fL_law_968, ↓fL_law_969, ↓fL_law_970, ↓fL_law_971, ↓fL_law_971n, ↓fL_law_972, ↓fL_law_973, ↓fL_law_974, ↓fL_law_975, ↓fL_law_976, ↓e1, ↓e2, ↓ec]
theorem lc_22 (h : ST E r G L X m n σ a kk nn τ cl ln lv ys st fl tb f1 f2 N Sg) (hk1 : k1 ≤ 600000) (hk2 : k2 ≤ 7302250) (hX : kd E X = 15) (hm : kd E m = 16) (hkb : kd E b = 1 ∨ kd E b = 7) (hbX : b < X) (hi : 0 ≤ i ∧ i + 6 ≤ (le E b : Int)) (hlb : (le E b : Int) ≤ 3072) (hC : ∀ j, I32 (G b j)) : LC E r G L X m b i k1 k2 984 [] := by
  obtain ⟨G1, r1, G2, L2, v, hI, fr, e1, e2⟩ := ca_gone (v1 := G b (zi (i + 1)).toNatClampNeg) (v2 := G b (zi (i + 2)).toNatClampNeg) h (hC _) (hC _)
  have hb1 : G1 b = G b := (fr b hbX).1
  have t1 : inr (zi (i + 1)) (le E b) = true := zi_inr (by omega) (by omega)
  have t2 : inr (zi (i + 2)) (le E b) = true := zi_inr (by omega) (by omega)
  rw [← hb1] at e2
  have ec : ∀ ls (h : AH) (Q : AH → Value → Prop), RK ML_law 1012 ls [.int (zi v), .int (zi v)] (k1, k2) h Q = RK ML_law 2193 ls [] (k1, k2) h Q := fun ls h Q => by
    have e : zi v = zi (zi v).toInt := (zi_of _).symm
    rw [e, fL_law_1012 (zi_rng _) (zi_rng _), if_pos rfl]
  refine ⟨G2, L2, r1, hI, (fr b hbX).2, fun Q => ?_⟩
  simp (disch := first | assumption | exact c2_int _ | exact c2_ref _ | exact c2_jk | exact c2_null | omega | exact bI_r _ | exact bI_01 _) only [↓fL_law_984, ↓fL_law_984n, ↓fL_law_985, ↓fL_law_985n, ↓fL_law_986, ↓fL_law_987, ↓fL_law_988, ↓fL_law_989, ↓fL_law_990, ↓fL_law_990n, ↓fL_law_991, ↓fL_law_992, ↓fL_law_993, ↓fL_law_994, ↓fL_law_995, ↓fL_law_998, ↓fL_law_998n, ↓fL_law_999, ↓fL_law_999n, ↓fL_law_1000, ↓fL_law_1001, ↓fL_law_1002, ↓fL_law_1003, ↓fL_law_1004, ↓fL_law_1004n, ↓fL_law_1005, ↓fL_law_1006, ↓fL_law_1007, ↓fL_law_1008, ↓fL_law_1009, ↓e1, ↓e2, ↓ec]
theorem lc_23 (h : ST E r G L X m n σ a kk nn τ cl ln lv ys st fl tb f1 f2 N Sg) (hk1 : k1 ≤ 600000) (hk2 : k2 ≤ 7302250) (hX : kd E X = 15) (hm : kd E m = 16) (hkb : kd E b = 1 ∨ kd E b = 7) (hbX : b < X) (hi : 0 ≤ i ∧ i + 6 ≤ (le E b : Int)) (hlb : (le E b : Int) ≤ 3072) (hC : ∀ j, I32 (G b j)) : LC E r G L X m b i k1 k2 1017 [] := by
  obtain ⟨G1, r1, G2, L2, v, hI, fr, e1, e2⟩ := ca_upTo (v1 := G b (zi (i + 1)).toNatClampNeg) (v2 := G b (zi (i + 2)).toNatClampNeg) h (hC _) (hC _)
  have hb1 : G1 b = G b := (fr b hbX).1
  have t1 : inr (zi (i + 1)) (le E b) = true := zi_inr (by omega) (by omega)
  have t2 : inr (zi (i + 2)) (le E b) = true := zi_inr (by omega) (by omega)
  rw [← hb1] at e2
  have ec : ∀ ls (h : AH) (Q : AH → Value → Prop), RK ML_law 1045 ls [.int (zi v), .int (zi v)] (k1, k2) h Q = RK ML_law 2193 ls [] (k1, k2) h Q := fun ls h Q => by
    have e : zi v = zi (zi v).toInt := (zi_of _).symm
    rw [e, fL_law_1045 (zi_rng _) (zi_rng _), if_pos rfl]
  refine ⟨G2, L2, r1, hI, (fr b hbX).2, fun Q => ?_⟩
  simp (disch := first | assumption | exact c2_int _ | exact c2_ref _ | exact c2_jk | exact c2_null | omega | exact bI_r _ | exact bI_01 _) only [↓fL_law_1017, ↓fL_law_1017n, ↓fL_law_1018, ↓fL_law_1018n, ↓fL_law_1019, ↓fL_law_1020, ↓fL_law_1021, ↓fL_law_1022, ↓fL_law_1023, ↓fL_law_1023n, ↓fL_law_1024, ↓fL_law_1025, ↓fL_law_1026, ↓fL_law_1027, ↓fL_law_1028, ↓fL_law_1031, ↓fL_law_1031n, ↓fL_law_1032, ↓fL_law_1032n, ↓fL_law_1033, ↓fL_law_1034, ↓fL_law_1035, ↓fL_law_1036, ↓fL_law_1037, ↓fL_law_1037n, ↓fL_law_1038, ↓fL_law_1039, ↓fL_law_1040, ↓fL_law_1041, ↓fL_law_1042, ↓e1, ↓e2, ↓ec]
theorem lc_24 (h : ST E r G L X m n σ a kk nn τ cl ln lv ys st fl tb f1 f2 N Sg) (hk1 : k1 ≤ 600000) (hk2 : k2 ≤ 7302250) (hX : kd E X = 15) (hm : kd E m = 16) (hkb : kd E b = 1 ∨ kd E b = 7) (hbX : b < X) (hi : 0 ≤ i ∧ i + 6 ≤ (le E b : Int)) (hlb : (le E b : Int) ≤ 3072) (hC : ∀ j, I32 (G b j)) : LC E r G L X m b i k1 k2 1050 [] := by
  obtain ⟨G1, r1, G2, L2, v, hI, fr, e1, e2⟩ := ca_gap (v1 := G b (zi (i + 1)).toNatClampNeg) (v2 := G b (zi (i + 2)).toNatClampNeg) h (hC _) (hC _)
  have hb1 : G1 b = G b := (fr b hbX).1
  have t1 : inr (zi (i + 1)) (le E b) = true := zi_inr (by omega) (by omega)
  have t2 : inr (zi (i + 2)) (le E b) = true := zi_inr (by omega) (by omega)
  rw [← hb1] at e2
  have ec : ∀ ls (h : AH) (Q : AH → Value → Prop), RK ML_law 1078 ls [.int (zi v), .int (zi v)] (k1, k2) h Q = RK ML_law 2193 ls [] (k1, k2) h Q := fun ls h Q => by
    have e : zi v = zi (zi v).toInt := (zi_of _).symm
    rw [e, fL_law_1078 (zi_rng _) (zi_rng _), if_pos rfl]
  refine ⟨G2, L2, r1, hI, (fr b hbX).2, fun Q => ?_⟩
  simp (disch := first | assumption | exact c2_int _ | exact c2_ref _ | exact c2_jk | exact c2_null | omega | exact bI_r _ | exact bI_01 _) only [↓fL_law_1050, ↓fL_law_1050n, ↓fL_law_1051, ↓fL_law_1051n, ↓fL_law_1052, ↓fL_law_1053, ↓fL_law_1054, ↓fL_law_1055, ↓fL_law_1056, ↓fL_law_1056n, ↓fL_law_1057, ↓fL_law_1058, ↓fL_law_1059, ↓fL_law_1060, ↓fL_law_1061, ↓fL_law_1064, ↓fL_law_1064n, ↓fL_law_1065, ↓fL_law_1065n, ↓fL_law_1066, ↓fL_law_1067, ↓fL_law_1068, ↓fL_law_1069, ↓fL_law_1070, ↓fL_law_1070n, ↓fL_law_1071, ↓fL_law_1072, ↓fL_law_1073, ↓fL_law_1074, ↓fL_law_1075, ↓e1, ↓e2, ↓ec]
theorem lc_25 (h : ST E r G L X m n σ a kk nn τ cl ln lv ys st fl tb f1 f2 N Sg) (hk1 : k1 ≤ 600000) (hk2 : k2 ≤ 7302250) (hX : kd E X = 15) (hm : kd E m = 16) (hkb : kd E b = 1 ∨ kd E b = 7) (hbX : b < X) (hi : 0 ≤ i ∧ i + 6 ≤ (le E b : Int)) (hlb : (le E b : Int) ≤ 3072) (hC : ∀ j, I32 (G b j)) : LC E r G L X m b i k1 k2 1083 [] := by
  obtain ⟨G1, r1, G2, L2, v, hI, fr, e1, e2⟩ := ca_gaps (v1 := G b (zi (i + 1)).toNatClampNeg) (v2 := G b (zi (i + 2)).toNatClampNeg) h (hC _) (hC _)
  have hb1 : G1 b = G b := (fr b hbX).1
  have t1 : inr (zi (i + 1)) (le E b) = true := zi_inr (by omega) (by omega)
  have t2 : inr (zi (i + 2)) (le E b) = true := zi_inr (by omega) (by omega)
  rw [← hb1] at e2
  have ec : ∀ ls (h : AH) (Q : AH → Value → Prop), RK ML_law 1111 ls [.int (zi v), .int (zi v)] (k1, k2) h Q = RK ML_law 2193 ls [] (k1, k2) h Q := fun ls h Q => by
    have e : zi v = zi (zi v).toInt := (zi_of _).symm
    rw [e, fL_law_1111 (zi_rng _) (zi_rng _), if_pos rfl]
  refine ⟨G2, L2, r1, hI, (fr b hbX).2, fun Q => ?_⟩
  simp (disch := first | assumption | exact c2_int _ | exact c2_ref _ | exact c2_jk | exact c2_null | omega | exact bI_r _ | exact bI_01 _) only [↓fL_law_1083, ↓fL_law_1083n, ↓fL_law_1084, ↓fL_law_1084n, ↓fL_law_1085, ↓fL_law_1086, ↓fL_law_1087, ↓fL_law_1088, ↓fL_law_1089, ↓fL_law_1089n, ↓fL_law_1090, ↓fL_law_1091, ↓fL_law_1092, ↓fL_law_1093, ↓fL_law_1094, ↓fL_law_1097, ↓fL_law_1097n, ↓fL_law_1098, ↓fL_law_1098n, ↓fL_law_1099, ↓fL_law_1100, ↓fL_law_1101, ↓fL_law_1102, ↓fL_law_1103, ↓fL_law_1103n, ↓fL_law_1104, ↓fL_law_1105, ↓fL_law_1106, ↓fL_law_1107, ↓fL_law_1108, ↓e1, ↓e2, ↓ec]
theorem lc_26 (h : ST E r G L X m n σ a kk nn τ cl ln lv ys st fl tb f1 f2 N Sg) (hk1 : k1 ≤ 600000) (hk2 : k2 ≤ 7302250) (hX : kd E X = 15) (hm : kd E m = 16) (hkb : kd E b = 1 ∨ kd E b = 7) (hbX : b < X) (hi : 0 ≤ i ∧ i + 6 ≤ (le E b : Int)) (hlb : (le E b : Int) ≤ 3072) (hC : ∀ j, I32 (G b j)) : LC E r G L X m b i k1 k2 1116 [] := by
  obtain ⟨G1, r1, G2, L2, v, hI, fr, e1, e2⟩ := ca_gapsOf (v1 := G b (zi (i + 1)).toNatClampNeg) (v2 := G b (zi (i + 2)).toNatClampNeg) h (hC _) (hC _)
  have hb1 : G1 b = G b := (fr b hbX).1
  have t1 : inr (zi (i + 1)) (le E b) = true := zi_inr (by omega) (by omega)
  have t2 : inr (zi (i + 2)) (le E b) = true := zi_inr (by omega) (by omega)
  rw [← hb1] at e2
  have ec : ∀ ls (h : AH) (Q : AH → Value → Prop), RK ML_law 1144 ls [.int (zi v), .int (zi v)] (k1, k2) h Q = RK ML_law 2193 ls [] (k1, k2) h Q := fun ls h Q => by
    have e : zi v = zi (zi v).toInt := (zi_of _).symm
    rw [e, fL_law_1144 (zi_rng _) (zi_rng _), if_pos rfl]
  refine ⟨G2, L2, r1, hI, (fr b hbX).2, fun Q => ?_⟩
  simp (disch := first | assumption | exact c2_int _ | exact c2_ref _ | exact c2_jk | exact c2_null | omega | exact bI_r _ | exact bI_01 _) only [↓fL_law_1116, ↓fL_law_1116n, ↓fL_law_1117, ↓fL_law_1117n, ↓fL_law_1118, ↓fL_law_1119, ↓fL_law_1120, ↓fL_law_1121, ↓fL_law_1122, ↓fL_law_1122n, ↓fL_law_1123, ↓fL_law_1124, ↓fL_law_1125, ↓fL_law_1126, ↓fL_law_1127, ↓fL_law_1130, ↓fL_law_1130n, ↓fL_law_1131, ↓fL_law_1131n, ↓fL_law_1132, ↓fL_law_1133, ↓fL_law_1134, ↓fL_law_1135, ↓fL_law_1136, ↓fL_law_1136n, ↓fL_law_1137, ↓fL_law_1138, ↓fL_law_1139, ↓fL_law_1140, ↓fL_law_1141, ↓e1, ↓e2, ↓ec]
theorem lc_27 (h : ST E r G L X m n σ a kk nn τ cl ln lv ys st fl tb f1 f2 N Sg) (hk1 : k1 ≤ 600000) (hk2 : k2 ≤ 7302250) (hX : kd E X = 15) (hm : kd E m = 16) (hkb : kd E b = 1 ∨ kd E b = 7) (hbX : b < X) (hi : 0 ≤ i ∧ i + 6 ≤ (le E b : Int)) (hlb : (le E b : Int) ≤ 3072) (hC : ∀ j, I32 (G b j)) : LC E r G L X m b i k1 k2 1149 [] := by
  obtain ⟨G1, r1, G2, L2, v, hI, fr, e1, e2⟩ := ca_record (v1 := G b (zi (i + 1)).toNatClampNeg) (v2 := G b (zi (i + 2)).toNatClampNeg) h (hC _) (hC _)
  have hb1 : G1 b = G b := (fr b hbX).1
  have t1 : inr (zi (i + 1)) (le E b) = true := zi_inr (by omega) (by omega)
  have t2 : inr (zi (i + 2)) (le E b) = true := zi_inr (by omega) (by omega)
  rw [← hb1] at e2
  have ec : ∀ ls (h : AH) (Q : AH → Value → Prop), RK ML_law 1177 ls [.int (zi v), .int (zi v)] (k1, k2) h Q = RK ML_law 2193 ls [] (k1, k2) h Q := fun ls h Q => by
    have e : zi v = zi (zi v).toInt := (zi_of _).symm
    rw [e, fL_law_1177 (zi_rng _) (zi_rng _), if_pos rfl]
  refine ⟨G2, L2, r1, hI, (fr b hbX).2, fun Q => ?_⟩
  simp (disch := first | assumption | exact c2_int _ | exact c2_ref _ | exact c2_jk | exact c2_null | omega | exact bI_r _ | exact bI_01 _) only [↓fL_law_1149, ↓fL_law_1149n, ↓fL_law_1150, ↓fL_law_1150n, ↓fL_law_1151, ↓fL_law_1152, ↓fL_law_1153, ↓fL_law_1154, ↓fL_law_1155, ↓fL_law_1155n, ↓fL_law_1156, ↓fL_law_1157, ↓fL_law_1158, ↓fL_law_1159, ↓fL_law_1160, ↓fL_law_1163, ↓fL_law_1163n, ↓fL_law_1164, ↓fL_law_1164n, ↓fL_law_1165, ↓fL_law_1166, ↓fL_law_1167, ↓fL_law_1168, ↓fL_law_1169, ↓fL_law_1169n, ↓fL_law_1170, ↓fL_law_1171, ↓fL_law_1172, ↓fL_law_1173, ↓fL_law_1174, ↓e1, ↓e2, ↓ec]
theorem lc_28 (h : ST E r G L X m n σ a kk nn τ cl ln lv ys st fl tb f1 f2 N Sg) (hk1 : k1 ≤ 600000) (hk2 : k2 ≤ 7302250) (hX : kd E X = 15) (hm : kd E m = 16) (hkb : kd E b = 1 ∨ kd E b = 7) (hbX : b < X) (hi : 0 ≤ i ∧ i + 6 ≤ (le E b : Int)) (hlb : (le E b : Int) ≤ 3072) (hC : ∀ j, I32 (G b j)) : LC E r G L X m b i k1 k2 1182 [] := by
  obtain ⟨G1, r1, G2, L2, v, hI, fr, e1, e2⟩ := ca_pairs (v1 := G b (zi (i + 1)).toNatClampNeg) (v2 := G b (zi (i + 2)).toNatClampNeg) (v3 := G b (zi (i + 3)).toNatClampNeg) h (hC _) (hC _) (hC _)
  have hb1 : G1 b = G b := (fr b hbX).1
  have t1 : inr (zi (i + 1)) (le E b) = true := zi_inr (by omega) (by omega)
  have t2 : inr (zi (i + 2)) (le E b) = true := zi_inr (by omega) (by omega)
  have t3 : inr (zi (i + 3)) (le E b) = true := zi_inr (by omega) (by omega)
  rw [← hb1] at e2
  have ec : ∀ ls (h : AH) (Q : AH → Value → Prop), RK ML_law 1220 ls [.int (zi v), .int (zi v)] (k1, k2) h Q = RK ML_law 2193 ls [] (k1, k2) h Q := fun ls h Q => by
    have e : zi v = zi (zi v).toInt := (zi_of _).symm
    rw [e, fL_law_1220 (zi_rng _) (zi_rng _), if_pos rfl]
  refine ⟨G2, L2, r1, hI, (fr b hbX).2, fun Q => ?_⟩
  simp (disch := first | assumption | exact c2_int _ | exact c2_ref _ | exact c2_jk | exact c2_null | omega | exact bI_r _ | exact bI_01 _) only [↓fL_law_1182, ↓fL_law_1182n, ↓fL_law_1183, ↓fL_law_1183n, ↓fL_law_1184, ↓fL_law_1185, ↓fL_law_1186, ↓fL_law_1187, ↓fL_law_1188, ↓fL_law_1188n, ↓fL_law_1189, ↓fL_law_1190, ↓fL_law_1191, ↓fL_law_1192, ↓fL_law_1193, ↓fL_law_1193n, ↓fL_law_1194, ↓fL_law_1195, ↓fL_law_1196, ↓fL_law_1197, ↓fL_law_1198, ↓fL_law_1201, ↓fL_law_1201n, ↓fL_law_1202, ↓fL_law_1202n, ↓fL_law_1203, ↓fL_law_1204, ↓fL_law_1205, ↓fL_law_1206, ↓fL_law_1207, ↓fL_law_1207n, ↓fL_law_1208, ↓fL_law_1209, ↓fL_law_1210, ↓fL_law_1211, ↓fL_law_1212, ↓fL_law_1212n, ↓fL_law_1213, ↓fL_law_1214, ↓fL_law_1215, ↓fL_law_1216, ↓fL_law_1217, ↓e1, ↓e2, ↓ec]
theorem lc_29 (h : ST E r G L X m n σ a kk nn τ cl ln lv ys st fl tb f1 f2 N Sg) (hk1 : k1 ≤ 600000) (hk2 : k2 ≤ 7302250) (hX : kd E X = 15) (hm : kd E m = 16) (hkb : kd E b = 1 ∨ kd E b = 7) (hbX : b < X) (hi : 0 ≤ i ∧ i + 6 ≤ (le E b : Int)) (hlb : (le E b : Int) ≤ 3072) (hC : ∀ j, I32 (G b j)) : LC E r G L X m b i k1 k2 1225 [] := by
  obtain ⟨G1, r1, G2, L2, v, hI, fr, e1, e2⟩ := ca_triples (v1 := G b (zi (i + 1)).toNatClampNeg) (v2 := G b (zi (i + 2)).toNatClampNeg) (v3 := G b (zi (i + 3)).toNatClampNeg) h (hC _) (hC _) (hC _)
  have hb1 : G1 b = G b := (fr b hbX).1
  have t1 : inr (zi (i + 1)) (le E b) = true := zi_inr (by omega) (by omega)
  have t2 : inr (zi (i + 2)) (le E b) = true := zi_inr (by omega) (by omega)
  have t3 : inr (zi (i + 3)) (le E b) = true := zi_inr (by omega) (by omega)
  rw [← hb1] at e2
  have ec : ∀ ls (h : AH) (Q : AH → Value → Prop), RK ML_law 1263 ls [.int (zi v), .int (zi v)] (k1, k2) h Q = RK ML_law 2193 ls [] (k1, k2) h Q := fun ls h Q => by
    have e : zi v = zi (zi v).toInt := (zi_of _).symm
    rw [e, fL_law_1263 (zi_rng _) (zi_rng _), if_pos rfl]
  refine ⟨G2, L2, r1, hI, (fr b hbX).2, fun Q => ?_⟩
  simp (disch := first | assumption | exact c2_int _ | exact c2_ref _ | exact c2_jk | exact c2_null | omega | exact bI_r _ | exact bI_01 _) only [↓fL_law_1225, ↓fL_law_1225n, ↓fL_law_1226, ↓fL_law_1226n, ↓fL_law_1227, ↓fL_law_1228, ↓fL_law_1229, ↓fL_law_1230, ↓fL_law_1231, ↓fL_law_1231n, ↓fL_law_1232, ↓fL_law_1233, ↓fL_law_1234, ↓fL_law_1235, ↓fL_law_1236, ↓fL_law_1236n, ↓fL_law_1237, ↓fL_law_1238, ↓fL_law_1239, ↓fL_law_1240, ↓fL_law_1241, ↓fL_law_1244, ↓fL_law_1244n, ↓fL_law_1245, ↓fL_law_1245n, ↓fL_law_1246, ↓fL_law_1247, ↓fL_law_1248, ↓fL_law_1249, ↓fL_law_1250, ↓fL_law_1250n, ↓fL_law_1251, ↓fL_law_1252, ↓fL_law_1253, ↓fL_law_1254, ↓fL_law_1255, ↓fL_law_1255n, ↓fL_law_1256, ↓fL_law_1257, ↓fL_law_1258, ↓fL_law_1259, ↓fL_law_1260, ↓e1, ↓e2, ↓ec]
theorem lc_30 (h : ST E r G L X m n σ a kk nn τ cl ln lv ys st fl tb f1 f2 N Sg) (hk1 : k1 ≤ 600000) (hk2 : k2 ≤ 7302250) (hX : kd E X = 15) (hm : kd E m = 16) (hkb : kd E b = 1 ∨ kd E b = 7) (hbX : b < X) (hi : 0 ≤ i ∧ i + 6 ≤ (le E b : Int)) (hlb : (le E b : Int) ≤ 3072) (hC : ∀ j, I32 (G b j)) : LC E r G L X m b i k1 k2 1268 [] := by
  obtain ⟨G1, r1, G2, L2, v, hI, fr, e1, e2⟩ := ca_sums (v1 := G b (zi (i + 1)).toNatClampNeg) (v2 := G b (zi (i + 2)).toNatClampNeg) h (hC _) (hC _)
  have hb1 : G1 b = G b := (fr b hbX).1
  have t1 : inr (zi (i + 1)) (le E b) = true := zi_inr (by omega) (by omega)
  have t2 : inr (zi (i + 2)) (le E b) = true := zi_inr (by omega) (by omega)
  rw [← hb1] at e2
  have ec : ∀ ls (h : AH) (Q : AH → Value → Prop), RK ML_law 1296 ls [.int (zi v), .int (zi v)] (k1, k2) h Q = RK ML_law 2193 ls [] (k1, k2) h Q := fun ls h Q => by
    have e : zi v = zi (zi v).toInt := (zi_of _).symm
    rw [e, fL_law_1296 (zi_rng _) (zi_rng _), if_pos rfl]
  refine ⟨G2, L2, r1, hI, (fr b hbX).2, fun Q => ?_⟩
  simp (disch := first | assumption | exact c2_int _ | exact c2_ref _ | exact c2_jk | exact c2_null | omega | exact bI_r _ | exact bI_01 _) only [↓fL_law_1268, ↓fL_law_1268n, ↓fL_law_1269, ↓fL_law_1269n, ↓fL_law_1270, ↓fL_law_1271, ↓fL_law_1272, ↓fL_law_1273, ↓fL_law_1274, ↓fL_law_1274n, ↓fL_law_1275, ↓fL_law_1276, ↓fL_law_1277, ↓fL_law_1278, ↓fL_law_1279, ↓fL_law_1282, ↓fL_law_1282n, ↓fL_law_1283, ↓fL_law_1283n, ↓fL_law_1284, ↓fL_law_1285, ↓fL_law_1286, ↓fL_law_1287, ↓fL_law_1288, ↓fL_law_1288n, ↓fL_law_1289, ↓fL_law_1290, ↓fL_law_1291, ↓fL_law_1292, ↓fL_law_1293, ↓e1, ↓e2, ↓ec]
theorem lc_31 (h : ST E r G L X m n σ a kk nn τ cl ln lv ys st fl tb f1 f2 N Sg) (hk1 : k1 ≤ 600000) (hk2 : k2 ≤ 7302250) (hX : kd E X = 15) (hm : kd E m = 16) (hkb : kd E b = 1 ∨ kd E b = 7) (hbX : b < X) (hi : 0 ≤ i ∧ i + 6 ≤ (le E b : Int)) (hlb : (le E b : Int) ≤ 3072) (hC : ∀ j, I32 (G b j)) : LC E r G L X m b i k1 k2 1301 [] := by
  obtain ⟨G1, r1, G2, L2, v, hI, fr, e1, e2⟩ := ca_misses (v1 := G b (zi (i + 1)).toNatClampNeg) (v2 := G b (zi (i + 2)).toNatClampNeg) h (hC _) (hC _)
  have hb1 : G1 b = G b := (fr b hbX).1
  have t1 : inr (zi (i + 1)) (le E b) = true := zi_inr (by omega) (by omega)
  have t2 : inr (zi (i + 2)) (le E b) = true := zi_inr (by omega) (by omega)
  rw [← hb1] at e2
  have ec : ∀ ls (h : AH) (Q : AH → Value → Prop), RK ML_law 1329 ls [.int (zi v), .int (zi v)] (k1, k2) h Q = RK ML_law 2193 ls [] (k1, k2) h Q := fun ls h Q => by
    have e : zi v = zi (zi v).toInt := (zi_of _).symm
    rw [e, fL_law_1329 (zi_rng _) (zi_rng _), if_pos rfl]
  refine ⟨G2, L2, r1, hI, (fr b hbX).2, fun Q => ?_⟩
  simp (disch := first | assumption | exact c2_int _ | exact c2_ref _ | exact c2_jk | exact c2_null | omega | exact bI_r _ | exact bI_01 _) only [↓fL_law_1301, ↓fL_law_1301n, ↓fL_law_1302, ↓fL_law_1302n, ↓fL_law_1303, ↓fL_law_1304, ↓fL_law_1305, ↓fL_law_1306, ↓fL_law_1307, ↓fL_law_1307n, ↓fL_law_1308, ↓fL_law_1309, ↓fL_law_1310, ↓fL_law_1311, ↓fL_law_1312, ↓fL_law_1315, ↓fL_law_1315n, ↓fL_law_1316, ↓fL_law_1316n, ↓fL_law_1317, ↓fL_law_1318, ↓fL_law_1319, ↓fL_law_1320, ↓fL_law_1321, ↓fL_law_1321n, ↓fL_law_1322, ↓fL_law_1323, ↓fL_law_1324, ↓fL_law_1325, ↓fL_law_1326, ↓e1, ↓e2, ↓ec]
theorem lc_32 (h : ST E r G L X m n σ a kk nn τ cl ln lv ys st fl tb f1 f2 N Sg) (hk1 : k1 ≤ 600000) (hk2 : k2 ≤ 7302250) (hX : kd E X = 15) (hm : kd E m = 16) (hkb : kd E b = 1 ∨ kd E b = 7) (hbX : b < X) (hi : 0 ≤ i ∧ i + 6 ≤ (le E b : Int)) (hlb : (le E b : Int) ≤ 3072) (hC : ∀ j, I32 (G b j)) : LC E r G L X m b i k1 k2 1334 [] := by
  obtain ⟨G1, r1, G2, L2, v, hI, fr, e1, e2⟩ := ca_run (v1 := G b (zi (i + 1)).toNatClampNeg) (v2 := G b (zi (i + 2)).toNatClampNeg) h (hC _) (hC _)
  have hb1 : G1 b = G b := (fr b hbX).1
  have t1 : inr (zi (i + 1)) (le E b) = true := zi_inr (by omega) (by omega)
  have t2 : inr (zi (i + 2)) (le E b) = true := zi_inr (by omega) (by omega)
  rw [← hb1] at e2
  have ec : ∀ ls (h : AH) (Q : AH → Value → Prop), RK ML_law 1362 ls [.int (zi v), .int (zi v)] (k1, k2) h Q = RK ML_law 2193 ls [] (k1, k2) h Q := fun ls h Q => by
    have e : zi v = zi (zi v).toInt := (zi_of _).symm
    rw [e, fL_law_1362 (zi_rng _) (zi_rng _), if_pos rfl]
  refine ⟨G2, L2, r1, hI, (fr b hbX).2, fun Q => ?_⟩
  simp (disch := first | assumption | exact c2_int _ | exact c2_ref _ | exact c2_jk | exact c2_null | omega | exact bI_r _ | exact bI_01 _) only [↓fL_law_1334, ↓fL_law_1334n, ↓fL_law_1335, ↓fL_law_1335n, ↓fL_law_1336, ↓fL_law_1337, ↓fL_law_1338, ↓fL_law_1339, ↓fL_law_1340, ↓fL_law_1340n, ↓fL_law_1341, ↓fL_law_1342, ↓fL_law_1343, ↓fL_law_1344, ↓fL_law_1345, ↓fL_law_1348, ↓fL_law_1348n, ↓fL_law_1349, ↓fL_law_1349n, ↓fL_law_1350, ↓fL_law_1351, ↓fL_law_1352, ↓fL_law_1353, ↓fL_law_1354, ↓fL_law_1354n, ↓fL_law_1355, ↓fL_law_1356, ↓fL_law_1357, ↓fL_law_1358, ↓fL_law_1359, ↓e1, ↓e2, ↓ec]
theorem lc_33 (h : ST E r G L X m n σ a kk nn τ cl ln lv ys st fl tb f1 f2 N Sg) (hk1 : k1 ≤ 600000) (hk2 : k2 ≤ 7302250) (hX : kd E X = 15) (hm : kd E m = 16) (hkb : kd E b = 1 ∨ kd E b = 7) (hbX : b < X) (hi : 0 ≤ i ∧ i + 6 ≤ (le E b : Int)) (hlb : (le E b : Int) ≤ 3072) (hC : ∀ j, I32 (G b j)) : LC E r G L X m b i k1 k2 1367 [] := by
  obtain ⟨G1, r1, G2, L2, v, hI, fr, e1, e2⟩ := ca_progression (v1 := G b (zi (i + 1)).toNatClampNeg) (v2 := G b (zi (i + 2)).toNatClampNeg) (v3 := G b (zi (i + 3)).toNatClampNeg) h (hC _) (hC _) (hC _)
  have hb1 : G1 b = G b := (fr b hbX).1
  have t1 : inr (zi (i + 1)) (le E b) = true := zi_inr (by omega) (by omega)
  have t2 : inr (zi (i + 2)) (le E b) = true := zi_inr (by omega) (by omega)
  have t3 : inr (zi (i + 3)) (le E b) = true := zi_inr (by omega) (by omega)
  rw [← hb1] at e2
  have ec : ∀ ls (h : AH) (Q : AH → Value → Prop), RK ML_law 1405 ls [.int (zi v), .int (zi v)] (k1, k2) h Q = RK ML_law 2193 ls [] (k1, k2) h Q := fun ls h Q => by
    have e : zi v = zi (zi v).toInt := (zi_of _).symm
    rw [e, fL_law_1405 (zi_rng _) (zi_rng _), if_pos rfl]
  refine ⟨G2, L2, r1, hI, (fr b hbX).2, fun Q => ?_⟩
  simp (disch := first | assumption | exact c2_int _ | exact c2_ref _ | exact c2_jk | exact c2_null | omega | exact bI_r _ | exact bI_01 _) only [↓fL_law_1367, ↓fL_law_1367n, ↓fL_law_1368, ↓fL_law_1368n, ↓fL_law_1369, ↓fL_law_1370, ↓fL_law_1371, ↓fL_law_1372, ↓fL_law_1373, ↓fL_law_1373n, ↓fL_law_1374, ↓fL_law_1375, ↓fL_law_1376, ↓fL_law_1377, ↓fL_law_1378, ↓fL_law_1378n, ↓fL_law_1379, ↓fL_law_1380, ↓fL_law_1381, ↓fL_law_1382, ↓fL_law_1383, ↓fL_law_1386, ↓fL_law_1386n, ↓fL_law_1387, ↓fL_law_1387n, ↓fL_law_1388, ↓fL_law_1389, ↓fL_law_1390, ↓fL_law_1391, ↓fL_law_1392, ↓fL_law_1392n, ↓fL_law_1393, ↓fL_law_1394, ↓fL_law_1395, ↓fL_law_1396, ↓fL_law_1397, ↓fL_law_1397n, ↓fL_law_1398, ↓fL_law_1399, ↓fL_law_1400, ↓fL_law_1401, ↓fL_law_1402, ↓e1, ↓e2, ↓ec]
theorem lc_34 (h : ST E r G L X m n σ a kk nn τ cl ln lv ys st fl tb f1 f2 N Sg) (hk1 : k1 ≤ 600000) (hk2 : k2 ≤ 7302250) (hX : kd E X = 15) (hm : kd E m = 16) (hkb : kd E b = 1 ∨ kd E b = 7) (hbX : b < X) (hi : 0 ≤ i ∧ i + 6 ≤ (le E b : Int)) (hlb : (le E b : Int) ≤ 3072) (hC : ∀ j, I32 (G b j)) : LC E r G L X m b i k1 k2 1410 [] := by
  obtain ⟨G1, r1, G2, L2, v, hI, fr, e1, e2⟩ := ca_rests (v1 := G b (zi (i + 1)).toNatClampNeg) (v2 := G b (zi (i + 2)).toNatClampNeg) (v3 := G b (zi (i + 3)).toNatClampNeg) h (hC _) (hC _) (hC _)
  have hb1 : G1 b = G b := (fr b hbX).1
  have t1 : inr (zi (i + 1)) (le E b) = true := zi_inr (by omega) (by omega)
  have t2 : inr (zi (i + 2)) (le E b) = true := zi_inr (by omega) (by omega)
  have t3 : inr (zi (i + 3)) (le E b) = true := zi_inr (by omega) (by omega)
  rw [← hb1] at e2
  have ec : ∀ ls (h : AH) (Q : AH → Value → Prop), RK ML_law 1448 ls [.int (zi v), .int (zi v)] (k1, k2) h Q = RK ML_law 2193 ls [] (k1, k2) h Q := fun ls h Q => by
    have e : zi v = zi (zi v).toInt := (zi_of _).symm
    rw [e, fL_law_1448 (zi_rng _) (zi_rng _), if_pos rfl]
  refine ⟨G2, L2, r1, hI, (fr b hbX).2, fun Q => ?_⟩
  simp (disch := first | assumption | exact c2_int _ | exact c2_ref _ | exact c2_jk | exact c2_null | omega | exact bI_r _ | exact bI_01 _) only [↓fL_law_1410, ↓fL_law_1410n, ↓fL_law_1411, ↓fL_law_1411n, ↓fL_law_1412, ↓fL_law_1413, ↓fL_law_1414, ↓fL_law_1415, ↓fL_law_1416, ↓fL_law_1416n, ↓fL_law_1417, ↓fL_law_1418, ↓fL_law_1419, ↓fL_law_1420, ↓fL_law_1421, ↓fL_law_1421n, ↓fL_law_1422, ↓fL_law_1423, ↓fL_law_1424, ↓fL_law_1425, ↓fL_law_1426, ↓fL_law_1429, ↓fL_law_1429n, ↓fL_law_1430, ↓fL_law_1430n, ↓fL_law_1431, ↓fL_law_1432, ↓fL_law_1433, ↓fL_law_1434, ↓fL_law_1435, ↓fL_law_1435n, ↓fL_law_1436, ↓fL_law_1437, ↓fL_law_1438, ↓fL_law_1439, ↓fL_law_1440, ↓fL_law_1440n, ↓fL_law_1441, ↓fL_law_1442, ↓fL_law_1443, ↓fL_law_1444, ↓fL_law_1445, ↓e1, ↓e2, ↓ec]
theorem lc_35 (h : ST E r G L X m n σ a kk nn τ cl ln lv ys st fl tb f1 f2 N Sg) (hk1 : k1 ≤ 600000) (hk2 : k2 ≤ 7302250) (hX : kd E X = 15) (hm : kd E m = 16) (hkb : kd E b = 1 ∨ kd E b = 7) (hbX : b < X) (hi : 0 ≤ i ∧ i + 6 ≤ (le E b : Int)) (hlb : (le E b : Int) ≤ 3072) (hC : ∀ j, I32 (G b j)) : LC E r G L X m b i k1 k2 1453 [] := by
  obtain ⟨G1, r1, G2, L2, v, hI, fr, e1, e2⟩ := ca_ring (v1 := G b (zi (i + 1)).toNatClampNeg) (v2 := G b (zi (i + 2)).toNatClampNeg) (v3 := G b (zi (i + 3)).toNatClampNeg) h (hC _) (hC _) (hC _)
  have hb1 : G1 b = G b := (fr b hbX).1
  have t1 : inr (zi (i + 1)) (le E b) = true := zi_inr (by omega) (by omega)
  have t2 : inr (zi (i + 2)) (le E b) = true := zi_inr (by omega) (by omega)
  have t3 : inr (zi (i + 3)) (le E b) = true := zi_inr (by omega) (by omega)
  rw [← hb1] at e2
  have ec : ∀ ls (h : AH) (Q : AH → Value → Prop), RK ML_law 1491 ls [.int (zi v), .int (zi v)] (k1, k2) h Q = RK ML_law 2193 ls [] (k1, k2) h Q := fun ls h Q => by
    have e : zi v = zi (zi v).toInt := (zi_of _).symm
    rw [e, fL_law_1491 (zi_rng _) (zi_rng _), if_pos rfl]
  refine ⟨G2, L2, r1, hI, (fr b hbX).2, fun Q => ?_⟩
  simp (disch := first | assumption | exact c2_int _ | exact c2_ref _ | exact c2_jk | exact c2_null | omega | exact bI_r _ | exact bI_01 _) only [↓fL_law_1453, ↓fL_law_1453n, ↓fL_law_1454, ↓fL_law_1454n, ↓fL_law_1455, ↓fL_law_1456, ↓fL_law_1457, ↓fL_law_1458, ↓fL_law_1459, ↓fL_law_1459n, ↓fL_law_1460, ↓fL_law_1461, ↓fL_law_1462, ↓fL_law_1463, ↓fL_law_1464, ↓fL_law_1464n, ↓fL_law_1465, ↓fL_law_1466, ↓fL_law_1467, ↓fL_law_1468, ↓fL_law_1469, ↓fL_law_1472, ↓fL_law_1472n, ↓fL_law_1473, ↓fL_law_1473n, ↓fL_law_1474, ↓fL_law_1475, ↓fL_law_1476, ↓fL_law_1477, ↓fL_law_1478, ↓fL_law_1478n, ↓fL_law_1479, ↓fL_law_1480, ↓fL_law_1481, ↓fL_law_1482, ↓fL_law_1483, ↓fL_law_1483n, ↓fL_law_1484, ↓fL_law_1485, ↓fL_law_1486, ↓fL_law_1487, ↓fL_law_1488, ↓e1, ↓e2, ↓ec]
theorem lc_36 (h : ST E r G L X m n σ a kk nn τ cl ln lv ys st fl tb f1 f2 N Sg) (hk1 : k1 ≤ 600000) (hk2 : k2 ≤ 7302250) (hX : kd E X = 15) (hm : kd E m = 16) (hkb : kd E b = 1 ∨ kd E b = 7) (hbX : b < X) (hi : 0 ≤ i ∧ i + 6 ≤ (le E b : Int)) (hlb : (le E b : Int) ≤ 3072) (hC : ∀ j, I32 (G b j)) : LC E r G L X m b i k1 k2 1496 [] := by
  obtain ⟨G1, r1, G2, L2, v, hI, fr, e1, e2⟩ := ca_chain (v1 := G b (zi (i + 1)).toNatClampNeg) (v2 := G b (zi (i + 2)).toNatClampNeg) (v3 := G b (zi (i + 3)).toNatClampNeg) h (hC _) (hC _) (hC _)
  have hb1 : G1 b = G b := (fr b hbX).1
  have t1 : inr (zi (i + 1)) (le E b) = true := zi_inr (by omega) (by omega)
  have t2 : inr (zi (i + 2)) (le E b) = true := zi_inr (by omega) (by omega)
  have t3 : inr (zi (i + 3)) (le E b) = true := zi_inr (by omega) (by omega)
  rw [← hb1] at e2
  have ec : ∀ ls (h : AH) (Q : AH → Value → Prop), RK ML_law 1534 ls [.int (zi v), .int (zi v)] (k1, k2) h Q = RK ML_law 2193 ls [] (k1, k2) h Q := fun ls h Q => by
    have e : zi v = zi (zi v).toInt := (zi_of _).symm
    rw [e, fL_law_1534 (zi_rng _) (zi_rng _), if_pos rfl]
  refine ⟨G2, L2, r1, hI, (fr b hbX).2, fun Q => ?_⟩
  simp (disch := first | assumption | exact c2_int _ | exact c2_ref _ | exact c2_jk | exact c2_null | omega | exact bI_r _ | exact bI_01 _) only [↓fL_law_1496, ↓fL_law_1496n, ↓fL_law_1497, ↓fL_law_1497n, ↓fL_law_1498, ↓fL_law_1499, ↓fL_law_1500, ↓fL_law_1501, ↓fL_law_1502, ↓fL_law_1502n, ↓fL_law_1503, ↓fL_law_1504, ↓fL_law_1505, ↓fL_law_1506, ↓fL_law_1507, ↓fL_law_1507n, ↓fL_law_1508, ↓fL_law_1509, ↓fL_law_1510, ↓fL_law_1511, ↓fL_law_1512, ↓fL_law_1515, ↓fL_law_1515n, ↓fL_law_1516, ↓fL_law_1516n, ↓fL_law_1517, ↓fL_law_1518, ↓fL_law_1519, ↓fL_law_1520, ↓fL_law_1521, ↓fL_law_1521n, ↓fL_law_1522, ↓fL_law_1523, ↓fL_law_1524, ↓fL_law_1525, ↓fL_law_1526, ↓fL_law_1526n, ↓fL_law_1527, ↓fL_law_1528, ↓fL_law_1529, ↓fL_law_1530, ↓fL_law_1531, ↓e1, ↓e2, ↓ec]
theorem lc_37 (h : ST E r G L X m n σ a kk nn τ cl ln lv ys st fl tb f1 f2 N Sg) (hk1 : k1 ≤ 600000) (hk2 : k2 ≤ 7302250) (hX : kd E X = 15) (hm : kd E m = 16) (hkb : kd E b = 1 ∨ kd E b = 7) (hbX : b < X) (hi : 0 ≤ i ∧ i + 6 ≤ (le E b : Int)) (hlb : (le E b : Int) ≤ 3072) (hC : ∀ j, I32 (G b j)) : LC E r G L X m b i k1 k2 1539 [] := by
  obtain ⟨G1, r1, G2, L2, v, hI, fr, e1, e2⟩ := ca_spread (v1 := G b (zi (i + 1)).toNatClampNeg) (v2 := G b (zi (i + 2)).toNatClampNeg) (v3 := G b (zi (i + 3)).toNatClampNeg) h (hC _) (hC _) (hC _)
  have hb1 : G1 b = G b := (fr b hbX).1
  have t1 : inr (zi (i + 1)) (le E b) = true := zi_inr (by omega) (by omega)
  have t2 : inr (zi (i + 2)) (le E b) = true := zi_inr (by omega) (by omega)
  have t3 : inr (zi (i + 3)) (le E b) = true := zi_inr (by omega) (by omega)
  rw [← hb1] at e2
  have ec : ∀ ls (h : AH) (Q : AH → Value → Prop), RK ML_law 1577 ls [.int (zi v), .int (zi v)] (k1, k2) h Q = RK ML_law 2193 ls [] (k1, k2) h Q := fun ls h Q => by
    have e : zi v = zi (zi v).toInt := (zi_of _).symm
    rw [e, fL_law_1577 (zi_rng _) (zi_rng _), if_pos rfl]
  refine ⟨G2, L2, r1, hI, (fr b hbX).2, fun Q => ?_⟩
  simp (disch := first | assumption | exact c2_int _ | exact c2_ref _ | exact c2_jk | exact c2_null | omega | exact bI_r _ | exact bI_01 _) only [↓fL_law_1539, ↓fL_law_1539n, ↓fL_law_1540, ↓fL_law_1540n, ↓fL_law_1541, ↓fL_law_1542, ↓fL_law_1543, ↓fL_law_1544, ↓fL_law_1545, ↓fL_law_1545n, ↓fL_law_1546, ↓fL_law_1547, ↓fL_law_1548, ↓fL_law_1549, ↓fL_law_1550, ↓fL_law_1550n, ↓fL_law_1551, ↓fL_law_1552, ↓fL_law_1553, ↓fL_law_1554, ↓fL_law_1555, ↓fL_law_1558, ↓fL_law_1558n, ↓fL_law_1559, ↓fL_law_1559n, ↓fL_law_1560, ↓fL_law_1561, ↓fL_law_1562, ↓fL_law_1563, ↓fL_law_1564, ↓fL_law_1564n, ↓fL_law_1565, ↓fL_law_1566, ↓fL_law_1567, ↓fL_law_1568, ↓fL_law_1569, ↓fL_law_1569n, ↓fL_law_1570, ↓fL_law_1571, ↓fL_law_1572, ↓fL_law_1573, ↓fL_law_1574, ↓e1, ↓e2, ↓ec]
theorem lc_38 (h : ST E r G L X m n σ a kk nn τ cl ln lv ys st fl tb f1 f2 N Sg) (hk1 : k1 ≤ 600000) (hk2 : k2 ≤ 7302250) (hX : kd E X = 15) (hm : kd E m = 16) (hkb : kd E b = 1 ∨ kd E b = 7) (hbX : b < X) (hi : 0 ≤ i ∧ i + 6 ≤ (le E b : Int)) (hlb : (le E b : Int) ≤ 3072) (hC : ∀ j, I32 (G b j)) : LC E r G L X m b i k1 k2 1582 [] := by
  obtain ⟨G1, r1, G2, L2, v, hI, fr, e1, e2⟩ := ca_sketch (v1 := G b (zi (i + 1)).toNatClampNeg) (v2 := G b (zi (i + 2)).toNatClampNeg) (v3 := G b (zi (i + 3)).toNatClampNeg) h (hC _) (hC _) (hC _)
  have hb1 : G1 b = G b := (fr b hbX).1
  have t1 : inr (zi (i + 1)) (le E b) = true := zi_inr (by omega) (by omega)
  have t2 : inr (zi (i + 2)) (le E b) = true := zi_inr (by omega) (by omega)
  have t3 : inr (zi (i + 3)) (le E b) = true := zi_inr (by omega) (by omega)
  rw [← hb1] at e2
  have ec : ∀ ls (h : AH) (Q : AH → Value → Prop), RK ML_law 1620 ls [.int (zi v), .int (zi v)] (k1, k2) h Q = RK ML_law 2193 ls [] (k1, k2) h Q := fun ls h Q => by
    have e : zi v = zi (zi v).toInt := (zi_of _).symm
    rw [e, fL_law_1620 (zi_rng _) (zi_rng _), if_pos rfl]
  refine ⟨G2, L2, r1, hI, (fr b hbX).2, fun Q => ?_⟩
  simp (disch := first | assumption | exact c2_int _ | exact c2_ref _ | exact c2_jk | exact c2_null | omega | exact bI_r _ | exact bI_01 _) only [↓fL_law_1582, ↓fL_law_1582n, ↓fL_law_1583, ↓fL_law_1583n, ↓fL_law_1584, ↓fL_law_1585, ↓fL_law_1586, ↓fL_law_1587, ↓fL_law_1588, ↓fL_law_1588n, ↓fL_law_1589, ↓fL_law_1590, ↓fL_law_1591, ↓fL_law_1592, ↓fL_law_1593, ↓fL_law_1593n, ↓fL_law_1594, ↓fL_law_1595, ↓fL_law_1596, ↓fL_law_1597, ↓fL_law_1598, ↓fL_law_1601, ↓fL_law_1601n, ↓fL_law_1602, ↓fL_law_1602n, ↓fL_law_1603, ↓fL_law_1604, ↓fL_law_1605, ↓fL_law_1606, ↓fL_law_1607, ↓fL_law_1607n, ↓fL_law_1608, ↓fL_law_1609, ↓fL_law_1610, ↓fL_law_1611, ↓fL_law_1612, ↓fL_law_1612n, ↓fL_law_1613, ↓fL_law_1614, ↓fL_law_1615, ↓fL_law_1616, ↓fL_law_1617, ↓e1, ↓e2, ↓ec]
theorem lc_39 (h : ST E r G L X m n σ a kk nn τ cl ln lv ys st fl tb f1 f2 N Sg) (hk1 : k1 ≤ 600000) (hk2 : k2 ≤ 7302250) (hX : kd E X = 15) (hm : kd E m = 16) (hkb : kd E b = 1 ∨ kd E b = 7) (hbX : b < X) (hi : 0 ≤ i ∧ i + 6 ≤ (le E b : Int)) (hlb : (le E b : Int) ≤ 3072) (hC : ∀ j, I32 (G b j)) : LC E r G L X m b i k1 k2 1625 [] := by
  obtain ⟨G1, r1, G2, L2, v, hI, fr, e1, e2⟩ := ca_balance (v1 := G b (zi (i + 1)).toNatClampNeg) (v2 := G b (zi (i + 2)).toNatClampNeg) h (hC _) (hC _)
  have hb1 : G1 b = G b := (fr b hbX).1
  have t1 : inr (zi (i + 1)) (le E b) = true := zi_inr (by omega) (by omega)
  have t2 : inr (zi (i + 2)) (le E b) = true := zi_inr (by omega) (by omega)
  rw [← hb1] at e2
  have ec : ∀ ls (h : AH) (Q : AH → Value → Prop), RK ML_law 1653 ls [.int (zi v), .int (zi v)] (k1, k2) h Q = RK ML_law 2193 ls [] (k1, k2) h Q := fun ls h Q => by
    have e : zi v = zi (zi v).toInt := (zi_of _).symm
    rw [e, fL_law_1653 (zi_rng _) (zi_rng _), if_pos rfl]
  refine ⟨G2, L2, r1, hI, (fr b hbX).2, fun Q => ?_⟩
  simp (disch := first | assumption | exact c2_int _ | exact c2_ref _ | exact c2_jk | exact c2_null | omega | exact bI_r _ | exact bI_01 _) only [↓fL_law_1625, ↓fL_law_1625n, ↓fL_law_1626, ↓fL_law_1626n, ↓fL_law_1627, ↓fL_law_1628, ↓fL_law_1629, ↓fL_law_1630, ↓fL_law_1631, ↓fL_law_1631n, ↓fL_law_1632, ↓fL_law_1633, ↓fL_law_1634, ↓fL_law_1635, ↓fL_law_1636, ↓fL_law_1639, ↓fL_law_1639n, ↓fL_law_1640, ↓fL_law_1640n, ↓fL_law_1641, ↓fL_law_1642, ↓fL_law_1643, ↓fL_law_1644, ↓fL_law_1645, ↓fL_law_1645n, ↓fL_law_1646, ↓fL_law_1647, ↓fL_law_1648, ↓fL_law_1649, ↓fL_law_1650, ↓e1, ↓e2, ↓ec]
theorem lc_40 (h : ST E r G L X m n σ a kk nn τ cl ln lv ys st fl tb f1 f2 N Sg) (hk1 : k1 ≤ 600000) (hk2 : k2 ≤ 7302250) (hX : kd E X = 15) (hm : kd E m = 16) (hkb : kd E b = 1 ∨ kd E b = 7) (hbX : b < X) (hi : 0 ≤ i ∧ i + 6 ≤ (le E b : Int)) (hlb : (le E b : Int) ≤ 3072) (hC : ∀ j, I32 (G b j)) : LC E r G L X m b i k1 k2 1658 [] := by
  obtain ⟨G1, r1, G2, L2, v, hI, fr, e1, e2⟩ := ca_pattern (v1 := G b (zi (i + 1)).toNatClampNeg) (v2 := G b (zi (i + 2)).toNatClampNeg) (v3 := G b (zi (i + 3)).toNatClampNeg) (v4 := G b (zi (i + 4)).toNatClampNeg) h (hC _) (hC _) (hC _) (hC _)
  have hb1 : G1 b = G b := (fr b hbX).1
  have t1 : inr (zi (i + 1)) (le E b) = true := zi_inr (by omega) (by omega)
  have t2 : inr (zi (i + 2)) (le E b) = true := zi_inr (by omega) (by omega)
  have t3 : inr (zi (i + 3)) (le E b) = true := zi_inr (by omega) (by omega)
  have t4 : inr (zi (i + 4)) (le E b) = true := zi_inr (by omega) (by omega)
  rw [← hb1] at e2
  have ec : ∀ ls (h : AH) (Q : AH → Value → Prop), RK ML_law 1706 ls [.int (zi v), .int (zi v)] (k1, k2) h Q = RK ML_law 2193 ls [] (k1, k2) h Q := fun ls h Q => by
    have e : zi v = zi (zi v).toInt := (zi_of _).symm
    rw [e, fL_law_1706 (zi_rng _) (zi_rng _), if_pos rfl]
  refine ⟨G2, L2, r1, hI, (fr b hbX).2, fun Q => ?_⟩
  simp (disch := first | assumption | exact c2_int _ | exact c2_ref _ | exact c2_jk | exact c2_null | omega | exact bI_r _ | exact bI_01 _) only [↓fL_law_1658, ↓fL_law_1658n, ↓fL_law_1659, ↓fL_law_1659n, ↓fL_law_1660, ↓fL_law_1661, ↓fL_law_1662, ↓fL_law_1663, ↓fL_law_1664, ↓fL_law_1664n, ↓fL_law_1665, ↓fL_law_1666, ↓fL_law_1667, ↓fL_law_1668, ↓fL_law_1669, ↓fL_law_1669n, ↓fL_law_1670, ↓fL_law_1671, ↓fL_law_1672, ↓fL_law_1673, ↓fL_law_1674, ↓fL_law_1674n, ↓fL_law_1675, ↓fL_law_1676, ↓fL_law_1677, ↓fL_law_1678, ↓fL_law_1679, ↓fL_law_1682, ↓fL_law_1682n, ↓fL_law_1683, ↓fL_law_1683n, ↓fL_law_1684, ↓fL_law_1685, ↓fL_law_1686, ↓fL_law_1687, ↓fL_law_1688, ↓fL_law_1688n, ↓fL_law_1689, ↓fL_law_1690, ↓fL_law_1691, ↓fL_law_1692, ↓fL_law_1693, ↓fL_law_1693n, ↓fL_law_1694, ↓fL_law_1695, ↓fL_law_1696, ↓fL_law_1697, ↓fL_law_1698, ↓fL_law_1698n, ↓fL_law_1699, ↓fL_law_1700, ↓fL_law_1701, ↓fL_law_1702, ↓fL_law_1703, ↓e1, ↓e2, ↓ec]
theorem lc_41 (h : ST E r G L X m n σ a kk nn τ cl ln lv ys st fl tb f1 f2 N Sg) (hk1 : k1 ≤ 600000) (hk2 : k2 ≤ 7302250) (hX : kd E X = 15) (hm : kd E m = 16) (hkb : kd E b = 1 ∨ kd E b = 7) (hbX : b < X) (hi : 0 ≤ i ∧ i + 6 ≤ (le E b : Int)) (hlb : (le E b : Int) ≤ 3072) (hC : ∀ j, I32 (G b j)) : LC E r G L X m b i k1 k2 1711 [] := by
  obtain ⟨G1, r1, G2, L2, v, hI, fr, e1, e2⟩ := ca_mirror (v1 := G b (zi (i + 1)).toNatClampNeg) (v2 := G b (zi (i + 2)).toNatClampNeg) h (hC _) (hC _)
  have hb1 : G1 b = G b := (fr b hbX).1
  have t1 : inr (zi (i + 1)) (le E b) = true := zi_inr (by omega) (by omega)
  have t2 : inr (zi (i + 2)) (le E b) = true := zi_inr (by omega) (by omega)
  rw [← hb1] at e2
  have ec : ∀ ls (h : AH) (Q : AH → Value → Prop), RK ML_law 1739 ls [.int (zi v), .int (zi v)] (k1, k2) h Q = RK ML_law 2193 ls [] (k1, k2) h Q := fun ls h Q => by
    have e : zi v = zi (zi v).toInt := (zi_of _).symm
    rw [e, fL_law_1739 (zi_rng _) (zi_rng _), if_pos rfl]
  refine ⟨G2, L2, r1, hI, (fr b hbX).2, fun Q => ?_⟩
  simp (disch := first | assumption | exact c2_int _ | exact c2_ref _ | exact c2_jk | exact c2_null | omega | exact bI_r _ | exact bI_01 _) only [↓fL_law_1711, ↓fL_law_1711n, ↓fL_law_1712, ↓fL_law_1712n, ↓fL_law_1713, ↓fL_law_1714, ↓fL_law_1715, ↓fL_law_1716, ↓fL_law_1717, ↓fL_law_1717n, ↓fL_law_1718, ↓fL_law_1719, ↓fL_law_1720, ↓fL_law_1721, ↓fL_law_1722, ↓fL_law_1725, ↓fL_law_1725n, ↓fL_law_1726, ↓fL_law_1726n, ↓fL_law_1727, ↓fL_law_1728, ↓fL_law_1729, ↓fL_law_1730, ↓fL_law_1731, ↓fL_law_1731n, ↓fL_law_1732, ↓fL_law_1733, ↓fL_law_1734, ↓fL_law_1735, ↓fL_law_1736, ↓e1, ↓e2, ↓ec]
theorem lc_42 (h : ST E r G L X m n σ a kk nn τ cl ln lv ys st fl tb f1 f2 N Sg) (hk1 : k1 ≤ 600000) (hk2 : k2 ≤ 7302250) (hX : kd E X = 15) (hm : kd E m = 16) (hkb : kd E b = 1 ∨ kd E b = 7) (hbX : b < X) (hi : 0 ≤ i ∧ i + 6 ≤ (le E b : Int)) (hlb : (le E b : Int) ≤ 3072) (hC : ∀ j, I32 (G b j)) : LC E r G L X m b i k1 k2 1744 [] := by
  obtain ⟨G1, r1, G2, L2, v, hI, fr, e1, e2⟩ := ca_half (v1 := G b (zi (i + 1)).toNatClampNeg) h (hC _)
  have hb1 : G1 b = G b := (fr b hbX).1
  have t1 : inr (zi (i + 1)) (le E b) = true := zi_inr (by omega) (by omega)
  rw [← hb1] at e2
  have ec : ∀ ls (h : AH) (Q : AH → Value → Prop), RK ML_law 1762 ls [.int (zi v), .int (zi v)] (k1, k2) h Q = RK ML_law 2193 ls [] (k1, k2) h Q := fun ls h Q => by
    have e : zi v = zi (zi v).toInt := (zi_of _).symm
    rw [e, fL_law_1762 (zi_rng _) (zi_rng _), if_pos rfl]
  refine ⟨G2, L2, r1, hI, (fr b hbX).2, fun Q => ?_⟩
  simp (disch := first | assumption | exact c2_int _ | exact c2_ref _ | exact c2_jk | exact c2_null | omega | exact bI_r _ | exact bI_01 _) only [↓fL_law_1744, ↓fL_law_1744n, ↓fL_law_1745, ↓fL_law_1745n, ↓fL_law_1746, ↓fL_law_1747, ↓fL_law_1748, ↓fL_law_1749, ↓fL_law_1750, ↓fL_law_1753, ↓fL_law_1753n, ↓fL_law_1754, ↓fL_law_1754n, ↓fL_law_1755, ↓fL_law_1756, ↓fL_law_1757, ↓fL_law_1758, ↓fL_law_1759, ↓e1, ↓e2, ↓ec]
theorem lc_43 (h : ST E r G L X m n σ a kk nn τ cl ln lv ys st fl tb f1 f2 N Sg) (hk1 : k1 ≤ 600000) (hk2 : k2 ≤ 7302250) (hX : kd E X = 15) (hm : kd E m = 16) (hkb : kd E b = 1 ∨ kd E b = 7) (hbX : b < X) (hi : 0 ≤ i ∧ i + 6 ≤ (le E b : Int)) (hlb : (le E b : Int) ≤ 3072) (hC : ∀ j, I32 (G b j)) : LC E r G L X m b i k1 k2 1767 [] := by
  obtain ⟨G1, r1, G2, L2, v, hI, fr, e1, e2⟩ := ca_usual (v1 := G b (zi (i + 1)).toNatClampNeg) h (hC _)
  have hb1 : G1 b = G b := (fr b hbX).1
  have t1 : inr (zi (i + 1)) (le E b) = true := zi_inr (by omega) (by omega)
  rw [← hb1] at e2
  have ec : ∀ ls (h : AH) (Q : AH → Value → Prop), RK ML_law 1785 ls [.int (zi v), .int (zi v)] (k1, k2) h Q = RK ML_law 2193 ls [] (k1, k2) h Q := fun ls h Q => by
    have e : zi v = zi (zi v).toInt := (zi_of _).symm
    rw [e, fL_law_1785 (zi_rng _) (zi_rng _), if_pos rfl]
  refine ⟨G2, L2, r1, hI, (fr b hbX).2, fun Q => ?_⟩
  simp (disch := first | assumption | exact c2_int _ | exact c2_ref _ | exact c2_jk | exact c2_null | omega | exact bI_r _ | exact bI_01 _) only [↓fL_law_1767, ↓fL_law_1767n, ↓fL_law_1768, ↓fL_law_1768n, ↓fL_law_1769, ↓fL_law_1770, ↓fL_law_1771, ↓fL_law_1772, ↓fL_law_1773, ↓fL_law_1776, ↓fL_law_1776n, ↓fL_law_1777, ↓fL_law_1777n, ↓fL_law_1778, ↓fL_law_1779, ↓fL_law_1780, ↓fL_law_1781, ↓fL_law_1782, ↓e1, ↓e2, ↓ec]
theorem lc_44 (h : ST E r G L X m n σ a kk nn τ cl ln lv ys st fl tb f1 f2 N Sg) (hk1 : k1 ≤ 600000) (hk2 : k2 ≤ 7302250) (hX : kd E X = 15) (hm : kd E m = 16) (hkb : kd E b = 1 ∨ kd E b = 7) (hbX : b < X) (hi : 0 ≤ i ∧ i + 6 ≤ (le E b : Int)) (hlb : (le E b : Int) ≤ 3072) (hC : ∀ j, I32 (G b j)) : LC E r G L X m b i k1 k2 1790 [] := by
  obtain ⟨G1, r1, G2, L2, v, hI, fr, e1, e2⟩ := ca_both (v1 := G b (zi (i + 1)).toNatClampNeg) (v2 := G b (zi (i + 2)).toNatClampNeg) (v3 := G b (zi (i + 3)).toNatClampNeg) h (hC _) (hC _) (hC _)
  have hb1 : G1 b = G b := (fr b hbX).1
  have t1 : inr (zi (i + 1)) (le E b) = true := zi_inr (by omega) (by omega)
  have t2 : inr (zi (i + 2)) (le E b) = true := zi_inr (by omega) (by omega)
  have t3 : inr (zi (i + 3)) (le E b) = true := zi_inr (by omega) (by omega)
  rw [← hb1] at e2
  have ec : ∀ ls (h : AH) (Q : AH → Value → Prop), RK ML_law 1828 ls [.int (zi v), .int (zi v)] (k1, k2) h Q = RK ML_law 2193 ls [] (k1, k2) h Q := fun ls h Q => by
    have e : zi v = zi (zi v).toInt := (zi_of _).symm
    rw [e, fL_law_1828 (zi_rng _) (zi_rng _), if_pos rfl]
  refine ⟨G2, L2, r1, hI, (fr b hbX).2, fun Q => ?_⟩
  simp (disch := first | assumption | exact c2_int _ | exact c2_ref _ | exact c2_jk | exact c2_null | omega | exact bI_r _ | exact bI_01 _) only [↓fL_law_1790, ↓fL_law_1790n, ↓fL_law_1791, ↓fL_law_1791n, ↓fL_law_1792, ↓fL_law_1793, ↓fL_law_1794, ↓fL_law_1795, ↓fL_law_1796, ↓fL_law_1796n, ↓fL_law_1797, ↓fL_law_1798, ↓fL_law_1799, ↓fL_law_1800, ↓fL_law_1801, ↓fL_law_1801n, ↓fL_law_1802, ↓fL_law_1803, ↓fL_law_1804, ↓fL_law_1805, ↓fL_law_1806, ↓fL_law_1809, ↓fL_law_1809n, ↓fL_law_1810, ↓fL_law_1810n, ↓fL_law_1811, ↓fL_law_1812, ↓fL_law_1813, ↓fL_law_1814, ↓fL_law_1815, ↓fL_law_1815n, ↓fL_law_1816, ↓fL_law_1817, ↓fL_law_1818, ↓fL_law_1819, ↓fL_law_1820, ↓fL_law_1820n, ↓fL_law_1821, ↓fL_law_1822, ↓fL_law_1823, ↓fL_law_1824, ↓fL_law_1825, ↓e1, ↓e2, ↓ec]
theorem lc_45 (h : ST E r G L X m n σ a kk nn τ cl ln lv ys st fl tb f1 f2 N Sg) (hk1 : k1 ≤ 600000) (hk2 : k2 ≤ 7302250) (hX : kd E X = 15) (hm : kd E m = 16) (hkb : kd E b = 1 ∨ kd E b = 7) (hbX : b < X) (hi : 0 ≤ i ∧ i + 6 ≤ (le E b : Int)) (hlb : (le E b : Int) ≤ 3072) (hC : ∀ j, I32 (G b j)) : LC E r G L X m b i k1 k2 1833 [] := by
  obtain ⟨G1, r1, G2, L2, v, hI, fr, e1, e2⟩ := ca_lead (v1 := G b (zi (i + 1)).toNatClampNeg) (v2 := G b (zi (i + 2)).toNatClampNeg) (v3 := G b (zi (i + 3)).toNatClampNeg) h (hC _) (hC _) (hC _)
  have hb1 : G1 b = G b := (fr b hbX).1
  have t1 : inr (zi (i + 1)) (le E b) = true := zi_inr (by omega) (by omega)
  have t2 : inr (zi (i + 2)) (le E b) = true := zi_inr (by omega) (by omega)
  have t3 : inr (zi (i + 3)) (le E b) = true := zi_inr (by omega) (by omega)
  rw [← hb1] at e2
  have ec : ∀ ls (h : AH) (Q : AH → Value → Prop), RK ML_law 1871 ls [.int (zi v), .int (zi v)] (k1, k2) h Q = RK ML_law 2193 ls [] (k1, k2) h Q := fun ls h Q => by
    have e : zi v = zi (zi v).toInt := (zi_of _).symm
    rw [e, fL_law_1871 (zi_rng _) (zi_rng _), if_pos rfl]
  refine ⟨G2, L2, r1, hI, (fr b hbX).2, fun Q => ?_⟩
  simp (disch := first | assumption | exact c2_int _ | exact c2_ref _ | exact c2_jk | exact c2_null | omega | exact bI_r _ | exact bI_01 _) only [↓fL_law_1833, ↓fL_law_1833n, ↓fL_law_1834, ↓fL_law_1834n, ↓fL_law_1835, ↓fL_law_1836, ↓fL_law_1837, ↓fL_law_1838, ↓fL_law_1839, ↓fL_law_1839n, ↓fL_law_1840, ↓fL_law_1841, ↓fL_law_1842, ↓fL_law_1843, ↓fL_law_1844, ↓fL_law_1844n, ↓fL_law_1845, ↓fL_law_1846, ↓fL_law_1847, ↓fL_law_1848, ↓fL_law_1849, ↓fL_law_1852, ↓fL_law_1852n, ↓fL_law_1853, ↓fL_law_1853n, ↓fL_law_1854, ↓fL_law_1855, ↓fL_law_1856, ↓fL_law_1857, ↓fL_law_1858, ↓fL_law_1858n, ↓fL_law_1859, ↓fL_law_1860, ↓fL_law_1861, ↓fL_law_1862, ↓fL_law_1863, ↓fL_law_1863n, ↓fL_law_1864, ↓fL_law_1865, ↓fL_law_1866, ↓fL_law_1867, ↓fL_law_1868, ↓e1, ↓e2, ↓ec]
theorem lc_46 (h : ST E r G L X m n σ a kk nn τ cl ln lv ys st fl tb f1 f2 N Sg) (hk1 : k1 ≤ 600000) (hk2 : k2 ≤ 7302250) (hX : kd E X = 15) (hm : kd E m = 16) (hkb : kd E b = 1 ∨ kd E b = 7) (hbX : b < X) (hi : 0 ≤ i ∧ i + 6 ≤ (le E b : Int)) (hlb : (le E b : Int) ≤ 3072) (hC : ∀ j, I32 (G b j)) : LC E r G L X m b i k1 k2 1876 [] := by
  obtain ⟨G1, r1, G2, L2, v, hI, fr, e1, e2⟩ := ca_alike (v1 := G b (zi (i + 1)).toNatClampNeg) (v2 := G b (zi (i + 2)).toNatClampNeg) h (hC _) (hC _)
  have hb1 : G1 b = G b := (fr b hbX).1
  have t1 : inr (zi (i + 1)) (le E b) = true := zi_inr (by omega) (by omega)
  have t2 : inr (zi (i + 2)) (le E b) = true := zi_inr (by omega) (by omega)
  rw [← hb1] at e2
  have ec : ∀ ls (h : AH) (Q : AH → Value → Prop), RK ML_law 1904 ls [.int (zi v), .int (zi v)] (k1, k2) h Q = RK ML_law 2193 ls [] (k1, k2) h Q := fun ls h Q => by
    have e : zi v = zi (zi v).toInt := (zi_of _).symm
    rw [e, fL_law_1904 (zi_rng _) (zi_rng _), if_pos rfl]
  refine ⟨G2, L2, r1, hI, (fr b hbX).2, fun Q => ?_⟩
  simp (disch := first | assumption | exact c2_int _ | exact c2_ref _ | exact c2_jk | exact c2_null | omega | exact bI_r _ | exact bI_01 _) only [↓fL_law_1876, ↓fL_law_1876n, ↓fL_law_1877, ↓fL_law_1877n, ↓fL_law_1878, ↓fL_law_1879, ↓fL_law_1880, ↓fL_law_1881, ↓fL_law_1882, ↓fL_law_1882n, ↓fL_law_1883, ↓fL_law_1884, ↓fL_law_1885, ↓fL_law_1886, ↓fL_law_1887, ↓fL_law_1890, ↓fL_law_1890n, ↓fL_law_1891, ↓fL_law_1891n, ↓fL_law_1892, ↓fL_law_1893, ↓fL_law_1894, ↓fL_law_1895, ↓fL_law_1896, ↓fL_law_1896n, ↓fL_law_1897, ↓fL_law_1898, ↓fL_law_1899, ↓fL_law_1900, ↓fL_law_1901, ↓e1, ↓e2, ↓ec]
theorem lc_47 (h : ST E r G L X m n σ a kk nn τ cl ln lv ys st fl tb f1 f2 N Sg) (hk1 : k1 ≤ 600000) (hk2 : k2 ≤ 7302250) (hX : kd E X = 15) (hm : kd E m = 16) (hkb : kd E b = 1 ∨ kd E b = 7) (hbX : b < X) (hi : 0 ≤ i ∧ i + 6 ≤ (le E b : Int)) (hlb : (le E b : Int) ≤ 3072) (hC : ∀ j, I32 (G b j)) : LC E r G L X m b i k1 k2 1909 [] := by
  obtain ⟨G1, r1, G2, L2, v, hI, fr, e1, e2⟩ := ca_through (v1 := G b (zi (i + 1)).toNatClampNeg) (v2 := G b (zi (i + 2)).toNatClampNeg) (v3 := G b (zi (i + 3)).toNatClampNeg) h (hC _) (hC _) (hC _)
  have hb1 : G1 b = G b := (fr b hbX).1
  have t1 : inr (zi (i + 1)) (le E b) = true := zi_inr (by omega) (by omega)
  have t2 : inr (zi (i + 2)) (le E b) = true := zi_inr (by omega) (by omega)
  have t3 : inr (zi (i + 3)) (le E b) = true := zi_inr (by omega) (by omega)
  rw [← hb1] at e2
  have ec : ∀ ls (h : AH) (Q : AH → Value → Prop), RK ML_law 1947 ls [.int (zi v), .int (zi v)] (k1, k2) h Q = RK ML_law 2193 ls [] (k1, k2) h Q := fun ls h Q => by
    have e : zi v = zi (zi v).toInt := (zi_of _).symm
    rw [e, fL_law_1947 (zi_rng _) (zi_rng _), if_pos rfl]
  refine ⟨G2, L2, r1, hI, (fr b hbX).2, fun Q => ?_⟩
  simp (disch := first | assumption | exact c2_int _ | exact c2_ref _ | exact c2_jk | exact c2_null | omega | exact bI_r _ | exact bI_01 _) only [↓fL_law_1909, ↓fL_law_1909n, ↓fL_law_1910, ↓fL_law_1910n, ↓fL_law_1911, ↓fL_law_1912, ↓fL_law_1913, ↓fL_law_1914, ↓fL_law_1915, ↓fL_law_1915n, ↓fL_law_1916, ↓fL_law_1917, ↓fL_law_1918, ↓fL_law_1919, ↓fL_law_1920, ↓fL_law_1920n, ↓fL_law_1921, ↓fL_law_1922, ↓fL_law_1923, ↓fL_law_1924, ↓fL_law_1925, ↓fL_law_1928, ↓fL_law_1928n, ↓fL_law_1929, ↓fL_law_1929n, ↓fL_law_1930, ↓fL_law_1931, ↓fL_law_1932, ↓fL_law_1933, ↓fL_law_1934, ↓fL_law_1934n, ↓fL_law_1935, ↓fL_law_1936, ↓fL_law_1937, ↓fL_law_1938, ↓fL_law_1939, ↓fL_law_1939n, ↓fL_law_1940, ↓fL_law_1941, ↓fL_law_1942, ↓fL_law_1943, ↓fL_law_1944, ↓e1, ↓e2, ↓ec]
theorem lc_48 (h : ST E r G L X m n σ a kk nn τ cl ln lv ys st fl tb f1 f2 N Sg) (hk1 : k1 ≤ 600000) (hk2 : k2 ≤ 7302250) (hX : kd E X = 15) (hm : kd E m = 16) (hkb : kd E b = 1 ∨ kd E b = 7) (hbX : b < X) (hi : 0 ≤ i ∧ i + 6 ≤ (le E b : Int)) (hlb : (le E b : Int) ≤ 3072) (hC : ∀ j, I32 (G b j)) : LC E r G L X m b i k1 k2 1952 [] := by
  obtain ⟨G1, r1, G2, L2, v, hI, fr, e1, e2⟩ := ca_list (v1 := G b (zi (i + 1)).toNatClampNeg) (v2 := G b (zi (i + 2)).toNatClampNeg) h (hC _) (hC _)
  have hb1 : G1 b = G b := (fr b hbX).1
  have t1 : inr (zi (i + 1)) (le E b) = true := zi_inr (by omega) (by omega)
  have t2 : inr (zi (i + 2)) (le E b) = true := zi_inr (by omega) (by omega)
  rw [← hb1] at e2
  have ec : ∀ ls (h : AH) (Q : AH → Value → Prop), RK ML_law 1980 ls [.int (zi v), .int (zi v)] (k1, k2) h Q = RK ML_law 2193 ls [] (k1, k2) h Q := fun ls h Q => by
    have e : zi v = zi (zi v).toInt := (zi_of _).symm
    rw [e, fL_law_1980 (zi_rng _) (zi_rng _), if_pos rfl]
  refine ⟨G2, L2, r1, hI, (fr b hbX).2, fun Q => ?_⟩
  simp (disch := first | assumption | exact c2_int _ | exact c2_ref _ | exact c2_jk | exact c2_null | omega | exact bI_r _ | exact bI_01 _) only [↓fL_law_1952, ↓fL_law_1952n, ↓fL_law_1953, ↓fL_law_1953n, ↓fL_law_1954, ↓fL_law_1955, ↓fL_law_1956, ↓fL_law_1957, ↓fL_law_1958, ↓fL_law_1958n, ↓fL_law_1959, ↓fL_law_1960, ↓fL_law_1961, ↓fL_law_1962, ↓fL_law_1963, ↓fL_law_1966, ↓fL_law_1966n, ↓fL_law_1967, ↓fL_law_1967n, ↓fL_law_1968, ↓fL_law_1969, ↓fL_law_1970, ↓fL_law_1971, ↓fL_law_1972, ↓fL_law_1972n, ↓fL_law_1973, ↓fL_law_1974, ↓fL_law_1975, ↓fL_law_1976, ↓fL_law_1977, ↓e1, ↓e2, ↓ec]
theorem lc_49 (h : ST E r G L X m n σ a kk nn τ cl ln lv ys st fl tb f1 f2 N Sg) (hk1 : k1 ≤ 600000) (hk2 : k2 ≤ 7302250) (hX : kd E X = 15) (hm : kd E m = 16) (hkb : kd E b = 1 ∨ kd E b = 7) (hbX : b < X) (hi : 0 ≤ i ∧ i + 6 ≤ (le E b : Int)) (hlb : (le E b : Int) ≤ 3072) (hC : ∀ j, I32 (G b j)) : LC E r G L X m b i k1 k2 1985 [] := by
  obtain ⟨G1, r1, G2, L2, v, hI, fr, e1, e2⟩ := ca_fits (v1 := G b (zi (i + 1)).toNatClampNeg) (v2 := G b (zi (i + 2)).toNatClampNeg) (v3 := G b (zi (i + 3)).toNatClampNeg) h (hC _) (hC _) (hC _)
  have hb1 : G1 b = G b := (fr b hbX).1
  have t1 : inr (zi (i + 1)) (le E b) = true := zi_inr (by omega) (by omega)
  have t2 : inr (zi (i + 2)) (le E b) = true := zi_inr (by omega) (by omega)
  have t3 : inr (zi (i + 3)) (le E b) = true := zi_inr (by omega) (by omega)
  rw [← hb1] at e2
  have ec : ∀ ls (h : AH) (Q : AH → Value → Prop), RK ML_law 2023 ls [.int (zi v), .int (zi v)] (k1, k2) h Q = RK ML_law 2193 ls [] (k1, k2) h Q := fun ls h Q => by
    have e : zi v = zi (zi v).toInt := (zi_of _).symm
    rw [e, fL_law_2023 (zi_rng _) (zi_rng _), if_pos rfl]
  refine ⟨G2, L2, r1, hI, (fr b hbX).2, fun Q => ?_⟩
  simp (disch := first | assumption | exact c2_int _ | exact c2_ref _ | exact c2_jk | exact c2_null | omega | exact bI_r _ | exact bI_01 _) only [↓fL_law_1985, ↓fL_law_1985n, ↓fL_law_1986, ↓fL_law_1986n, ↓fL_law_1987, ↓fL_law_1988, ↓fL_law_1989, ↓fL_law_1990, ↓fL_law_1991, ↓fL_law_1991n, ↓fL_law_1992, ↓fL_law_1993, ↓fL_law_1994, ↓fL_law_1995, ↓fL_law_1996, ↓fL_law_1996n, ↓fL_law_1997, ↓fL_law_1998, ↓fL_law_1999, ↓fL_law_2000, ↓fL_law_2001, ↓fL_law_2004, ↓fL_law_2004n, ↓fL_law_2005, ↓fL_law_2005n, ↓fL_law_2006, ↓fL_law_2007, ↓fL_law_2008, ↓fL_law_2009, ↓fL_law_2010, ↓fL_law_2010n, ↓fL_law_2011, ↓fL_law_2012, ↓fL_law_2013, ↓fL_law_2014, ↓fL_law_2015, ↓fL_law_2015n, ↓fL_law_2016, ↓fL_law_2017, ↓fL_law_2018, ↓fL_law_2019, ↓fL_law_2020, ↓e1, ↓e2, ↓ec]
theorem lc_50 (h : ST E r G L X m n σ a kk nn τ cl ln lv ys st fl tb f1 f2 N Sg) (hk1 : k1 ≤ 600000) (hk2 : k2 ≤ 7302250) (hX : kd E X = 15) (hm : kd E m = 16) (hkb : kd E b = 1 ∨ kd E b = 7) (hbX : b < X) (hi : 0 ≤ i ∧ i + 6 ≤ (le E b : Int)) (hlb : (le E b : Int) ≤ 3072) (hC : ∀ j, I32 (G b j)) : LC E r G L X m b i k1 k2 2028 [] := by
  obtain ⟨G1, r1, G2, L2, v, hI, fr, e1, e2⟩ := ca_guess (v1 := G b (zi (i + 1)).toNatClampNeg) h (hC _)
  have hb1 : G1 b = G b := (fr b hbX).1
  have t1 : inr (zi (i + 1)) (le E b) = true := zi_inr (by omega) (by omega)
  rw [← hb1] at e2
  have ec : ∀ ls (h : AH) (Q : AH → Value → Prop), RK ML_law 2046 ls [.int (zi v), .int (zi v)] (k1, k2) h Q = RK ML_law 2193 ls [] (k1, k2) h Q := fun ls h Q => by
    have e : zi v = zi (zi v).toInt := (zi_of _).symm
    rw [e, fL_law_2046 (zi_rng _) (zi_rng _), if_pos rfl]
  refine ⟨G2, L2, r1, hI, (fr b hbX).2, fun Q => ?_⟩
  simp (disch := first | assumption | exact c2_int _ | exact c2_ref _ | exact c2_jk | exact c2_null | omega | exact bI_r _ | exact bI_01 _) only [↓fL_law_2028, ↓fL_law_2028n, ↓fL_law_2029, ↓fL_law_2029n, ↓fL_law_2030, ↓fL_law_2031, ↓fL_law_2032, ↓fL_law_2033, ↓fL_law_2034, ↓fL_law_2037, ↓fL_law_2037n, ↓fL_law_2038, ↓fL_law_2038n, ↓fL_law_2039, ↓fL_law_2040, ↓fL_law_2041, ↓fL_law_2042, ↓fL_law_2043, ↓e1, ↓e2, ↓ec]
theorem lc_51 (h : ST E r G L X m n σ a kk nn τ cl ln lv ys st fl tb f1 f2 N Sg) (hk1 : k1 ≤ 600000) (hk2 : k2 ≤ 7302250) (hX : kd E X = 15) (hm : kd E m = 16) (hkb : kd E b = 1 ∨ kd E b = 7) (hbX : b < X) (hi : 0 ≤ i ∧ i + 6 ≤ (le E b : Int)) (hlb : (le E b : Int) ≤ 3072) (hC : ∀ j, I32 (G b j)) : LC E r G L X m b i k1 k2 2051 [] := by
  obtain ⟨G1, r1, G2, L2, v, hI, fr, e1, e2⟩ := ca_meets (v1 := G b (zi (i + 1)).toNatClampNeg) (v2 := G b (zi (i + 2)).toNatClampNeg) (v3 := G b (zi (i + 3)).toNatClampNeg) (v4 := G b (zi (i + 4)).toNatClampNeg) h (hC _) (hC _) (hC _) (hC _)
  have hb1 : G1 b = G b := (fr b hbX).1
  have t1 : inr (zi (i + 1)) (le E b) = true := zi_inr (by omega) (by omega)
  have t2 : inr (zi (i + 2)) (le E b) = true := zi_inr (by omega) (by omega)
  have t3 : inr (zi (i + 3)) (le E b) = true := zi_inr (by omega) (by omega)
  have t4 : inr (zi (i + 4)) (le E b) = true := zi_inr (by omega) (by omega)
  rw [← hb1] at e2
  have ec : ∀ ls (h : AH) (Q : AH → Value → Prop), RK ML_law 2099 ls [.int (zi v), .int (zi v)] (k1, k2) h Q = RK ML_law 2193 ls [] (k1, k2) h Q := fun ls h Q => by
    have e : zi v = zi (zi v).toInt := (zi_of _).symm
    rw [e, fL_law_2099 (zi_rng _) (zi_rng _), if_pos rfl]
  refine ⟨G2, L2, r1, hI, (fr b hbX).2, fun Q => ?_⟩
  simp (disch := first | assumption | exact c2_int _ | exact c2_ref _ | exact c2_jk | exact c2_null | omega | exact bI_r _ | exact bI_01 _) only [↓fL_law_2051, ↓fL_law_2051n, ↓fL_law_2052, ↓fL_law_2052n, ↓fL_law_2053, ↓fL_law_2054, ↓fL_law_2055, ↓fL_law_2056, ↓fL_law_2057, ↓fL_law_2057n, ↓fL_law_2058, ↓fL_law_2059, ↓fL_law_2060, ↓fL_law_2061, ↓fL_law_2062, ↓fL_law_2062n, ↓fL_law_2063, ↓fL_law_2064, ↓fL_law_2065, ↓fL_law_2066, ↓fL_law_2067, ↓fL_law_2067n, ↓fL_law_2068, ↓fL_law_2069, ↓fL_law_2070, ↓fL_law_2071, ↓fL_law_2072, ↓fL_law_2075, ↓fL_law_2075n, ↓fL_law_2076, ↓fL_law_2076n, ↓fL_law_2077, ↓fL_law_2078, ↓fL_law_2079, ↓fL_law_2080, ↓fL_law_2081, ↓fL_law_2081n, ↓fL_law_2082, ↓fL_law_2083, ↓fL_law_2084, ↓fL_law_2085, ↓fL_law_2086, ↓fL_law_2086n, ↓fL_law_2087, ↓fL_law_2088, ↓fL_law_2089, ↓fL_law_2090, ↓fL_law_2091, ↓fL_law_2091n, ↓fL_law_2092, ↓fL_law_2093, ↓fL_law_2094, ↓fL_law_2095, ↓fL_law_2096, ↓e1, ↓e2, ↓ec]
theorem lc_52 (h : ST E r G L X m n σ a kk nn τ cl ln lv ys st fl tb f1 f2 N Sg) (hk1 : k1 ≤ 600000) (hk2 : k2 ≤ 7302250) (hX : kd E X = 15) (hm : kd E m = 16) (hkb : kd E b = 1 ∨ kd E b = 7) (hbX : b < X) (hi : 0 ≤ i ∧ i + 6 ≤ (le E b : Int)) (hlb : (le E b : Int) ≤ 3072) (hC : ∀ j, I32 (G b j)) : LC E r G L X m b i k1 k2 2104 [] := by
  obtain ⟨G1, r1, G2, L2, v, hI, fr, e1, e2⟩ := ca_apart (v1 := G b (zi (i + 1)).toNatClampNeg) (v2 := G b (zi (i + 2)).toNatClampNeg) (v3 := G b (zi (i + 3)).toNatClampNeg) h (hC _) (hC _) (hC _)
  have hb1 : G1 b = G b := (fr b hbX).1
  have t1 : inr (zi (i + 1)) (le E b) = true := zi_inr (by omega) (by omega)
  have t2 : inr (zi (i + 2)) (le E b) = true := zi_inr (by omega) (by omega)
  have t3 : inr (zi (i + 3)) (le E b) = true := zi_inr (by omega) (by omega)
  rw [← hb1] at e2
  have ec : ∀ ls (h : AH) (Q : AH → Value → Prop), RK ML_law 2142 ls [.int (zi v), .int (zi v)] (k1, k2) h Q = RK ML_law 2193 ls [] (k1, k2) h Q := fun ls h Q => by
    have e : zi v = zi (zi v).toInt := (zi_of _).symm
    rw [e, fL_law_2142 (zi_rng _) (zi_rng _), if_pos rfl]
  refine ⟨G2, L2, r1, hI, (fr b hbX).2, fun Q => ?_⟩
  simp (disch := first | assumption | exact c2_int _ | exact c2_ref _ | exact c2_jk | exact c2_null | omega | exact bI_r _ | exact bI_01 _) only [↓fL_law_2104, ↓fL_law_2104n, ↓fL_law_2105, ↓fL_law_2105n, ↓fL_law_2106, ↓fL_law_2107, ↓fL_law_2108, ↓fL_law_2109, ↓fL_law_2110, ↓fL_law_2110n, ↓fL_law_2111, ↓fL_law_2112, ↓fL_law_2113, ↓fL_law_2114, ↓fL_law_2115, ↓fL_law_2115n, ↓fL_law_2116, ↓fL_law_2117, ↓fL_law_2118, ↓fL_law_2119, ↓fL_law_2120, ↓fL_law_2123, ↓fL_law_2123n, ↓fL_law_2124, ↓fL_law_2124n, ↓fL_law_2125, ↓fL_law_2126, ↓fL_law_2127, ↓fL_law_2128, ↓fL_law_2129, ↓fL_law_2129n, ↓fL_law_2130, ↓fL_law_2131, ↓fL_law_2132, ↓fL_law_2133, ↓fL_law_2134, ↓fL_law_2134n, ↓fL_law_2135, ↓fL_law_2136, ↓fL_law_2137, ↓fL_law_2138, ↓fL_law_2139, ↓e1, ↓e2, ↓ec]
theorem lc_53 (h : ST E r G L X m n σ a kk nn τ cl ln lv ys st fl tb f1 f2 N Sg) (hk1 : k1 ≤ 600000) (hk2 : k2 ≤ 7302250) (hX : kd E X = 15) (hm : kd E m = 16) (hkb : kd E b = 1 ∨ kd E b = 7) (hbX : b < X) (hi : 0 ≤ i ∧ i + 6 ≤ (le E b : Int)) (hlb : (le E b : Int) ≤ 3072) (hC : ∀ j, I32 (G b j)) : LC E r G L X m b i k1 k2 2147 [] := by
  obtain ⟨G1, r1, G2, L2, v, hI, fr, e1, e2⟩ := ca_print (v1 := G b (zi (i + 1)).toNatClampNeg) h (hC _)
  have hb1 : G1 b = G b := (fr b hbX).1
  have t1 : inr (zi (i + 1)) (le E b) = true := zi_inr (by omega) (by omega)
  rw [← hb1] at e2
  have ec : ∀ ls (h : AH) (Q : AH → Value → Prop), RK ML_law 2165 ls [.int (zi v), .int (zi v)] (k1, k2) h Q = RK ML_law 2193 ls [] (k1, k2) h Q := fun ls h Q => by
    have e : zi v = zi (zi v).toInt := (zi_of _).symm
    rw [e, fL_law_2165 (zi_rng _) (zi_rng _), if_pos rfl]
  refine ⟨G2, L2, r1, hI, (fr b hbX).2, fun Q => ?_⟩
  simp (disch := first | assumption | exact c2_int _ | exact c2_ref _ | exact c2_jk | exact c2_null | omega | exact bI_r _ | exact bI_01 _) only [↓fL_law_2147, ↓fL_law_2147n, ↓fL_law_2148, ↓fL_law_2148n, ↓fL_law_2149, ↓fL_law_2150, ↓fL_law_2151, ↓fL_law_2152, ↓fL_law_2153, ↓fL_law_2156, ↓fL_law_2156n, ↓fL_law_2157, ↓fL_law_2157n, ↓fL_law_2158, ↓fL_law_2159, ↓fL_law_2160, ↓fL_law_2161, ↓fL_law_2162, ↓e1, ↓e2, ↓ec]
theorem lc_54 (h : ST E r G L X m n σ a kk nn τ cl ln lv ys st fl tb f1 f2 N Sg) (hk1 : k1 ≤ 600000) (hk2 : k2 ≤ 7302250) (hX : kd E X = 15) (hm : kd E m = 16) (hkb : kd E b = 1 ∨ kd E b = 7) (hbX : b < X) (hi : 0 ≤ i ∧ i + 6 ≤ (le E b : Int)) (hlb : (le E b : Int) ≤ 3072) (hC : ∀ j, I32 (G b j)) : LC E r G L X m b i k1 k2 2170 [] := by
  obtain ⟨G1, r1, G2, L2, v, hI, fr, e1, e2⟩ := ca_out (x := G b (zi (i + 1)).toNatClampNeg) h (hC _)
  have hb1 : G1 b = G b := (fr b hbX).1
  have t1 : inr (zi (i + 1)) (le E b) = true := zi_inr (by omega) (by omega)
  rw [← hb1] at e2
  have ec : ∀ ls (h : AH) (Q : AH → Value → Prop), RK ML_law 2188 ls [.int (zi v), .int (zi v)] (k1, k2) h Q = RK ML_law 2193 ls [] (k1, k2) h Q := fun ls h Q => by
    have e : zi v = zi (zi v).toInt := (zi_of _).symm
    rw [e, fL_law_2188 (zi_rng _) (zi_rng _), if_pos rfl]
  refine ⟨G2, L2, r1, hI, (fr b hbX).2, fun Q => ?_⟩
  simp (disch := first | assumption | exact c2_int _ | exact c2_ref _ | exact c2_jk | exact c2_null | omega | exact bI_r _ | exact bI_01 _) only [↓fL_law_2170, ↓fL_law_2170n, ↓fL_law_2171, ↓fL_law_2171n, ↓fL_law_2172, ↓fL_law_2173, ↓fL_law_2174, ↓fL_law_2175, ↓fL_law_2176, ↓fL_law_2179, ↓fL_law_2179n, ↓fL_law_2180, ↓fL_law_2180n, ↓fL_law_2181, ↓fL_law_2182, ↓fL_law_2183, ↓fL_law_2184, ↓fL_law_2185, ↓e1, ↓e2, ↓ec]
theorem law_sw (h : ST E r G L X m n σ a kk nn τ cl ln lv ys st fl tb f1 f2 N Sg) (hk1 : k1 ≤ 600000) (hk2 : k2 ≤ 7302250) (hX : kd E X = 15) (hm : kd E m = 16) (hkb : kd E b = 1 ∨ kd E b = 7) (hbX : b < X) (hi : 0 ≤ i ∧ i + 6 ≤ (le E b : Int)) (hlb : (le E b : Int) ≤ 3072) (hC : ∀ j, I32 (G b j)) {d : Int} (hd : 0 ≤ d ∧ d ≤ 63) : LC E r G L X m b i k1 k2 33 [.int (zi d)] := by
  have hx : d = 0 ∨ d = 1 ∨ d = 2 ∨ d = 3 ∨ d = 4 ∨ d = 5 ∨ d = 6 ∨ d = 7 ∨ d = 8 ∨ d = 9 ∨ d = 10 ∨ d = 11 ∨ d = 12 ∨ d = 13 ∨ d = 14 ∨ d = 15 ∨ d = 16 ∨ d = 17 ∨ d = 18 ∨ d = 19 ∨ d = 20 ∨ d = 21 ∨ d = 22 ∨ d = 23 ∨ d = 24 ∨ d = 25 ∨ d = 26 ∨ d = 27 ∨ d = 28 ∨ d = 29 ∨ d = 30 ∨ d = 31 ∨ d = 32 ∨ d = 33 ∨ d = 34 ∨ d = 35 ∨ d = 36 ∨ d = 37 ∨ d = 38 ∨ d = 39 ∨ d = 40 ∨ d = 41 ∨ d = 42 ∨ d = 43 ∨ d = 44 ∨ d = 45 ∨ d = 46 ∨ d = 47 ∨ d = 48 ∨ d = 49 ∨ d = 50 ∨ d = 51 ∨ d = 52 ∨ d = 53 ∨ d = 54 ∨ 54 < d := by omega
  rcases hx with rfl | rfl | rfl | rfl | rfl | rfl | rfl | rfl | rfl | rfl | rfl | rfl | rfl | rfl | rfl | rfl | rfl | rfl | rfl | rfl | rfl | rfl | rfl | rfl | rfl | rfl | rfl | rfl | rfl | rfl | rfl | rfl | rfl | rfl | rfl | rfl | rfl | rfl | rfl | rfl | rfl | rfl | rfl | rfl | rfl | rfl | rfl | rfl | rfl | rfl | rfl | rfl | rfl | rfl | rfl | hx
  · obtain ⟨G2, L2, r2, a1, a2, a3⟩ := lc_0 h hk1 hk2 hX hm hkb hbX hi hlb hC
    exact ⟨G2, L2, r2, a1, a2, fun Q => by rw [fL_law_33_0]; exact a3 Q⟩
  · obtain ⟨G2, L2, r2, a1, a2, a3⟩ := lc_1 h hk1 hk2 hX hm hkb hbX hi hlb hC
    exact ⟨G2, L2, r2, a1, a2, fun Q => by rw [fL_law_33_1]; exact a3 Q⟩
  · obtain ⟨G2, L2, r2, a1, a2, a3⟩ := lc_2 h hk1 hk2 hX hm hkb hbX hi hlb hC
    exact ⟨G2, L2, r2, a1, a2, fun Q => by rw [fL_law_33_2]; exact a3 Q⟩
  · obtain ⟨G2, L2, r2, a1, a2, a3⟩ := lc_3 h hk1 hk2 hX hm hkb hbX hi hlb hC
    exact ⟨G2, L2, r2, a1, a2, fun Q => by rw [fL_law_33_3]; exact a3 Q⟩
  · obtain ⟨G2, L2, r2, a1, a2, a3⟩ := lc_4 h hk1 hk2 hX hm hkb hbX hi hlb hC
    exact ⟨G2, L2, r2, a1, a2, fun Q => by rw [fL_law_33_4]; exact a3 Q⟩
  · obtain ⟨G2, L2, r2, a1, a2, a3⟩ := lc_5 h hk1 hk2 hX hm hkb hbX hi hlb hC
    exact ⟨G2, L2, r2, a1, a2, fun Q => by rw [fL_law_33_5]; exact a3 Q⟩
  · obtain ⟨G2, L2, r2, a1, a2, a3⟩ := lc_6 h hk1 hk2 hX hm hkb hbX hi hlb hC
    exact ⟨G2, L2, r2, a1, a2, fun Q => by rw [fL_law_33_6]; exact a3 Q⟩
  · obtain ⟨G2, L2, r2, a1, a2, a3⟩ := lc_7 h hk1 hk2 hX hm hkb hbX hi hlb hC
    exact ⟨G2, L2, r2, a1, a2, fun Q => by rw [fL_law_33_7]; exact a3 Q⟩
  · obtain ⟨G2, L2, r2, a1, a2, a3⟩ := lc_8 h hk1 hk2 hX hm hkb hbX hi hlb hC
    exact ⟨G2, L2, r2, a1, a2, fun Q => by rw [fL_law_33_8]; exact a3 Q⟩
  · obtain ⟨G2, L2, r2, a1, a2, a3⟩ := lc_9 h hk1 hk2 hX hm hkb hbX hi hlb hC
    exact ⟨G2, L2, r2, a1, a2, fun Q => by rw [fL_law_33_9]; exact a3 Q⟩
  · obtain ⟨G2, L2, r2, a1, a2, a3⟩ := lc_10 h hk1 hk2 hX hm hkb hbX hi hlb hC
    exact ⟨G2, L2, r2, a1, a2, fun Q => by rw [fL_law_33_10]; exact a3 Q⟩
  · obtain ⟨G2, L2, r2, a1, a2, a3⟩ := lc_11 h hk1 hk2 hX hm hkb hbX hi hlb hC
    exact ⟨G2, L2, r2, a1, a2, fun Q => by rw [fL_law_33_11]; exact a3 Q⟩
  · obtain ⟨G2, L2, r2, a1, a2, a3⟩ := lc_12 h hk1 hk2 hX hm hkb hbX hi hlb hC
    exact ⟨G2, L2, r2, a1, a2, fun Q => by rw [fL_law_33_12]; exact a3 Q⟩
  · obtain ⟨G2, L2, r2, a1, a2, a3⟩ := lc_13 h hk1 hk2 hX hm hkb hbX hi hlb hC
    exact ⟨G2, L2, r2, a1, a2, fun Q => by rw [fL_law_33_13]; exact a3 Q⟩
  · obtain ⟨G2, L2, r2, a1, a2, a3⟩ := lc_14 h hk1 hk2 hX hm hkb hbX hi hlb hC
    exact ⟨G2, L2, r2, a1, a2, fun Q => by rw [fL_law_33_14]; exact a3 Q⟩
  · obtain ⟨G2, L2, r2, a1, a2, a3⟩ := lc_15 h hk1 hk2 hX hm hkb hbX hi hlb hC
    exact ⟨G2, L2, r2, a1, a2, fun Q => by rw [fL_law_33_15]; exact a3 Q⟩
  · obtain ⟨G2, L2, r2, a1, a2, a3⟩ := lc_16 h hk1 hk2 hX hm hkb hbX hi hlb hC
    exact ⟨G2, L2, r2, a1, a2, fun Q => by rw [fL_law_33_16]; exact a3 Q⟩
  · obtain ⟨G2, L2, r2, a1, a2, a3⟩ := lc_17 h hk1 hk2 hX hm hkb hbX hi hlb hC
    exact ⟨G2, L2, r2, a1, a2, fun Q => by rw [fL_law_33_17]; exact a3 Q⟩
  · obtain ⟨G2, L2, r2, a1, a2, a3⟩ := lc_18 h hk1 hk2 hX hm hkb hbX hi hlb hC
    exact ⟨G2, L2, r2, a1, a2, fun Q => by rw [fL_law_33_18]; exact a3 Q⟩
  · obtain ⟨G2, L2, r2, a1, a2, a3⟩ := lc_19 h hk1 hk2 hX hm hkb hbX hi hlb hC
    exact ⟨G2, L2, r2, a1, a2, fun Q => by rw [fL_law_33_19]; exact a3 Q⟩
  · obtain ⟨G2, L2, r2, a1, a2, a3⟩ := lc_20 h hk1 hk2 hX hm hkb hbX hi hlb hC
    exact ⟨G2, L2, r2, a1, a2, fun Q => by rw [fL_law_33_20]; exact a3 Q⟩
  · obtain ⟨G2, L2, r2, a1, a2, a3⟩ := lc_21 h hk1 hk2 hX hm hkb hbX hi hlb hC
    exact ⟨G2, L2, r2, a1, a2, fun Q => by rw [fL_law_33_21]; exact a3 Q⟩
  · obtain ⟨G2, L2, r2, a1, a2, a3⟩ := lc_22 h hk1 hk2 hX hm hkb hbX hi hlb hC
    exact ⟨G2, L2, r2, a1, a2, fun Q => by rw [fL_law_33_22]; exact a3 Q⟩
  · obtain ⟨G2, L2, r2, a1, a2, a3⟩ := lc_23 h hk1 hk2 hX hm hkb hbX hi hlb hC
    exact ⟨G2, L2, r2, a1, a2, fun Q => by rw [fL_law_33_23]; exact a3 Q⟩
  · obtain ⟨G2, L2, r2, a1, a2, a3⟩ := lc_24 h hk1 hk2 hX hm hkb hbX hi hlb hC
    exact ⟨G2, L2, r2, a1, a2, fun Q => by rw [fL_law_33_24]; exact a3 Q⟩
  · obtain ⟨G2, L2, r2, a1, a2, a3⟩ := lc_25 h hk1 hk2 hX hm hkb hbX hi hlb hC
    exact ⟨G2, L2, r2, a1, a2, fun Q => by rw [fL_law_33_25]; exact a3 Q⟩
  · obtain ⟨G2, L2, r2, a1, a2, a3⟩ := lc_26 h hk1 hk2 hX hm hkb hbX hi hlb hC
    exact ⟨G2, L2, r2, a1, a2, fun Q => by rw [fL_law_33_26]; exact a3 Q⟩
  · obtain ⟨G2, L2, r2, a1, a2, a3⟩ := lc_27 h hk1 hk2 hX hm hkb hbX hi hlb hC
    exact ⟨G2, L2, r2, a1, a2, fun Q => by rw [fL_law_33_27]; exact a3 Q⟩
  · obtain ⟨G2, L2, r2, a1, a2, a3⟩ := lc_28 h hk1 hk2 hX hm hkb hbX hi hlb hC
    exact ⟨G2, L2, r2, a1, a2, fun Q => by rw [fL_law_33_28]; exact a3 Q⟩
  · obtain ⟨G2, L2, r2, a1, a2, a3⟩ := lc_29 h hk1 hk2 hX hm hkb hbX hi hlb hC
    exact ⟨G2, L2, r2, a1, a2, fun Q => by rw [fL_law_33_29]; exact a3 Q⟩
  · obtain ⟨G2, L2, r2, a1, a2, a3⟩ := lc_30 h hk1 hk2 hX hm hkb hbX hi hlb hC
    exact ⟨G2, L2, r2, a1, a2, fun Q => by rw [fL_law_33_30]; exact a3 Q⟩
  · obtain ⟨G2, L2, r2, a1, a2, a3⟩ := lc_31 h hk1 hk2 hX hm hkb hbX hi hlb hC
    exact ⟨G2, L2, r2, a1, a2, fun Q => by rw [fL_law_33_31]; exact a3 Q⟩
  · obtain ⟨G2, L2, r2, a1, a2, a3⟩ := lc_32 h hk1 hk2 hX hm hkb hbX hi hlb hC
    exact ⟨G2, L2, r2, a1, a2, fun Q => by rw [fL_law_33_32]; exact a3 Q⟩
  · obtain ⟨G2, L2, r2, a1, a2, a3⟩ := lc_33 h hk1 hk2 hX hm hkb hbX hi hlb hC
    exact ⟨G2, L2, r2, a1, a2, fun Q => by rw [fL_law_33_33]; exact a3 Q⟩
  · obtain ⟨G2, L2, r2, a1, a2, a3⟩ := lc_34 h hk1 hk2 hX hm hkb hbX hi hlb hC
    exact ⟨G2, L2, r2, a1, a2, fun Q => by rw [fL_law_33_34]; exact a3 Q⟩
  · obtain ⟨G2, L2, r2, a1, a2, a3⟩ := lc_35 h hk1 hk2 hX hm hkb hbX hi hlb hC
    exact ⟨G2, L2, r2, a1, a2, fun Q => by rw [fL_law_33_35]; exact a3 Q⟩
  · obtain ⟨G2, L2, r2, a1, a2, a3⟩ := lc_36 h hk1 hk2 hX hm hkb hbX hi hlb hC
    exact ⟨G2, L2, r2, a1, a2, fun Q => by rw [fL_law_33_36]; exact a3 Q⟩
  · obtain ⟨G2, L2, r2, a1, a2, a3⟩ := lc_37 h hk1 hk2 hX hm hkb hbX hi hlb hC
    exact ⟨G2, L2, r2, a1, a2, fun Q => by rw [fL_law_33_37]; exact a3 Q⟩
  · obtain ⟨G2, L2, r2, a1, a2, a3⟩ := lc_38 h hk1 hk2 hX hm hkb hbX hi hlb hC
    exact ⟨G2, L2, r2, a1, a2, fun Q => by rw [fL_law_33_38]; exact a3 Q⟩
  · obtain ⟨G2, L2, r2, a1, a2, a3⟩ := lc_39 h hk1 hk2 hX hm hkb hbX hi hlb hC
    exact ⟨G2, L2, r2, a1, a2, fun Q => by rw [fL_law_33_39]; exact a3 Q⟩
  · obtain ⟨G2, L2, r2, a1, a2, a3⟩ := lc_40 h hk1 hk2 hX hm hkb hbX hi hlb hC
    exact ⟨G2, L2, r2, a1, a2, fun Q => by rw [fL_law_33_40]; exact a3 Q⟩
  · obtain ⟨G2, L2, r2, a1, a2, a3⟩ := lc_41 h hk1 hk2 hX hm hkb hbX hi hlb hC
    exact ⟨G2, L2, r2, a1, a2, fun Q => by rw [fL_law_33_41]; exact a3 Q⟩
  · obtain ⟨G2, L2, r2, a1, a2, a3⟩ := lc_42 h hk1 hk2 hX hm hkb hbX hi hlb hC
    exact ⟨G2, L2, r2, a1, a2, fun Q => by rw [fL_law_33_42]; exact a3 Q⟩
  · obtain ⟨G2, L2, r2, a1, a2, a3⟩ := lc_43 h hk1 hk2 hX hm hkb hbX hi hlb hC
    exact ⟨G2, L2, r2, a1, a2, fun Q => by rw [fL_law_33_43]; exact a3 Q⟩
  · obtain ⟨G2, L2, r2, a1, a2, a3⟩ := lc_44 h hk1 hk2 hX hm hkb hbX hi hlb hC
    exact ⟨G2, L2, r2, a1, a2, fun Q => by rw [fL_law_33_44]; exact a3 Q⟩
  · obtain ⟨G2, L2, r2, a1, a2, a3⟩ := lc_45 h hk1 hk2 hX hm hkb hbX hi hlb hC
    exact ⟨G2, L2, r2, a1, a2, fun Q => by rw [fL_law_33_45]; exact a3 Q⟩
  · obtain ⟨G2, L2, r2, a1, a2, a3⟩ := lc_46 h hk1 hk2 hX hm hkb hbX hi hlb hC
    exact ⟨G2, L2, r2, a1, a2, fun Q => by rw [fL_law_33_46]; exact a3 Q⟩
  · obtain ⟨G2, L2, r2, a1, a2, a3⟩ := lc_47 h hk1 hk2 hX hm hkb hbX hi hlb hC
    exact ⟨G2, L2, r2, a1, a2, fun Q => by rw [fL_law_33_47]; exact a3 Q⟩
  · obtain ⟨G2, L2, r2, a1, a2, a3⟩ := lc_48 h hk1 hk2 hX hm hkb hbX hi hlb hC
    exact ⟨G2, L2, r2, a1, a2, fun Q => by rw [fL_law_33_48]; exact a3 Q⟩
  · obtain ⟨G2, L2, r2, a1, a2, a3⟩ := lc_49 h hk1 hk2 hX hm hkb hbX hi hlb hC
    exact ⟨G2, L2, r2, a1, a2, fun Q => by rw [fL_law_33_49]; exact a3 Q⟩
  · obtain ⟨G2, L2, r2, a1, a2, a3⟩ := lc_50 h hk1 hk2 hX hm hkb hbX hi hlb hC
    exact ⟨G2, L2, r2, a1, a2, fun Q => by rw [fL_law_33_50]; exact a3 Q⟩
  · obtain ⟨G2, L2, r2, a1, a2, a3⟩ := lc_51 h hk1 hk2 hX hm hkb hbX hi hlb hC
    exact ⟨G2, L2, r2, a1, a2, fun Q => by rw [fL_law_33_51]; exact a3 Q⟩
  · obtain ⟨G2, L2, r2, a1, a2, a3⟩ := lc_52 h hk1 hk2 hX hm hkb hbX hi hlb hC
    exact ⟨G2, L2, r2, a1, a2, fun Q => by rw [fL_law_33_52]; exact a3 Q⟩
  · obtain ⟨G2, L2, r2, a1, a2, a3⟩ := lc_53 h hk1 hk2 hX hm hkb hbX hi hlb hC
    exact ⟨G2, L2, r2, a1, a2, fun Q => by rw [fL_law_33_53]; exact a3 Q⟩
  · obtain ⟨G2, L2, r2, a1, a2, a3⟩ := lc_54 h hk1 hk2 hX hm hkb hbX hi hlb hC
    exact ⟨G2, L2, r2, a1, a2, fun Q => by rw [fL_law_33_54]; exact a3 Q⟩
  · exact ⟨G, L, r, ⟨n, σ, a, kk, nn, τ, cl, ln, lv, ys, st, fl, tb, f1, f2, N, Sg, h.2⟩, rfl, fun Q => by rw [fL_law_33_d (by omega) (Or.inr hx)]⟩
theorem law_loop (hXm : X + 130 ≤ m) (hk1 : k1 ≤ 600000) (hk2 : k2 ≤ 7302250) (hX : kd E X = 15) (hm : kd E m = 16) (hkb : kd E b = 1 ∨ kd E b = 7) (hbX : b < X) (hlb : (le E b : Int) ≤ 3072) : ∀ (f : Nat) (i : Int) (G L : Nat → Nat → Int) (r : Nat → Nat → Option Nat), 0 ≤ i → i ≤ 4000 → (le E b : Int) - i ≤ f → IV E r G L X m → (∀ j, I32 (G b j)) → RK ML_law 18 [.ref b, .ref X, .ref m, .int (zi i)] [] (k1, k2) (E, zg G, zk L, r) (fun _ v => v = .int 1) := by
  have hk17 : 1 ≤ kd E b ∧ kd E b ≤ 7 := by omega
  have stop : ∀ (i : Int) (G L : Nat → Nat → Int) (r : Nat → Nat → Option Nat), 0 ≤ i → i ≤ 4000 → ¬ i ≤ (le E b : Int) - 6 → RK ML_law 18 [.ref b, .ref X, .ref m, .int (zi i)] [] (k1, k2) (E, zg G, zk L, r) (fun _ v => v = .int 1) := fun i G L r h0 h1 h2 => by
    rw [fL_law_18, fL_law_19, fL_law_20 hk17, fL_law_21, fL_law_23, fL_law_24 (by omega) (by omega), if_neg h2, fL_law_2199, fL_law_2200 (Or.inr rfl)]
    show Value.int (zi 1) = .int 1
    exact congrArg Value.int (by decide)
  intro f
  induction f with
  | zero =>
    intro i G L r h0 h1 h2 hI hC
    exact stop i G L r h0 h1 (by omega)
  | succ f ih =>
    intro i G L r h0 h1 h2 hI hC
    by_cases c : i ≤ (le E b : Int) - 6
    · obtain ⟨n, σ, a, kk, nn, τ, cl, ln, lv, ys, st, fl, tb, f1, f2, N, Sg, hS⟩ := hI
      obtain ⟨d, hd, ed⟩ := and63 (zi (G b (zi i).toNatClampNeg))
      have ti : inr (zi i) (le E b) = true := zi_inr (by omega) (by omega)
      obtain ⟨G2, L2, r2, a1, a2, a3⟩ := law_sw ⟨hXm, hS⟩ hk1 hk2 hX hm hkb hbX ⟨h0, by omega⟩ hlb hC hd
      rw [fL_law_18, fL_law_19, fL_law_20 hk17, fL_law_21, fL_law_23, fL_law_24 (by omega) (by omega), if_pos c, fL_law_27, fL_law_28, fL_law_29 hkb ti, fL_law_30, fL_law_32, ed, a3, fL_law_2193 (c2_ref _), fL_law_2196]
      exact ih (i + 6) G2 L2 r2 (by omega) (by omega) (by omega) a1 (by rw [a2]; exact hC)
    · exact stop i G L r h0 h1 c
end LW
