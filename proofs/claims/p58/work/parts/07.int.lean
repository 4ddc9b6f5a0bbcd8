/-! the same over whole numbers: zi, zl put an Int into 32, 64 bits; zg, zk a heap of Ints -/
def zi (z : Int) : Int32 := Int32.ofInt z
def zl (z : Int) : Int64 := Int64.ofInt z
def zg (G : Nat → Nat → Int) : Nat → Nat → Int32 := fun a i => zi (G a i)
def zk (G : Nat → Nat → Int) : Nat → Nat → Int64 := fun a i => zl (G a i)
theorem zi_t {z : Int} (h : -2147483648 ≤ z ∧ z < 2147483648) : (zi z).toInt = z := Int32.toInt_ofInt_of_le (by have := h.1; omega) (by have := h.2; omega)
theorem zl_t {z : Int} (h : -9223372036854775808 ≤ z ∧ z < 9223372036854775808) : (zl z).toInt = z := Int64.toInt_ofInt_of_le (by have := h.1; omega) (by have := h.2; omega)
theorem zi_of (x : Int32) : zi x.toInt = x := Int32.ofInt_toInt x
theorem zl_of (x : Int64) : zl x.toInt = x := Int64.ofInt_toInt x
theorem zi_rng (x : Int32) : -2147483648 ≤ x.toInt ∧ x.toInt < 2147483648 := ⟨by have := Int32.minValue_le_toInt x; simpa using this, by have := Int32.toInt_lt x; simpa using this⟩
theorem zi_ex (x : Int32) : ∃ z : Int, (-2147483648 ≤ z ∧ z < 2147483648) ∧ x = zi z := ⟨x.toInt, zi_rng x, (zi_of x).symm⟩
theorem zi_add (x y : Int) : zi x + zi y = zi (x + y) := (Int32.ofInt_add x y).symm
theorem zi_sub (x y : Int) : zi x - zi y = zi (x - y) := (Int32.ofInt_sub x y).symm
theorem zi_mul (x y : Int) : zi x * zi y = zi (x * y) := (Int32.ofInt_mul x y).symm
theorem zi_neg (x : Int) : -zi x = zi (-x) := (Int32.ofInt_neg x).symm
theorem zl_add (x y : Int) : zl x + zl y = zl (x + y) := (Int64.ofInt_add x y).symm
theorem zl_sub (x y : Int) : zl x - zl y = zl (x - y) := (Int64.ofInt_sub x y).symm
theorem zl_mul (x y : Int) : zl x * zl y = zl (x * y) := (Int64.ofInt_mul x y).symm
theorem zi_lt {x y : Int} (hx : -2147483648 ≤ x ∧ x < 2147483648) (hy : -2147483648 ≤ y ∧ y < 2147483648) : (zi x < zi y) = (x < y) := by
  rw [Int32.lt_iff_toInt_lt, zi_t hx, zi_t hy]
theorem zi_le {x y : Int} (hx : -2147483648 ≤ x ∧ x < 2147483648) (hy : -2147483648 ≤ y ∧ y < 2147483648) : (zi x ≤ zi y) = (x ≤ y) := by
  rw [Int32.le_iff_toInt_le, zi_t hx, zi_t hy]
theorem zi_eq {x y : Int} (hx : -2147483648 ≤ x ∧ x < 2147483648) (hy : -2147483648 ≤ y ∧ y < 2147483648) : (zi x = zi y) = (x = y) := by
  rw [← Int32.toInt_inj, zi_t hx, zi_t hy]
theorem zl_lt {x y : Int} (hx : -9223372036854775808 ≤ x ∧ x < 9223372036854775808) (hy : -9223372036854775808 ≤ y ∧ y < 9223372036854775808) : (zl x < zl y) = (x < y) := by
  rw [Int64.lt_iff_toInt_lt, zl_t hx, zl_t hy]
theorem zl_eq {x y : Int} (hx : -9223372036854775808 ≤ x ∧ x < 9223372036854775808) (hy : -9223372036854775808 ≤ y ∧ y < 9223372036854775808) : (zl x = zl y) = (x = y) := by
  rw [← Int64.toInt_inj, zl_t hx, zl_t hy]
theorem zi_0 : (0 : Int32) = zi 0 := by decide
theorem zl_0 : (0 : Int64) = zl 0 := by decide
theorem zi_m1 : (-1 : Int32) = zi (-1) := by decide
theorem zi_n (n : Nat) : nI n = zi (n : Int) := (Int32.ofInt_eq_ofNat).symm
theorem zi_cl {x : Int} (h : 0 ≤ x ∧ x < 2147483648) : (zi x).toNatClampNeg = x.toNat := by
  show (zi x).toInt.toNat = x.toNat
  rw [zi_t ⟨by omega, h.2⟩]
theorem zi_inr {x : Int} {n : Nat} (h : 0 ≤ x ∧ x < n) (hn : (n : Int) ≤ 2147483647) : inr (zi x) n = true := by
  unfold inr
  rw [zi_cl ⟨h.1, by omega⟩, zi_0, show decide (zi x < zi 0) = false from by rw [decide_eq_false_iff_not, zi_lt ⟨by omega, by omega⟩ ⟨by decide, by decide⟩]; omega]
  simp
  omega
theorem zi_div {x y : Int} (hx : 0 ≤ x ∧ x < 2147483648) (hy : 0 < y ∧ y < 2147483648) : zi x / zi y = zi (x / y) := by
  apply Int32.toInt_inj.mp
  have h1 : 0 ≤ x / y := Int.ediv_nonneg hx.1 (by omega)
  have h2 : x / y ≤ x := Int.ediv_le_self _ hx.1
  rw [Int32.toInt_div_of_ne_right _ _ (by rw [zi_m1, ne_eq, zi_eq ⟨by omega, by omega⟩ ⟨by decide, by decide⟩]; omega), zi_t ⟨by omega, hx.2⟩, zi_t ⟨by omega, hy.2⟩, zi_t ⟨by omega, by omega⟩, Int.tdiv_eq_ediv_of_nonneg hx.1]
theorem zi_rem {x y : Int} (hx : 0 ≤ x ∧ x < 2147483648) (hy : 0 < y ∧ y < 2147483648) : zi x - zi x / zi y * zi y = zi (x % y) := by
  rw [zi_div hx hy, zi_mul, zi_sub, Int.emod_def, Int.mul_comm]
theorem zl_div {x y : Int} (hx : 0 ≤ x ∧ x < 9223372036854775808) (hy : 0 < y ∧ y < 9223372036854775808) : zl x / zl y = zl (x / y) := by
  apply Int64.toInt_inj.mp
  have h1 : 0 ≤ x / y := Int.ediv_nonneg hx.1 (by omega)
  have h2 : x / y ≤ x := Int.ediv_le_self _ hx.1
  have hm : (-1 : Int64) = zl (-1) := by decide
  rw [Int64.toInt_div_of_ne_right _ _ (by rw [hm, ne_eq, zl_eq ⟨by omega, by omega⟩ ⟨by decide, by decide⟩]; omega), zl_t ⟨by omega, hx.2⟩, zl_t ⟨by omega, hy.2⟩, zl_t ⟨by omega, by omega⟩, Int.tdiv_eq_ediv_of_nonneg hx.1]
theorem zl_rem {x y : Int} (hx : 0 ≤ x ∧ x < 9223372036854775808) (hy : 0 < y ∧ y < 9223372036854775808) : zl x - zl x / zl y * zl y = zl (x % y) := by
  rw [zl_div hx hy, zl_mul, zl_sub, Int.emod_def, Int.mul_comm]
theorem zi_l {x : Int} (h : -2147483648 ≤ x ∧ x < 2147483648) : (zi x).toInt64 = zl x := by
  apply Int64.toInt_inj.mp
  rw [Int32.toInt_toInt64, zi_t h, zl_t ⟨by omega, by omega⟩]
theorem zl_i (x : Int) : (zl x).toInt32 = zi x := Int64.toInt32_ofInt
theorem zg_u (G : Nat → Nat → Int) (a i : Nat) (x : Int) : u2 (zg G) a i (zi x) = zg (u2 G a i x) := by
  funext b j
  unfold u2 zg
  by_cases h : b = a ∧ j = i
  · rw [if_pos h]; simp [h]
  · rw [if_neg h]; simp [h]
theorem zk_u (G : Nat → Nat → Int) (a i : Nat) (x : Int) : u2 (zk G) a i (zl x) = zk (u2 G a i x) := by
  funext b j
  unfold u2 zk
  by_cases h : b = a ∧ j = i
  · rw [if_pos h]; simp [h]
  · rw [if_neg h]; simp [h]
theorem zg_0 (G : Nat → Nat → Int) (a : Nat) : u1 (zg G) a (fun _ => 0) = zg (u1 G a (fun _ => 0)) := by
  funext b j
  unfold u1 zg
  by_cases h : b = a
  · rw [if_pos h]; simp [h, zi_0]
  · rw [if_neg h]; simp [h]
theorem zk_0 (G : Nat → Nat → Int) (a : Nat) : u1 (zk G) a (fun _ => 0) = zk (u1 G a (fun _ => 0)) := by
  funext b j
  unfold u1 zk
  by_cases h : b = a
  · rw [if_pos h]; simp [h, zl_0]
  · rw [if_neg h]; simp [h]
theorem zb_nar {x : Int} (h : x = 0 ∨ x = 1) : narrow .boolean (.int (zi x)) = .int (zi x) := by
  rcases h with rfl | rfl <;> decide
theorem zb_nar8 {x : Int} (h : x = 0 ∨ x = 1) : narrow .byte (.int (zi x)) = .int (zi x) := by
  rcases h with rfl | rfl <;> decide
theorem zc_all : ∀ n : Nat, n < 256 → narrow .char (.int (nI n)) = .int (nI n) := by decide +kernel
theorem zc_nar {x : Int} (h : 0 ≤ x ∧ x < 256) : narrow .char (.int (zi x)) = .int (zi x) := by
  have e := zc_all x.toNat (by omega)
  rw [zi_n, Int.toNat_of_nonneg h.1] at e
  exact e
theorem zy_all : ∀ n : Nat, n < 128 → vp_nar .byte (nI n) = nI n ∧ (nI n).toInt8.toInt32 = nI n := by decide +kernel
theorem zy_nar {x : Int} (h : 0 ≤ x ∧ x < 128) : vp_nar .byte (zi x) = zi x := by
  have e := (zy_all x.toNat (by omega)).1
  rw [zi_n, Int.toNat_of_nonneg h.1] at e
  exact e
theorem zy_8 {x : Int} (h : 0 ≤ x ∧ x < 128) : (zi x).toInt8.toInt32 = zi x := by
  have e := (zy_all x.toNat (by omega)).2
  rw [zi_n, Int.toNat_of_nonneg h.1] at e
  exact e
theorem zx_all : ∀ n : Nat, n < 256 → (nI n &&& 255) = nI n ∧ ((nI n).toUInt32 % 65536).toInt32 = nI n := by decide +kernel
theorem zx_and {x : Int} (h : 0 ≤ x ∧ x < 256) : (zi x &&& zi 255) = zi x := by
  have e := (zx_all x.toNat (by omega)).1
  rw [zi_n, Int.toNat_of_nonneg h.1] at e
  exact e
theorem zx_chr {x : Int} (h : 0 ≤ x ∧ x < 256) : ((zi x).toUInt32 % 65536).toInt32 = zi x := by
  have e := (zx_all x.toNat (by omega)).2
  rw [zi_n, Int.toNat_of_nonneg h.1] at e
  exact e
theorem zx_shr (x : Int32) : x >>> (zi 0 &&& 31) = x := by
  rw [show (zi 0 &&& 31) = 0 from by decide]
  exact Int32.shiftRight_zero
theorem zx_shl (x : Int32) : x <<< (zi 0 &&& 31) = x := by
  rw [show (zi 0 &&& 31) = 0 from by decide]
  exact Int32.shiftLeft_zero
theorem zi_ndiv {x y : Int} (hx : -2147483648 < x ∧ x ≤ 0) (hy : 0 < y ∧ y < 2147483648) : zi x / zi y = zi (-(-x / y)) := by
  have h1 : 0 ≤ -x / y := Int.ediv_nonneg (by omega) (by omega)
  have h2 : -x / y ≤ -x := Int.ediv_le_self _ (by omega)
  apply Int32.toInt_inj.mp
  rw [Int32.toInt_div_of_ne_right _ _ (by rw [zi_m1, ne_eq, zi_eq ⟨by omega, by omega⟩ ⟨by decide, by decide⟩]; omega), zi_t ⟨by omega, by omega⟩, zi_t ⟨by omega, hy.2⟩, zi_t ⟨by omega, by omega⟩]
  have e : x = -(-x) := by omega
  rw [e, Int.neg_tdiv, Int.tdiv_eq_ediv_of_nonneg (by omega), Int.neg_neg]
/-- System.arraycopy over a heap of Ints -/
def cpG (G : Nat → Nat → Int) (a b : Nat) (x y z : Int) : Nat → Nat → Int := u1 G b (fun j => if y.toNat ≤ j ∧ j < y.toNat + z.toNat then G a (x.toNat + (j - y.toNat)) else G b j)
theorem zg_1 (G : Nat → Nat → Int) (a : Nat) (f : Nat → Int) : u1 (zg G) a (fun j => zi (f j)) = zg (u1 G a f) := by
  funext b j
  unfold u1 zg
  by_cases h : b = a
  · rw [if_pos h]; simp [h]
  · rw [if_neg h]; simp [h]
theorem zg_cp (G : Nat → Nat → Int) (a b : Nat) (x y z : Int) : u1 (zg G) b (cpy (zg G a) (zg G b) x.toNat y.toNat z.toNat) = zg (cpG G a b x y z) := by
  unfold cpG
  rw [← zg_1]
  congr 1
  funext j
  unfold cpy zg
  split <;> rfl
section ZI
variable {M M' : MI} {pc t i c f q len j : Nat} {ls st : List Value} {k : Nat × Nat} {h : AH} {Q : AH → Value → Prop} {b : ByteArray} {off : Int} {x y z : Int} {a a2 : Nat} {E : AE} {G L : Nat → Nat → Int} {r : Nat → Nat → Option Nat} {ty : FieldType}
theorem ZI_add (d : decode b pc = .ok (.iadd, 1)) (hb : m_b M = b) : RK M pc ls (.int (zi y) :: .int (zi x) :: st) k h Q = RK M (pc + 1) ls (.int (zi (x + y)) :: st) k h Q := by
  rw [← zi_add]; exact RK_n (stp_of d hb _ _ _ _)
theorem ZI_sub (d : decode b pc = .ok (.isub, 1)) (hb : m_b M = b) : RK M pc ls (.int (zi y) :: .int (zi x) :: st) k h Q = RK M (pc + 1) ls (.int (zi (x - y)) :: st) k h Q := by
  rw [← zi_sub]; exact RK_n (stp_of d hb _ _ _ _)
theorem ZI_mul (d : decode b pc = .ok (.imul, 1)) (hb : m_b M = b) : RK M pc ls (.int (zi y) :: .int (zi x) :: st) k h Q = RK M (pc + 1) ls (.int (zi (x * y)) :: st) k h Q := by
  rw [← zi_mul]; exact RK_n (stp_of d hb _ _ _ _)
theorem ZI_neg (d : decode b pc = .ok (.ineg, 1)) (hb : m_b M = b) : RK M pc ls (.int (zi x) :: st) k h Q = RK M (pc + 1) ls (.int (zi (-x)) :: st) k h Q := by
  rw [← zi_neg]; exact RK_n (stp_of d hb _ _ _ _)
theorem ZI_div (d : decode b pc = .ok (.idiv, 1)) (hb : m_b M = b) (hx : 0 ≤ x ∧ x < 2147483648) (hy : 0 < y ∧ y < 2147483648) : RK M pc ls (.int (zi y) :: .int (zi x) :: st) k h Q = RK M (pc + 1) ls (.int (zi (x / y)) :: st) k h Q := by
  rw [← zi_div hx hy]
  exact RK_n ((stp_of d hb _ _ _ _).trans (if_neg (by rw [zi_0, zi_eq ⟨by omega, by omega⟩ ⟨by decide, by decide⟩]; omega)))
theorem ZI_rem (d : decode b pc = .ok (.irem, 1)) (hb : m_b M = b) (hx : 0 ≤ x ∧ x < 2147483648) (hy : 0 < y ∧ y < 2147483648) : RK M pc ls (.int (zi y) :: .int (zi x) :: st) k h Q = RK M (pc + 1) ls (.int (zi (x % y)) :: st) k h Q := by
  rw [← zi_rem hx hy]
  exact RK_n ((stp_of d hb _ _ _ _).trans (if_neg (by rw [zi_0, zi_eq ⟨by omega, by omega⟩ ⟨by decide, by decide⟩]; omega)))
theorem ZL_add (d : decode b pc = .ok (.ladd, 1)) (hb : m_b M = b) : RK M pc ls (.long (zl y) :: .long (zl x) :: st) k h Q = RK M (pc + 1) ls (.long (zl (x + y)) :: st) k h Q := by
  rw [← zl_add]; exact RK_n (stp_of d hb _ _ _ _)
theorem ZL_sub (d : decode b pc = .ok (.lsub, 1)) (hb : m_b M = b) : RK M pc ls (.long (zl y) :: .long (zl x) :: st) k h Q = RK M (pc + 1) ls (.long (zl (x - y)) :: st) k h Q := by
  rw [← zl_sub]; exact RK_n (stp_of d hb _ _ _ _)
theorem ZL_mul (d : decode b pc = .ok (.lmul, 1)) (hb : m_b M = b) : RK M pc ls (.long (zl y) :: .long (zl x) :: st) k h Q = RK M (pc + 1) ls (.long (zl (x * y)) :: st) k h Q := by
  rw [← zl_mul]; exact RK_n (stp_of d hb _ _ _ _)
theorem ZL_div (d : decode b pc = .ok (.ldiv, 1)) (hb : m_b M = b) (hx : 0 ≤ x ∧ x < 9223372036854775808) (hy : 0 < y ∧ y < 9223372036854775808) : RK M pc ls (.long (zl y) :: .long (zl x) :: st) k h Q = RK M (pc + 1) ls (.long (zl (x / y)) :: st) k h Q := by
  rw [← zl_div hx hy]
  exact RK_n ((stp_of d hb _ _ _ _).trans (if_neg (by rw [zl_0, zl_eq ⟨by omega, by omega⟩ ⟨by decide, by decide⟩]; omega)))
theorem ZL_rem (d : decode b pc = .ok (.lrem, 1)) (hb : m_b M = b) (hx : 0 ≤ x ∧ x < 9223372036854775808) (hy : 0 < y ∧ y < 9223372036854775808) : RK M pc ls (.long (zl y) :: .long (zl x) :: st) k h Q = RK M (pc + 1) ls (.long (zl (x % y)) :: st) k h Q := by
  rw [← zl_rem hx hy]
  exact RK_n ((stp_of d hb _ _ _ _).trans (if_neg (by rw [zl_0, zl_eq ⟨by omega, by omega⟩ ⟨by decide, by decide⟩]; omega)))
theorem ZI_l (d : decode b pc = .ok (.i2l, 1)) (hb : m_b M = b) (hx : -2147483648 ≤ x ∧ x < 2147483648) : RK M pc ls (.int (zi x) :: st) k h Q = RK M (pc + 1) ls (.long (zl x) :: st) k h Q := by
  rw [← zi_l hx]; exact RK_n (stp_of d hb _ _ _ _)
theorem ZL_i (d : decode b pc = .ok (.l2i, 1)) (hb : m_b M = b) : RK M pc ls (.long (zl x) :: st) k h Q = RK M (pc + 1) ls (.int (zi x) :: st) k h Q := by
  rw [← zl_i]; exact RK_n (stp_of d hb _ _ _ _)
theorem ZI_getI (d : decode b pc = .ok (.getfield i, 3)) (hb : m_b M = b) (hl : fl (m_own M) i = some (c, f)) (ht : fty c f = 0) (hk : kd E a = 10 + c) : RK M pc ls (.ref a :: st) k (E, zg G, zk L, r) Q = RK M (pc + 3) ls (.int (zi (G a f)) :: st) k (E, zg G, zk L, r) Q := RK_getI d hb hl ht hk
theorem ZI_getIs (d : decode b pc = .ok (.getfield i, 3)) (hb : m_b M = b) (hl : fl (m_own M) i = some (c, f)) (ht : fty c f = 0) (hk : kd E a = 10 + c ∨ c = 6 ∧ kd E a = 18 ∧ f < 2) : RK M pc ls (.ref a :: st) k (E, zg G, zk L, r) Q = RK M (pc + 3) ls (.int (zi (G a f)) :: st) k (E, zg G, zk L, r) Q := RK_getIs d hb hl ht hk
theorem ZI_getL (d : decode b pc = .ok (.getfield i, 3)) (hb : m_b M = b) (hl : fl (m_own M) i = some (c, f)) (ht : fty c f = 1) (hk : kd E a = 10 + c) : RK M pc ls (.ref a :: st) k (E, zg G, zk L, r) Q = RK M (pc + 3) ls (.long (zl (L a f)) :: st) k (E, zg G, zk L, r) Q := RK_getL d hb hl ht hk
theorem ZI_putI (d : decode b pc = .ok (.putfield i, 3)) (hb : m_b M = b) (hl : fl (m_own M) i = some (c, f)) (ht : fty c f = 0) (hk : kd E a = 10 + c) (hf : (TO c f).2.2.2 = false ∨ (m_y M).name = "<init>" ∧ (TO c f).1 = RN (m_own M)) (hn : narrow (tyO c f) (.int (zi x)) = .int (zi x)) : RK M pc ls (.int (zi x) :: .ref a :: st) k (E, zg G, zk L, r) Q = RK M (pc + 3) ls st k (E, zg (u2 G a f x), zk L, r) Q := by
  rw [← zg_u]; exact RK_putI d hb hl ht hk hf hn
theorem ZI_putL (d : decode b pc = .ok (.putfield i, 3)) (hb : m_b M = b) (hl : fl (m_own M) i = some (c, f)) (ht : fty c f = 1) (hk : kd E a = 10 + c) (hf : (TO c f).2.2.2 = false ∨ (m_y M).name = "<init>" ∧ (TO c f).1 = RN (m_own M)) : RK M pc ls (.long (zl x) :: .ref a :: st) k (E, zg G, zk L, r) Q = RK M (pc + 3) ls st k (E, zg G, zk (u2 L a f x), r) Q := by
  rw [← zk_u]; exact RK_putL d hb hl ht hk hf
theorem ZI_ald (d : decode b pc = .ok (.iaload, 1)) (hb : m_b M = b) (hk : kd E a = 1) (hx : 0 ≤ x ∧ x < (le E a : Int)) (hn : (le E a : Int) ≤ 2147483647) : RK M pc ls (.int (zi x) :: .ref a :: st) k (E, zg G, zk L, r) Q = RK M (pc + 1) ls (.int (zi (G a x.toNat)) :: st) k (E, zg G, zk L, r) Q := by
  have e0 : RK M pc ls (.int (zi x) :: .ref a :: st) k (E, zg G, zk L, r) Q = RK M (pc + 1) ls (.int (zi (G a (zi x).toNatClampNeg)) :: st) k (E, zg G, zk L, r) Q := RK_n ((stp_of d hb _ _ _ _).trans (if_pos ⟨Or.inl hk, zi_inr hx hn⟩))
  rw [e0, zi_cl ⟨hx.1, by omega⟩]
theorem ZI_ast (d : decode b pc = .ok (.iastore, 1)) (hb : m_b M = b) (hk : kd E a = 1) (hx : 0 ≤ x ∧ x < (le E a : Int)) (hn : (le E a : Int) ≤ 2147483647) : RK M pc ls (.int (zi y) :: .int (zi x) :: .ref a :: st) k (E, zg G, zk L, r) Q = RK M (pc + 1) ls st k (E, zg (u2 G a x.toNat y), zk L, r) Q := by
  have e0 : RK M pc ls (.int (zi y) :: .int (zi x) :: .ref a :: st) k (E, zg G, zk L, r) Q = RK M (pc + 1) ls st k (E, u2 (zg G) a (zi x).toNatClampNeg (zi y), zk L, r) Q := RK_n ((stp_of d hb _ _ _ _).trans (if_pos ⟨hk, zi_inr hx hn⟩))
  rw [e0, zi_cl ⟨hx.1, by omega⟩, zg_u]
theorem ZI_bald (d : decode b pc = .ok (.baload, 1)) (hb : m_b M = b) (hk : kd E a = 2 ∨ kd E a = 9) (hx : 0 ≤ x ∧ x < (le E a : Int)) (hn : (le E a : Int) ≤ 2147483647) : RK M pc ls (.int (zi x) :: .ref a :: st) k (E, zg G, zk L, r) Q = RK M (pc + 1) ls (.int (zi (G a x.toNat)) :: st) k (E, zg G, zk L, r) Q := by
  have e0 : RK M pc ls (.int (zi x) :: .ref a :: st) k (E, zg G, zk L, r) Q = RK M (pc + 1) ls (.int (zi (G a (zi x).toNatClampNeg)) :: st) k (E, zg G, zk L, r) Q := RK_n ((stp_of d hb _ _ _ _).trans (if_pos ⟨hk, zi_inr hx hn⟩))
  rw [e0, zi_cl ⟨hx.1, by omega⟩]
theorem ZI_bast (d : decode b pc = .ok (.bastore, 1)) (hb : m_b M = b) (hk : kd E a = 2) (hx : 0 ≤ x ∧ x < (le E a : Int)) (hn : (le E a : Int) ≤ 2147483647) (hy9 : 0 ≤ y ∧ y < 128) : RK M pc ls (.int (zi y) :: .int (zi x) :: .ref a :: st) k (E, zg G, zk L, r) Q = RK M (pc + 1) ls st k (E, zg (u2 G a x.toNat y), zk L, r) Q := by
  have hy := zy_nar hy9
  have e0 : RK M pc ls (.int (zi y) :: .int (zi x) :: .ref a :: st) k (E, zg G, zk L, r) Q = RK M (pc + 1) ls st k (E, u2 (zg G) a (zi x).toNatClampNeg (vp_nar .byte (zi y)), zk L, r) Q := RK_n ((stp_of d hb _ _ _ _).trans ((if_pos (zi_inr hx hn)).trans (if_pos hk)))
  rw [e0, zi_cl ⟨hx.1, by omega⟩, hy, zg_u]
theorem ZA_ald (d : decode b pc = .ok (.aaload, 1)) (hb : m_b M = b) (hk : kd E a = 5 ∨ kd E a = 6 ∨ kd E a = 8) (hx : 0 ≤ x ∧ x < (le E a : Int)) (hn : (le E a : Int) ≤ 2147483647) (hr : r a x.toNat = some q) : RK M pc ls (.int (zi x) :: .ref a :: st) k (E, zg G, zk L, r) Q = RK M (pc + 1) ls (.ref q :: st) k (E, zg G, zk L, r) Q := by
  have e0 : RK M pc ls (.int (zi x) :: .ref a :: st) k (E, zg G, zk L, r) Q = RK M (pc + 1) ls (va_rf (r a (zi x).toNatClampNeg) :: st) k (E, zg G, zk L, r) Q := RK_n ((stp_of d hb _ _ _ _).trans (if_pos ⟨hk, zi_inr hx hn⟩))
  rw [e0, zi_cl ⟨hx.1, by omega⟩, hr]
  rfl
theorem ZA_ast (d : decode b pc = .ok (.aastore, 1)) (hb : m_b M = b) (hk : kd E a = 5 ∧ kd E a2 = 14 ∨ kd E a = 6 ∧ kd E a2 = 10) (hx : 0 ≤ x ∧ x < (le E a : Int)) (hn : (le E a : Int) ≤ 2147483647) : RK M pc ls (.ref a2 :: .int (zi x) :: .ref a :: st) k (E, zg G, zk L, r) Q = RK M (pc + 1) ls st k (E, zg G, zk L, u2 r a x.toNat (some a2)) Q := by
  have e0 : RK M pc ls (.ref a2 :: .int (zi x) :: .ref a :: st) k (E, zg G, zk L, r) Q = RK M (pc + 1) ls st k (E, zg G, zk L, u2 r a (zi x).toNatClampNeg (some a2)) Q := RK_n ((stp_of d hb _ _ _ _).trans (if_pos ⟨hk, zi_inr hx hn⟩))
  rw [e0, zi_cl ⟨hx.1, by omega⟩]
theorem ZI_alen (d : decode b pc = .ok (.arraylength, 1)) (hb : m_b M = b) (hk : (1 ≤ kd E a ∧ kd E a ≤ 9) ∧ kd E a ≠ 3 ∧ kd E a ≠ 4) : RK M pc ls (.ref a :: st) k (E, zg G, zk L, r) Q = RK M (pc + 1) ls (.int (zi (le E a : Int)) :: st) k (E, zg G, zk L, r) Q := by
  rw [← zi_n]
  have e0 : RK M pc ls (.ref a :: st) k (E, zg G, zk L, r) Q = RK M (pc + 1) ls (.int (nI (le E a)) :: st) k (E, zg G, zk L, r) Q := RK_n ((stp_of d hb _ _ _ _).trans (if_pos hk))
  exact e0
theorem ZI_ndiv (d : decode b pc = .ok (.idiv, 1)) (hb : m_b M = b) (hx : -2147483648 < x ∧ x ≤ 0) (hy : 0 < y ∧ y < 2147483648) : RK M pc ls (.int (zi y) :: .int (zi x) :: st) k h Q = RK M (pc + 1) ls (.int (zi (-(-x / y))) :: st) k h Q := by
  rw [← zi_ndiv hx hy]
  exact RK_n ((stp_of d hb _ _ _ _).trans (if_neg (by rw [zi_0, zi_eq ⟨by omega, by omega⟩ ⟨by decide, by decide⟩]; omega)))
theorem ZI_copy (d : decode b pc = .ok (.invokestatic i, 3)) (hb : m_b M = b) (hl : lk (m_own M) i = some (14, M')) (hc : 1 ≤ m_fr M ∧ 30 ≤ m_lo M ∧ st.length ≤ 4) (hk : kd E a = 2 ∨ kd E a = 9) (hk2 : kd E a2 = 2) (hx : 0 ≤ x ∧ 0 ≤ z ∧ x + z ≤ (le E a : Int)) (hy : 0 ≤ y ∧ y + z ≤ (le E a2 : Int)) (hn : (le E a : Int) ≤ 2147483647 ∧ (le E a2 : Int) ≤ 2147483647) : RK M pc ls (.int (zi z) :: .int (zi y) :: .ref a2 :: .int (zi x) :: .ref a :: st) k (E, zg G, zk L, r) Q = RK M (pc + 3) ls st k (E, zg (cpG G a a2 x y z), zk L, r) Q := by
  have e1 := zi_cl (x := x) ⟨by omega, by omega⟩
  have e2 := zi_cl (x := y) ⟨by omega, by omega⟩
  have e3 := zi_cl (x := z) ⟨by omega, by omega⟩
  have n1 : ∀ q : Int, 0 ≤ q → q < 2147483648 → ¬ zi q < 0 := fun q q1 q2 => by
    rw [zi_0, zi_lt ⟨by omega, by omega⟩ ⟨by decide, by decide⟩]
    omega
  rw [← zg_cp]
  refine RK_n ((stp_of d hb _ _ _ _).trans ?_)
  rw [ex, hl, ← e1, ← e2, ← e3]
  show (if (((kd E a = 2 ∨ kd E a = 9) ∧ kd E a2 = 2) ∧ (¬ zi z < 0 ∧ ¬ zi x < 0 ∧ ¬ zi y < 0) ∧ (zi x).toNatClampNeg + (zi z).toNatClampNeg ≤ le E a ∧ (zi y).toNatClampNeg + (zi z).toNatClampNeg ≤ le E a2) ∧ 1 ≤ m_fr M ∧ 30 ≤ m_lo M ∧ st.length ≤ 4 then _ else _) = _
  exact if_pos ⟨⟨⟨hk, hk2⟩, ⟨n1 z (by omega) (by omega), n1 x (by omega) (by omega), n1 y (by omega) (by omega)⟩, by show (zi x).toNatClampNeg + (zi z).toNatClampNeg ≤ le E a; omega, by show (zi y).toNatClampNeg + (zi z).toNatClampNeg ≤ le E a2; omega⟩, hc⟩
theorem ZI_clone (d : decode b pc = .ok (.invokevirtual i, 3)) (hb : m_b M = b) (ho : m_own M = 20 ∧ i = 310) (hl : lk (m_own M) i = none) (hk : kd E a = 2) (hc : 1 ≤ m_fr M ∧ 22 ≤ m_lo M ∧ st.length ≤ 4) (hm : k.1 + 1 ≤ m_mc M ∧ k.2 + le E a ≤ m_ms M) : RK M pc ls (.ref a :: st) k (E, zg G, zk L, r) Q = RK M (pc + 3) ls (.ref E.1 :: st) (k.1 + 1, k.2 + le E a) ((E.1 + 1, u1 E.2.1 E.1 (2, le E a), E.2.2), zg (u1 G E.1 (G a)), zk (u1 L E.1 (fun _ => 0)), u1 r E.1 (fun _ => none)) Q := by
  have e : mkc (E, zg G, zk L, r) a = ((E.1 + 1, u1 E.2.1 E.1 (2, le E a), E.2.2), zg (u1 G E.1 (G a)), zk (u1 L E.1 (fun _ => 0)), u1 r E.1 (fun _ => none)) := by
    have e0 : u1 (zg G) E.1 (zg G a) = zg (u1 G E.1 (G a)) := zg_1 G E.1 (G a)
    have e1 : u1 (zk L) E.1 (fun _ => 0) = zk (u1 L E.1 (fun _ => 0)) := zk_0 L E.1
    show ((E.1 + 1, u1 E.2.1 E.1 (2, le E a), E.2.2), u1 (zg G) E.1 (zg G a), u1 (zk L) E.1 (fun _ => 0), _) = _
    rw [e0, e1]
  rw [← e]
  refine RK_n ((stp_of d hb _ _ _ _).trans ?_)
  rw [ex, hl]
  show (if m_own M = 20 ∧ i = 310 then _ else _) = _
  rw [if_pos ho]
  exact if_pos ⟨hk, hc, hm⟩
theorem ZI_mk (s : Nat × Nat) : mk (E, zg G, zk L, r) s = ((E.1 + 1, u1 E.2.1 E.1 s, E.2.2), zg (u1 G E.1 (fun _ => 0)), zk (u1 L E.1 (fun _ => 0)), u1 r E.1 (fun _ => none)) := by
  unfold mk
  rw [zg_0, zk_0]
end ZI
