/-! feed: the bytes of a whole number. -/
theorem sh_k (k : Int) (hk : k = 0 ∨ k = 8 ∨ k = 16 ∨ k = 24) : (zi k).toUInt32 &&& Int32.toUInt32 31 = UInt32.ofNat k.toNat := by
  rcases hk with h | h | h | h <;> subst h <;> decide
theorem zi_nat (n : Int) : (zi n).toUInt32.toNat = (n % 4294967296).toNat := by
  show (BitVec.ofInt 32 n).toNat = _
  rw [BitVec.toNat_ofInt]
  rfl
theorem zi_ext {a b : Int32} (h : a.toUInt32.toNat = b.toUInt32.toNat) : a = b := by
  have h1 : a.toUInt32 = b.toUInt32 := UInt32.toNat_inj.mp h
  have h2 : a.toUInt32.toInt32 = b.toUInt32.toInt32 := by rw [h1]
  simpa using h2
theorem zi_byte (n k : Int) (hk : k = 0 ∨ k = 8 ∨ k = 16 ∨ k = 24) : (((zi n).toUInt32 >>> ((zi k).toUInt32 &&& Int32.toUInt32 31)).toInt32 &&& zi 255) = zi (n / 2 ^ k.toNat % 256) := by
  apply zi_ext
  rw [sh_k k hk, zi_nat]
  have e : (((zi n).toUInt32 >>> UInt32.ofNat k.toNat).toInt32 &&& zi 255).toUInt32.toNat = (((zi n).toUInt32 >>> UInt32.ofNat k.toNat).toNat &&& 255) := by
    show ((((zi n).toUInt32 >>> UInt32.ofNat k.toNat).toBitVec &&& (BitVec.ofInt 32 255)).toNat) = _
    rw [BitVec.toNat_and]
    rfl
  rw [e]
  have e2 : ((zi n).toUInt32 >>> UInt32.ofNat k.toNat).toNat = (zi n).toUInt32.toNat / 2 ^ k.toNat := by
    rw [UInt32.toNat_shiftRight, Nat.shiftRight_eq_div_pow]
    rcases hk with h | h | h | h <;> subst h <;> rfl
  rw [e2, zi_nat]
  have e3 : ∀ m : Nat, m &&& 255 = m % 256 := fun m => Nat.and_two_pow_sub_one_eq_mod m 8
  rw [e3]
  rcases hk with h | h | h | h <;> subst h
  · show (n % 4294967296).toNat / 1 % 256 = (n / 1 % 256 % 4294967296).toNat
    omega
  · show (n % 4294967296).toNat / 256 % 256 = (n / 256 % 256 % 4294967296).toNat
    omega
  · show (n % 4294967296).toNat / 65536 % 256 = (n / 65536 % 256 % 4294967296).toNat
    omega
  · show (n % 4294967296).toNat / 16777216 % 256 = (n / 16777216 % 256 % 4294967296).toNat
    omega
