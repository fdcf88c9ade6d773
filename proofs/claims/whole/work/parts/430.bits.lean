/-! PURE PART: bits of longs from 0 on -/
theorem o_bv (n : Nat) : (Int64.ofInt (n : Int)).toBitVec = BitVec.ofNat 64 n := by simp
theorem o_toNat {n : Nat} (h : n < 9223372036854775808) : (Int64.ofInt (n : Int)).toUInt64.toNat = n := by
  have : (Int64.ofInt (n : Int)).toBitVec = BitVec.ofNat 64 n := by simp
  show (Int64.ofInt (n : Int)).toBitVec.toNat = n
  rw [this, BitVec.toNat_ofNat, Nat.mod_eq_of_lt (by omega)]
theorem u_toI {u : UInt64} {n : Nat} (h : u.toNat = n) (hn : n < 9223372036854775808) : u.toInt64 = Int64.ofInt (n : Int) := by
  apply Int64.toBitVec_inj.mp
  apply BitVec.eq_of_toNat_eq
  have : (Int64.ofInt (n : Int)).toBitVec = BitVec.ofNat 64 n := by simp
  rw [this, BitVec.toNat_ofNat, Nat.mod_eq_of_lt (by omega)]
  exact h
theorem m30 {n : Nat} (h : n < 9223372036854775808) : Int64.ofInt (n : Int) &&& 1073741823 = Int64.ofInt ((n % 1073741824 : Nat) : Int) := by
  have e : (Int64.ofInt (n : Int) &&& 1073741823).toUInt64.toNat = n % 1073741824 := by
    show ((Int64.ofInt (n : Int)).toUInt64 &&& 1073741823).toNat = _
    rw [UInt64.toNat_and, o_toNat h, show (1073741823 : UInt64).toNat = 2 ^ 30 - 1 from rfl, Nat.and_two_pow_sub_one_eq_mod]
  exact u_toI (u := (Int64.ofInt (n : Int) &&& 1073741823).toUInt64) e (by omega)
theorem u30 {n : Nat} (h : n < 9223372036854775808) : ((Int64.ofInt (n : Int)).toUInt64 >>> ((30 : Int32).toInt64.toUInt64 &&& Int64.toUInt64 63)).toInt64 = Int64.ofInt ((n / 1073741824 : Nat) : Int) := by
  have e0 : ((30 : Int32).toInt64.toUInt64 &&& Int64.toUInt64 63) = 30 := by decide
  rw [e0]
  refine u_toI ?_ (by omega)
  rw [UInt64.toNat_shiftRight, o_toNat h, show (30 : UInt64).toNat % 64 = 30 from rfl, Nat.shiftRight_eq_div_pow]
theorem uk30 {n k : Nat} (hk : k < 3) (h : n < 9223372036854775808) : ((Int64.ofInt (n : Int)).toUInt64 >>> (((30 * nI k) : Int32).toInt64.toUInt64 &&& Int64.toUInt64 63)).toInt64 = Int64.ofInt ((n / 1073741824 ^ k : Nat) : Int) := by
  rcases (show k = 0 ∨ k = 1 ∨ k = 2 by omega) with rfl | rfl | rfl
  · have e0 : (((30 : Int32) * nI 0).toInt64.toUInt64 &&& Int64.toUInt64 63) = 0 := by decide
    rw [e0]
    refine u_toI ?_ (by omega)
    rw [UInt64.toNat_shiftRight, o_toNat h, show (0 : UInt64).toNat % 64 = 0 from rfl, Nat.shiftRight_eq_div_pow]
  · have e0 : (((30 : Int32) * nI 1).toInt64.toUInt64 &&& Int64.toUInt64 63) = 30 := by decide
    rw [e0]
    refine u_toI ?_ (by omega)
    rw [UInt64.toNat_shiftRight, o_toNat h, show (30 : UInt64).toNat % 64 = 30 from rfl, Nat.shiftRight_eq_div_pow]
  · have e0 : (((30 : Int32) * nI 2).toInt64.toUInt64 &&& Int64.toUInt64 63) = 60 := by decide
    rw [e0]
    refine u_toI ?_ (by omega)
    rw [UInt64.toNat_shiftRight, o_toNat h, show (60 : UInt64).toNat % 64 = 60 from rfl, Nat.shiftRight_eq_div_pow]
theorem s30 {n : Nat} (h : n < 9223372036854775808) : Int64.ofInt (n : Int) >>> ((30 : Int32).toInt64 &&& 63) = Int64.ofInt ((n / 1073741824 : Nat) : Int) := by
  have e0 : ((30 : Int32).toInt64 &&& 63) = 30 := by decide
  rw [e0]
  have hb : (Int64.ofInt (n : Int)).toBitVec = BitVec.ofNat 64 n := by simp
  apply Int64.toBitVec_inj.mp
  rw [Int64.toBitVec_shiftRight, hb]
  have e1 : (30 : Int64).toBitVec.smod 64 = 30#64 := by decide
  rw [e1]
  apply BitVec.eq_of_toNat_eq
  have msb : (BitVec.ofNat 64 n).msb = false := by
    rw [BitVec.msb_eq_false_iff_two_mul_lt, BitVec.toNat_ofNat, Nat.mod_eq_of_lt (by omega)]; omega
  rw [o_bv (n / 1073741824), BitVec.sshiftRight_eq', BitVec.sshiftRight_eq_of_msb_false msb, BitVec.toNat_ushiftRight, BitVec.toNat_ofNat, BitVec.toNat_ofNat, Nat.mod_eq_of_lt (by omega), Nat.mod_eq_of_lt (by omega), BitVec.toNat_ofNat, Nat.mod_eq_of_lt (by omega), Nat.shiftRight_eq_div_pow]
