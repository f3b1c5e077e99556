/-! ===== long numbers of an index ===== -/
theorem vd_I_long {z : Int} (h0 : -2147483648 ≤ z) (h1 : z < 2147483648) : (vd_I z).toInt64 = vd_J z := by
  apply Int64.toInt_inj.mp
  rw [vd_J_toInt (by omega) (by omega), Int32.toInt_toInt64, vd_I_toInt h0 h1]
theorem vd_J_int {z : Int} (h0 : -2147483648 ≤ z) (h1 : z < 2147483648) : (vd_J z).toInt32 = vd_I z := by
  apply Int32.toInt_inj.mp
  rw [vd_I_toInt h0 h1, Int64.toInt_toInt32, vd_J_toInt (by omega) (by omega)]
  exact Int.bmod_eq_of_le (by omega) (by omega)
theorem vd_J_256 : (256 : Int64) = vd_J 256 := by decide
theorem vd_J_0 : Int64.ofNat (0 : Nat) = vd_J 0 := by decide
theorem vd_J_mac {z t : Int} (t0 : 0 ≤ t) (t1 : t ≤ 255) : vd_J z * (256 : Int64) + (vd_I t).toInt64 = vd_J (256 * z + t) := by
  rw [vd_I_long (by omega) (by omega), vd_J_256, vd_J_mul, vd_J_add, Int.mul_comm]
theorem vd_J_sh : (vd_I 8).toInt64 &&& (63 : Int64) = (8 : Int64) := by decide
theorem vd_J_bv (n : Nat) : (vd_J (n : Int)).toBitVec = BitVec.ofNat 64 n := by
  unfold vd_J
  rw [Int64.toBitVec_ofInt, BitVec.ofInt_natCast]
theorem vd_J_sor {z t : Nat} (hz : z < 16777216) (ht : t ≤ 255) : (vd_J (z : Int) <<< ((vd_I 8).toInt64 &&& (63 : Int64))) ||| (vd_I (t : Int)).toInt64 = vd_J (256 * (z : Int) + (t : Int)) := by
  have e1 : (256 * (z : Int) + (t : Int)) = ((256 * z + t : Nat) : Int) := by omega
  rw [vd_J_sh, vd_I_long (by omega) (by omega), e1]
  apply Int64.toBitVec_inj.mp
  rw [Int64.toBitVec_or, Int64.toBitVec_shiftLeft, vd_J_bv, vd_J_bv, vd_J_bv]
  have e2 : ((8 : Int64).toBitVec.smod 64) = 8#64 := by decide
  apply BitVec.eq_of_toNat_eq
  rw [e2, BitVec.toNat_or, BitVec.shiftLeft_eq', BitVec.toNat_shiftLeft, BitVec.toNat_ofNat, BitVec.toNat_ofNat, BitVec.toNat_ofNat, BitVec.toNat_ofNat]
  rw [Nat.mod_eq_of_lt (show 8 < 2 ^ 64 by decide), Nat.mod_eq_of_lt (show z < 2 ^ 64 by omega), Nat.mod_eq_of_lt (show t < 2 ^ 64 by omega), Nat.mod_eq_of_lt (show 256 * z + t < 2 ^ 64 by omega), Nat.shiftLeft_eq, Nat.mod_eq_of_lt (show z * 2 ^ 8 < 2 ^ 64 by omega), ← Nat.shiftLeft_eq, ← Nat.shiftLeft_add_eq_or_of_lt (show t < 2 ^ 8 by omega), Nat.shiftLeft_eq]
  omega
theorem vd_a7 (b : Int32) : b &&& vd_I 7 = (b &&& vd_I 255) &&& vd_I 7 := by
  rw [Int32.and_assoc]
  have : vd_I 255 &&& vd_I 7 = vd_I 7 := by decide
  rw [this]
theorem vd_a33 (b : Int32) : (b >>> (vd_I 3 &&& 31)) &&& vd_I 3 = ((b &&& vd_I 255) >>> (vd_I 3 &&& 31)) &&& vd_I 3 := by
  have e : vd_I 3 &&& (31 : Int32) = 3 := by decide
  rw [e, Int32.shiftRight_and, Int32.and_assoc]
  have : (vd_I 255 >>> (3 : Int32)) &&& vd_I 3 = vd_I 3 := by decide
  rw [this]
