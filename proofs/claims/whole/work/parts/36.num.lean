/-! ===== whole numbers: shifts, masks, quotients ===== -/
theorem vd_shn : ∀ n, n < 32 → ((vd_I (n : Nat) &&& 31).toBitVec.smod 32) = BitVec.ofNat 32 n := by decide +kernel
theorem vd_div_b {z p : Int} (hp : 0 < p) (h1 : -2147483648 ≤ z) (h2 : z < 2147483648) : -2147483648 ≤ z / p ∧ z / p < 2147483648 :=
  ⟨(Int.le_ediv_iff_mul_le hp).mpr (by omega), (Int.ediv_lt_iff_lt_mul hp).mpr (by omega)⟩
theorem vd_I_bv {z : Int} (h1 : -2147483648 ≤ z) (h2 : z < 2147483648) : (vd_I z).toBitVec.toInt = z := vd_I_toInt h1 h2
theorem vd_I_shr {z : Int} {n : Nat} (h1 : -2147483648 ≤ z) (h2 : z < 2147483648) (hn : n < 32) : vd_I z >>> (vd_I (n : Int) &&& 31) = vd_I (z / ((2 ^ n : Nat) : Int)) := by
  have hp : (0 : Int) < ((2 ^ n : Nat) : Int) := by
    have := Nat.two_pow_pos n
    omega
  have hb := vd_div_b hp h1 h2
  refine Int32.toInt_inj.mp ?_
  rw [vd_I_toInt hb.1 hb.2]
  show (BitVec.sshiftRight' (vd_I z).toBitVec ((vd_I (n : Int) &&& 31).toBitVec.smod 32)).toInt = _
  rw [vd_shn n hn, BitVec.toInt_sshiftRight', vd_I_bv h1 h2, BitVec.toNat_ofNat, Nat.mod_eq_of_lt (by omega), Int.shiftRight_eq_div_pow]
theorem vd_shr1 {z : Int} (h1 : -2147483648 ≤ z) (h2 : z < 2147483648) : vd_I z >>> (vd_I 1 &&& 31) = vd_I (z / 2) := vd_I_shr (n := 1) h1 h2 (by decide)
theorem vd_shr2 {z : Int} (h1 : -2147483648 ≤ z) (h2 : z < 2147483648) : vd_I z >>> (vd_I 2 &&& 31) = vd_I (z / 4) := vd_I_shr (n := 2) h1 h2 (by decide)
theorem vd_shr3 {z : Int} (h1 : -2147483648 ≤ z) (h2 : z < 2147483648) : vd_I z >>> (vd_I 3 &&& 31) = vd_I (z / 8) := vd_I_shr (n := 3) h1 h2 (by decide)
theorem vd_shr4 {z : Int} (h1 : -2147483648 ≤ z) (h2 : z < 2147483648) : vd_I z >>> (vd_I 4 &&& 31) = vd_I (z / 16) := vd_I_shr (n := 4) h1 h2 (by decide)
theorem vd_shr5 {z : Int} (h1 : -2147483648 ≤ z) (h2 : z < 2147483648) : vd_I z >>> (vd_I 5 &&& 31) = vd_I (z / 32) := vd_I_shr (n := 5) h1 h2 (by decide)
theorem vd_shr7 {z : Int} (h1 : -2147483648 ≤ z) (h2 : z < 2147483648) : vd_I z >>> (vd_I 7 &&& 31) = vd_I (z / 128) := vd_I_shr (n := 7) h1 h2 (by decide)
theorem vd_shr8 {z : Int} (h1 : -2147483648 ≤ z) (h2 : z < 2147483648) : vd_I z >>> (vd_I 8 &&& 31) = vd_I (z / 256) := vd_I_shr (n := 8) h1 h2 (by decide)
theorem vd_shr12 {z : Int} (h1 : -2147483648 ≤ z) (h2 : z < 2147483648) : vd_I z >>> (vd_I 12 &&& 31) = vd_I (z / 4096) := vd_I_shr (n := 12) h1 h2 (by decide)
/-! masks -/
theorem vd_I_and {z : Int} {k : Nat} (hk : k < 31) : vd_I z &&& vd_I ((2 ^ k - 1 : Nat) : Int) = vd_I (z % ((2 ^ k : Nat) : Int)) := by
  have hp := Nat.two_pow_pos k
  have hlt : 2 ^ k < 2 ^ 32 := Nat.pow_lt_pow_right (by decide) (by omega)
  refine Int32.toBitVec_inj.mp (BitVec.eq_of_toNat_eq ?_)
  show (BitVec.ofInt 32 z &&& BitVec.ofInt 32 ((2 ^ k - 1 : Nat) : Int)).toNat = (BitVec.ofInt 32 (z % ((2 ^ k : Nat) : Int))).toNat
  rw [BitVec.toNat_and, BitVec.toNat_ofInt, BitVec.toNat_ofInt, BitVec.toNat_ofInt]
  have e1 : ((((2 ^ k - 1 : Nat) : Int)) % ((2 ^ 32 : Nat) : Int)).toNat = 2 ^ k - 1 := by
    rw [Int.emod_eq_of_lt (by omega) (by omega)]
    omega
  rw [e1, Nat.and_two_pow_sub_one_eq_mod]
  have hd : ((2 ^ k : Nat) : Int) ∣ ((2 ^ 32 : Nat) : Int) := Int.natCast_dvd_natCast.mpr (Nat.pow_dvd_pow 2 (by omega))
  have h0 : 0 ≤ z % ((2 ^ k : Nat) : Int) := Int.emod_nonneg _ (by omega)
  have h3 : z % ((2 ^ k : Nat) : Int) < ((2 ^ k : Nat) : Int) := Int.emod_lt_of_pos _ (by omega)
  have e2 : (z % ((2 ^ k : Nat) : Int)) % ((2 ^ 32 : Nat) : Int) = z % ((2 ^ k : Nat) : Int) := Int.emod_eq_of_lt h0 (by omega)
  rw [e2]
  have e3 : (z % ((2 ^ 32 : Nat) : Int)) % ((2 ^ k : Nat) : Int) = z % ((2 ^ k : Nat) : Int) := Int.emod_emod_of_dvd z hd
  have h4 : 0 ≤ z % ((2 ^ 32 : Nat) : Int) := Int.emod_nonneg _ (by omega)
  rw [← e3]
  rw [Int.toNat_emod h4 (by omega)]
  rfl
theorem vd_and1 (z : Int) : vd_I z &&& vd_I 1 = vd_I (z % 2) := vd_I_and (k := 1) (by decide)
theorem vd_and3 (z : Int) : vd_I z &&& vd_I 3 = vd_I (z % 4) := vd_I_and (k := 2) (by decide)
theorem vd_and7 (z : Int) : vd_I z &&& vd_I 7 = vd_I (z % 8) := vd_I_and (k := 3) (by decide)
theorem vd_and15 (z : Int) : vd_I z &&& vd_I 15 = vd_I (z % 16) := vd_I_and (k := 4) (by decide)
theorem vd_and255 (z : Int) : vd_I z &&& vd_I 255 = vd_I (z % 256) := vd_I_and (k := 8) (by decide)
/-! left shifts -/
theorem vd_I_shl (z : Int) {n : Nat} (hn : n < 32) : vd_I z <<< (vd_I (n : Int) &&& 31) = vd_I (z * ((2 ^ n : Nat) : Int)) := by
  refine Int32.toBitVec_inj.mp ?_
  show (vd_I z).toBitVec <<< ((vd_I (n : Int) &&& 31).toBitVec.smod 32) = BitVec.ofInt 32 (z * ((2 ^ n : Nat) : Int))
  rw [vd_shn n hn, BitVec.ofInt_mul]
  show (BitVec.ofInt 32 z) <<< (BitVec.ofNat 32 n) = _
  rw [BitVec.shiftLeft_eq', BitVec.toNat_ofNat, Nat.mod_eq_of_lt (by omega), BitVec.shiftLeft_eq_mul_twoPow]
  congr 1
  refine BitVec.eq_of_toNat_eq ?_
  rw [BitVec.toNat_twoPow, BitVec.toNat_ofInt]
  have hlt : 2 ^ n < 2 ^ 32 := Nat.pow_lt_pow_right (by decide) hn
  have hp := Nat.two_pow_pos n
  rw [Int.emod_eq_of_lt (by omega) (by omega), Nat.mod_eq_of_lt hlt]
  omega
/-! quotients with signs -/
theorem vd_I_tdiv {a b : Int} (h1 : -2147483648 ≤ a) (h2 : a < 2147483648) (h3 : -2147483648 ≤ b) (h4 : b < 2147483648) : vd_I a / vd_I b = vd_I (a.tdiv b) := by
  have e1 : Int32.minValue.toInt = -2147483648 := by decide
  have e2 : Int32.maxValue.toInt = 2147483647 := by decide
  exact (Int32.ofInt_tdiv (by rw [e1]; exact h1) (by rw [e2]; omega) (by rw [e1]; exact h3) (by rw [e2]; omega)).symm
/-! bytes -/
theorem vd_bit8 : ∀ j, j < 8 → ((255 : Int32) >>> (vd_I (j : Nat) &&& 31)) &&& 1 = 1 := by decide +kernel
theorem vd_held (x : Int32) {j : Nat} (h : j < 8) : ((x &&& 255) >>> (vd_I (j : Int) &&& 31)) &&& 1 = (x >>> (vd_I (j : Int) &&& 31)) &&& 1 := by
  rw [Int32.shiftRight_and, Int32.and_assoc, vd_bit8 j h]
theorem vd_I_div {a b : Int} (h1 : 0 ≤ a) (h2 : a < 2147483648) (h3 : 0 < b) (h4 : b < 2147483648) : vd_I a / vd_I b = vd_I (a / b) := by
  have hq : 0 ≤ a / b ∧ a / b ≤ a := ⟨Int.ediv_nonneg h1 (by omega), Int.ediv_le_self b h1⟩
  apply Int32.toInt_inj.mp
  rw [Int32.toInt_div, vd_I_toInt (by omega) h2, vd_I_toInt (by omega) h4, vd_I_toInt (by omega) (by omega)]
  rw [Int.tdiv_eq_ediv_of_nonneg h1]
  exact Int.bmod_eq_of_le (by omega) (by omega)
theorem vd_I_rem {a b : Int} (h1 : 0 ≤ a) (h2 : a < 2147483648) (h3 : 0 < b) (h4 : b < 2147483648) : vd_I a - vd_I a / vd_I b * vd_I b = vd_I (a % b) := by
  rw [vd_I_div h1 h2 h3 h4, vd_I_mul, vd_I_sub]
  congr 1
  have := Int.emod_add_mul_ediv a b
  have e : a / b * b = b * (a / b) := Int.mul_comm _ _
  omega
