/-! ===== longs; what becomes of a model ===== -/
def vd_J (z : Int) : Int64 := Int64.ofInt z
theorem vd_J_of {z : Int} (h1 : -2147483648 ≤ z) (h2 : z < 2147483648) : (vd_I z).toInt64 = vd_J z := by
  have e1 : Int32.minValue.toInt = -2147483648 := by decide
  have e2 : Int32.maxValue.toInt = 2147483647 := by decide
  exact Int32.toInt64_ofInt (by rw [e1]; exact h1) (by rw [e2]; omega)
theorem vd_J_to (z : Int) : (vd_J z).toInt32 = vd_I z := Int64.toInt32_ofInt
theorem vd_J_add (a b : Int) : vd_J a + vd_J b = vd_J (a + b) := (Int64.ofInt_add a b).symm
theorem vd_J_mul (a b : Int) : vd_J a * vd_J b = vd_J (a * b) := (Int64.ofInt_mul a b).symm
theorem vd_J_toInt {z : Int} (h1 : -9223372036854775808 ≤ z) (h2 : z < 9223372036854775808) : (vd_J z).toInt = z := Int64.toInt_ofInt_of_le h1 h2
theorem vd_J_inj {a b : Int} (a1 : -9223372036854775808 ≤ a) (a2 : a < 9223372036854775808) (b1 : -9223372036854775808 ≤ b) (b2 : b < 9223372036854775808) : vd_J a = vd_J b ↔ a = b := by
  refine ⟨fun h => ?_, fun h => by rw [h]⟩
  have := congrArg Int64.toInt h
  rw [vd_J_toInt a1 a2, vd_J_toInt b1 b2] at this
  exact this
theorem vd_J_div {a b : Int} (h1 : 0 ≤ a) (h2 : a < 9223372036854775808) (h3 : 0 < b) (h4 : b < 9223372036854775808) : vd_J a / vd_J b = vd_J (a / b) := by
  have hq : 0 ≤ a / b ∧ a / b ≤ a := ⟨Int.ediv_nonneg h1 (by omega), Int.ediv_le_self b h1⟩
  apply Int64.toInt_inj.mp
  rw [Int64.toInt_div, vd_J_toInt (by omega) h2, vd_J_toInt (by omega) h4, vd_J_toInt (by omega) (by omega)]
  rw [Int.tdiv_eq_ediv_of_nonneg h1]
  exact Int.bmod_eq_of_le (by omega) (by omega)
theorem vd_J_cmp {a b : Int} (a1 : -9223372036854775808 ≤ a) (a2 : a < 9223372036854775808) (b1 : -9223372036854775808 ≤ b) (b2 : b < 9223372036854775808) : lg_cmp (vd_J a) (vd_J b) = vd_I (if b < a then 1 else if a = b then 0 else -1) := by
  unfold lg_cmp
  have e : (vd_J a > vd_J b) ↔ b < a := by
    show vd_J b < vd_J a ↔ _
    rw [Int64.lt_iff_toInt_lt, vd_J_toInt a1 a2, vd_J_toInt b1 b2]
  by_cases c : b < a
  · rw [if_pos (e.mpr c), if_pos c]
    decide
  · rw [if_neg (fun q => c (e.mp q)), if_neg c]
    by_cases c2 : a = b
    · rw [if_pos (by rw [c2]), if_pos c2]
      decide
    · rw [if_neg (fun q => c2 ((vd_J_inj a1 a2 b1 b2).mp q)), if_neg c2]
      decide
theorem vd_J0 : Int64.ofNat (0 : Nat) = vd_J 0 := by decide
theorem vd_J256 : (256 : Int64) = vd_J 256 := by decide
theorem vd_J2 : (2 : Int64) = vd_J 2 := by decide
theorem vd_J20 : (20 : Int64) = vd_J 20 := by decide
/-- what becomes of a model v with a zeros and b ones -/
def vd_lrn (v a b : Int) : Int := if a + b = 0 then v else (v * (256 - 128 * min (a + b) 20 / 20) + vd_wn ((256 * a + (a + b) / 2) / (a + b)) 1 255 * (128 * min (a + b) 20 / 20) + 128) / 256
theorem vd_lrn_b {v a b : Int} (v0 : 1 ≤ v) (v1 : v ≤ 255) (a0 : 0 ≤ a) (b0 : 0 ≤ b) : 1 ≤ vd_lrn v a b ∧ vd_lrn v a b ≤ 255 := by
  unfold vd_lrn
  split
  · omega
  · have h := vd_wn_b (v := (256 * a + (a + b) / 2) / (a + b)) (show (1 : Int) ≤ 255 by decide)
    generalize vd_wn ((256 * a + (a + b) / 2) / (a + b)) 1 255 = w at *
    have hF : 0 ≤ 128 * min (a + b) 20 / 20 ∧ 128 * min (a + b) 20 / 20 ≤ 128 := by omega
    generalize 128 * min (a + b) 20 / 20 = F at *
    have k1 : (1 : Int) * (256 - F) ≤ v * (256 - F) := Int.mul_le_mul_of_nonneg_right v0 (by omega)
    have k2 : v * (256 - F) ≤ 255 * (256 - F) := Int.mul_le_mul_of_nonneg_right v1 (by omega)
    have k3 : (1 : Int) * F ≤ w * F := Int.mul_le_mul_of_nonneg_right h.1 hF.1
    have k4 : w * F ≤ 255 * F := Int.mul_le_mul_of_nonneg_right h.2 hF.1
    omega
section VDLN
variable {M N : vd_M} {ow fa lo lf : Nat} {f : Nat → Nat → Int32} {d : Nat} {Q : vd_M → (Option Value ⊕ Nat) → Prop}
theorem vd_P295 {a b : Int} (a1 : -9223372036854775808 ≤ a) (a2 : a < 9223372036854775808) (b1 : -9223372036854775808 ≤ b) (b2 : b < 9223372036854775808) : vd_wp d 295 0 [.long (vd_J a), vd_U, .long (vd_J b), vd_U] [] (vd_mf M f) Q = Q (vd_mf M f) (.inl (some (.long (vd_J (min a b))))) := by
  simp (disch := omega) only [vd_S295_0, vd_S295_6, vd_S295_10, vd_S295_11, vd_J_cmp]
  by_cases c : b < a
  · simp (disch := omega) only [c, if_true, vd_I_toInt, show (0 : Int) < 1 by decide]
    rw [Int.min_eq_right (by omega)]
  · by_cases c2 : a = b
    · simp (disch := omega) only [c, c2, if_true, if_false, vd_I_toInt, Int.lt_irrefl]
      rw [Int.min_self]
    · simp (disch := omega) only [c, c2, if_false, vd_I_toInt, show ¬ ((0 : Int) < -1) by decide]
      rw [Int.min_eq_left (by omega)]
theorem vd_P149 (hM : vd_SC M ow fa lo lf) {k : Nat} {v a b : Int} (hk : k < 2941) (ha : f 36 (2 * k) = vd_I a) (hb : f 36 (2 * k + 1) = vd_I b) (a0 : 0 ≤ a) (b0 : 0 ≤ b) (hab : a + b ≤ 8000000) (v0 : 1 ≤ v) (v1 : v ≤ 255) : vd_wp (d + 1) 149 0 [.ref 34, .int (vd_I (k : Int)), .int (vd_I v), vd_U, vd_U, vd_U, vd_U] [] (vd_mf M f) Q = Q (vd_mf M f) (.inl (some (.int (vd_I (vd_lrn v a b))))) := by
  have e1 : (2 * (k : Int)).toNat = 2 * k := by omega
  have e2 : (2 * (k : Int) + 1).toNat = 2 * k + 1 := by omega
  unfold vd_lrn
  by_cases c : a + b = 0
  · simp (disch := omega) only [vd_S149_0 hM, vd_S149_28 hM, vd_S149_30 hM, vd_S149_7 hM, vd_S149_42 hM, vd_S149_19 hM, vd_S149_47 hM, vd_S149_50 hM, vd_S149_59 hM, vd_S149_62 hM, vd_I_mul, vd_I_add, e1, e2, ha, hb, vd_I_toInt, c, eq_self, if_true]
  · have hq : 0 ≤ (256 * a + (a + b) / 2) / (a + b) ∧ (256 * a + (a + b) / 2) / (a + b) ≤ 256 * a + (a + b) / 2 := ⟨Int.ediv_nonneg (by omega) (by omega), Int.ediv_le_self _ (by omega)⟩
    have h := vd_wn_b (v := (256 * a + (a + b) / 2) / (a + b)) (show (1 : Int) ≤ 255 by decide)
    have hF : 0 ≤ 128 * min (a + b) 20 / 20 ∧ 128 * min (a + b) 20 / 20 ≤ 128 := by omega
    simp (disch := omega) only [vd_S149_0 hM, vd_S149_28 hM, vd_S149_30 hM, vd_S149_7 hM, vd_S149_42 hM, vd_S149_19 hM, vd_S149_47 hM, vd_S149_50 hM, vd_S149_59 hM, vd_S149_62 hM, vd_I_mul, vd_I_add, vd_I_sub, e1, e2, ha, hb, vd_I_toInt, c, if_false, vd_I_div, vd_P58 hM, vd_P289, vd_rs_v, vd_rs_n]
    generalize vd_wn ((256 * a + (a + b) / 2) / (a + b)) 1 255 = w at *
    generalize 128 * min (a + b) 20 / 20 = F at *
    have k1 : (1 : Int) * (256 - F) ≤ v * (256 - F) := Int.mul_le_mul_of_nonneg_right v0 (by omega)
    have k2 : v * (256 - F) ≤ 255 * (256 - F) := Int.mul_le_mul_of_nonneg_right v1 (by omega)
    have k3 : (1 : Int) * F ≤ w * F := Int.mul_le_mul_of_nonneg_right h.1 hF.1
    have k4 : w * F ≤ 255 * F := Int.mul_le_mul_of_nonneg_right h.2 hF.1
    rw [vd_shr8 (by omega) (by omega)]
theorem vd_P277 (hN : vd_SR N) {v a b : Int} (a0 : 0 ≤ a) (b0 : 0 ≤ b) (hab : a + b ≤ 8000000) (v0 : 1 ≤ v) (v1 : v ≤ 255) : vd_wp (d + 1) 277 0 [.int (vd_I v), .int (vd_I a), .int (vd_I b), vd_U, vd_U, vd_U, vd_U] [] (vd_mf N f) Q = Q (vd_mf N f) (.inl (some (.int (vd_I (vd_lrn v a b))))) := by
  unfold vd_lrn
  by_cases c : a + b = 0
  · simp (disch := omega) only [vd_S277_0 hN, vd_S277_12 hN, vd_S277_14 hN, vd_S277_24 hN, vd_S277_27 hN, vd_S277_38 hN, vd_S277_41 hN, vd_S277_62 hN, vd_S277_65 hN, vd_S277_71 hN, vd_S277_74 hN, vd_J_of, vd_J_add, vd_J0, vd_J_cmp, c, Int.lt_irrefl, if_false, eq_self, if_true, vd_I_toInt]
  · have c' : 0 < a + b := by omega
    have hq : 0 ≤ (256 * a + (a + b) / 2) / (a + b) ∧ (256 * a + (a + b) / 2) / (a + b) ≤ 256 * a + (a + b) / 2 := ⟨Int.ediv_nonneg (by omega) (by omega), Int.ediv_le_self _ (by omega)⟩
    have h := vd_wn_b (v := (256 * a + (a + b) / 2) / (a + b)) (show (1 : Int) ≤ 255 by decide)
    have hF : 0 ≤ 128 * min (a + b) 20 / 20 ∧ 128 * min (a + b) 20 / 20 ≤ 128 := by omega
    have hne : ∀ {z : Int}, 0 < z → z < 9223372036854775808 → vd_J z ≠ 0 := fun {z} q1 q2 q => by
      have := congrArg Int64.toInt q
      rw [vd_J_toInt (by omega) q2] at this
      have e0 : (0 : Int64).toInt = 0 := by decide
      omega
    have n1 : vd_J 2 ≠ 0 := hne (by decide) (by decide)
    have n2 : vd_J (a + b) ≠ 0 := hne c' (by omega)
    have e8 : vd_I 1 <<< (vd_I 7 &&& 31) = vd_I 128 := by decide
    have hU : vd_long vd_U = false := vd_long_ra 0
    simp (disch := first | assumption | omega) only [vd_S277_0 hN, vd_S277_12 hN, vd_S277_14 hN, vd_S277_24 hN, vd_S277_27 hN, vd_S277_38 hN, vd_S277_41 hN, vd_S277_62 hN, vd_S277_65 hN, vd_S277_71 hN, vd_S277_74 hN, c, vd_J_of, vd_J_add, vd_J_mul, vd_J0, vd_J256, vd_J2, vd_J20, vd_J_cmp, c', if_true, vd_I_toInt, show ¬ ((1 : Int) = 0) by decide, if_false, vd_J_div, vd_J_to, vd_P295, vd_rs_v, vd_rs_n, vd_I_mul, vd_I_add, vd_I_sub, vd_I_div, vd_P194 hN, vd_S231_0 hN, show (8 - 1 : Int) = 7 by decide, e8]
    generalize vd_wn ((256 * a + (a + b) / 2) / (a + b)) 1 255 = w at *
    generalize 128 * min (a + b) 20 / 20 = F at *
    have k1 : (1 : Int) * (256 - F) ≤ v * (256 - F) := Int.mul_le_mul_of_nonneg_right v0 (by omega)
    have k2 : v * (256 - F) ≤ 255 * (256 - F) := Int.mul_le_mul_of_nonneg_right v1 (by omega)
    have k3 : (1 : Int) * F ≤ w * F := Int.mul_le_mul_of_nonneg_right h.1 hF.1
    have k4 : w * F ≤ 255 * F := Int.mul_le_mul_of_nonneg_right h.2 hF.1
    rw [vd_shr8 (by omega) (by omega)]
end VDLN
