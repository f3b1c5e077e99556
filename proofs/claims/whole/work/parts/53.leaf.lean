/-! ===== small methods without memory ===== -/
def vd_wn (v lo hi : Int) : Int := if v < lo then lo else if hi < v then hi else v
theorem vd_wn_b {v lo hi : Int} (h : lo ≤ hi) : lo ≤ vd_wn v lo hi ∧ vd_wn v lo hi ≤ hi := by
  unfold vd_wn
  split
  · omega
  · split <;> omega
def vd_rk (z : Int) : Int := if z < 8 then (if z < 4 then (if z < 2 then 0 else 1) else 2) else 3
theorem vd_rk_b (z : Int) : 0 ≤ vd_rk z ∧ vd_rk z ≤ 3 := by
  unfold vd_rk
  split
  · split
    · split <;> omega
    · omega
  · omega
section VDLF
variable {M N : vd_M} {ow fa lo lf : Nat} {f : Nat → Nat → Int32} {d : Nat} {Q : vd_M → (Option Value ⊕ Nat) → Prop} {a b c : Int}
theorem vd_P289 (a0 : -2147483648 ≤ a) (a1 : a < 2147483648) (b0 : -2147483648 ≤ b) (b1 : b < 2147483648) : vd_wp d 289 0 [.int (vd_I a), .int (vd_I b)] [] (vd_mf M f) Q = Q (vd_mf M f) (.inl (some (.int (vd_I (min a b))))) := by
  simp (disch := omega) only [vd_S289_0, vd_S289_5, vd_S289_9, vd_S289_10, vd_I_toInt]
  split
  · rw [Int.min_eq_right (by omega)]
  · rw [Int.min_eq_left (by omega)]
theorem vd_P287 (a0 : -2147483648 ≤ a) (a1 : a < 2147483648) (b0 : -2147483648 ≤ b) (b1 : b < 2147483648) : vd_wp d 287 0 [.int (vd_I a), .int (vd_I b)] [] (vd_mf M f) Q = Q (vd_mf M f) (.inl (some (.int (vd_I (max a b))))) := by
  simp (disch := omega) only [vd_S287_0, vd_S287_5, vd_S287_9, vd_S287_10, vd_I_toInt]
  split
  · rw [Int.max_eq_right (by omega)]
  · rw [Int.max_eq_left (by omega)]
theorem vd_P292 (a0 : -2147483648 ≤ a) (a1 : a < 2147483648) : vd_wp d 292 0 [.int (vd_I a)] [] (vd_mf M f) Q = Q (vd_mf M f) (.inl (some (.int (vd_I (if a < 0 then -a else a))))) := by
  simp (disch := omega) only [vd_S292_0, vd_S292_4, vd_S292_9, vd_S292_10, vd_I_toInt, vd_I_neg]
  split <;> rfl
theorem vd_P58 (hM : vd_SC M ow fa lo lf) (a0 : -2147483648 ≤ a) (a1 : a < 2147483648) (b0 : -2147483648 ≤ b) (b1 : b < 2147483648) (c0 : -2147483648 ≤ c) (c1 : c < 2147483648) : vd_wp d 58 0 [.int (vd_I a), .int (vd_I b), .int (vd_I c)] [] (vd_mf M f) Q = Q (vd_mf M f) (.inl (some (.int (vd_I (vd_wn a b c))))) := by
  simp (disch := omega) only [vd_S58_0 hM, vd_S58_5 hM, vd_S58_9 hM, vd_S58_14 hM, vd_S58_18 hM, vd_S58_19 hM, vd_I_toInt]
  unfold vd_wn
  split
  · rfl
  · split <;> rfl
theorem vd_P194 (hN : vd_SR N) (a0 : -2147483648 ≤ a) (a1 : a < 2147483648) (b0 : -2147483648 ≤ b) (b1 : b < 2147483648) (c0 : -2147483648 ≤ c) (c1 : c < 2147483648) : vd_wp d 194 0 [.int (vd_I a), .int (vd_I b), .int (vd_I c)] [] (vd_mf N f) Q = Q (vd_mf N f) (.inl (some (.int (vd_I (vd_wn a b c))))) := by
  simp (disch := omega) only [vd_S194_0 hN, vd_S194_5 hN, vd_S194_9 hN, vd_S194_14 hN, vd_S194_18 hN, vd_S194_19 hN, vd_I_toInt]
  unfold vd_wn
  split
  · rfl
  · split <;> rfl
theorem vd_P103 (hM : vd_SC M ow fa lo lf) (a0 : -2147483648 ≤ a) (a1 : a < 2147483648) : vd_wp d 103 0 [.int (vd_I a)] [] (vd_mf M f) Q = Q (vd_mf M f) (.inl (some (.int (vd_I (vd_wn a 0 255))))) := by
  simp (disch := omega) only [vd_S103_0 hM, vd_S103_4 hM, vd_S103_8 hM, vd_S103_15 hM, vd_S103_21 hM, vd_S103_22 hM, vd_I_toInt]
  unfold vd_wn
  split
  · rfl
  · split <;> rfl
theorem vd_P232 (hN : vd_SR N) (a0 : -2147483648 ≤ a) (a1 : a < 2147483648) : vd_wp (d + 1) 232 0 [.int (vd_I a)] [] (vd_mf N f) Q = Q (vd_mf N f) (.inl (some (.int (vd_I (vd_wn a 0 255))))) := by
  simp (disch := omega) only [vd_S232_0 hN, vd_S232_5 hN, vd_S232_8 hN, vd_P194 hN, vd_rs_v, vd_rs_n]
theorem vd_P84 (hM : vd_SC M ow fa lo lf) (a0 : -2147483648 ≤ a) (a1 : a < 2147483648) : vd_wp d 84 0 [.int (vd_I a)] [] (vd_mf M f) Q = Q (vd_mf M f) (.inl (some (.int (vd_I (vd_rk a))))) := by
  simp (disch := omega) only [vd_S84_0 hM, vd_S84_6 hM, vd_S84_10 hM, vd_S84_15 hM, vd_S84_19 hM, vd_S84_24 hM, vd_S84_28 hM, vd_S84_29 hM, vd_I_toInt]
  unfold vd_rk
  split
  · split
    · split <;> rfl
    · rfl
  · rfl
end VDLF
