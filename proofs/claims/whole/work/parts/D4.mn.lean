/-! ===== the mean of what stands round a square ===== -/
def vd_ms (ha hb : Int) (A L : Nat → Int) (j : Nat) : Int := (if ha = 1 then A j else 0) + (if hb = 1 then L j else 0)
def vd_mn (ha hb : Int) (A L : Nat → Int) (n : Nat) : Int := if ha = 0 ∧ hb = 0 then 128 else (vd_sum (vd_ms ha hb A L) n + (ha * (n : Int) + hb * (n : Int)) / 2) / (ha * (n : Int) + hb * (n : Int))
theorem vd_ms_b {ha hb : Int} {A L : Nat → Int} (h1 : ha = 0 ∨ ha = 1) (h2 : hb = 0 ∨ hb = 1) (hA : ∀ j, 0 ≤ A j ∧ A j ≤ 255) (hL : ∀ j, 0 ≤ L j ∧ L j ≤ 255) (j : Nat) : 0 ≤ vd_ms ha hb A L j ∧ vd_ms ha hb A L j ≤ 255 * (ha + hb) := by
  have a := hA j
  have l := hL j
  unfold vd_ms
  rcases h1 with rfl | rfl <;> rcases h2 with rfl | rfl <;> simp only [if_true, if_false, show ¬ ((0 : Int) = 1) by decide] <;> omega
theorem vd_mss_b {ha hb : Int} {A L : Nat → Int} (h1 : ha = 0 ∨ ha = 1) (h2 : hb = 0 ∨ hb = 1) (hA : ∀ j, 0 ≤ A j ∧ A j ≤ 255) (hL : ∀ j, 0 ≤ L j ∧ L j ≤ 255) : ∀ n : Nat, 0 ≤ vd_sum (vd_ms ha hb A L) n ∧ vd_sum (vd_ms ha hb A L) n ≤ 255 * (ha * (n : Int) + hb * (n : Int)) := by
  intro n
  induction n with
  | zero =>
    simp only [vd_sum]
    rcases h1 with rfl | rfl <;> rcases h2 with rfl | rfl <;> omega
  | succ n ih =>
    have := vd_ms_b h1 h2 hA hL n
    simp only [vd_sum]
    rcases h1 with rfl | rfl <;> rcases h2 with rfl | rfl <;> omega
theorem vd_mn_b {ha hb : Int} {A L : Nat → Int} {n : Nat} (h1 : ha = 0 ∨ ha = 1) (h2 : hb = 0 ∨ hb = 1) (hA : ∀ j, 0 ≤ A j ∧ A j ≤ 255) (hL : ∀ j, 0 ≤ L j ∧ L j ≤ 255) (hn : 4 ≤ n) : 0 ≤ vd_mn ha hb A L n ∧ vd_mn ha hb A L n ≤ 255 := by
  have sb := vd_mss_b h1 h2 hA hL n
  unfold vd_mn
  split
  · decide
  · rename_i c
    have m0 : 0 < ha * (n : Int) + hb * (n : Int) := by
      rcases h1 with rfl | rfl <;> rcases h2 with rfl | rfl <;> omega
    generalize vd_sum (vd_ms ha hb A L) n = S at *
    generalize ha * (n : Int) + hb * (n : Int) = m at *
    refine ⟨Int.ediv_nonneg (by omega) (by omega), ?_⟩
    have : (S + m / 2) / m < 256 := (Int.ediv_lt_iff_lt_mul m0).mpr (by omega)
    omega
section VDMN
variable {M N : vd_M} {ow fa lo lf n : Nat} {A L : Nat → Int} {cr ha hb : Int} {f g : Nat → Nat → Int32}
theorem vd_L127 (hM : vd_SC M ow fa lo lf) (hn : 4 ≤ n ∧ n ≤ 32) (hE : vd_EC n (vd_Ee A L cr) f) (h5 : f 52 5 = vd_I (n : Int)) (h6 : f 52 6 = vd_I ha) (h7 : f 52 7 = vd_I hb) (ha1 : ha = 0 ∨ ha = 1) (hb1 : hb = 0 ∨ hb = 1) (d : Nat) (Q : vd_M → (Option Value ⊕ Nat) → Prop) : ∀ (m j : Nat), j + m = n → vd_wp d 127 22 [.ref 52, .int (vd_I (vd_sum (vd_ms ha hb A L) j)), .int (vd_I (j : Int))] [] (vd_mf M f) Q = vd_wp d 127 80 [.ref 52, .int (vd_I (vd_sum (vd_ms ha hb A L) n)), .int (vd_I (n : Int))] [] (vd_mf M f) Q := by
  intro m
  induction m with
  | zero =>
    intro j hj
    have e : j = n := by omega
    subst e
    rw [vd_S127_22 hM, h5]
    simp (disch := omega) only [Int.lt_irrefl, if_false]
  | succ m ih =>
    intro j hj
    have c1 : (j : Int) < (n : Int) := by omega
    have e1 : (j : Int) + 1 = ((j + 1 : Nat) : Int) := by omega
    have a := hE ((j : Int) + 1) (by omega) (by omega)
    rw [show 64 + ((j : Int) + 1) = 65 + (j : Int) by omega, vd_Ee_A (j := j) rfl] at a
    have b := hE (-1 - (j : Int)) (by omega) (by omega)
    rw [show 64 + (-1 - (j : Int)) = 63 - (j : Int) by omega, vd_Ee_L (j := j) (by omega)] at b
    have e2 : vd_sum (vd_ms ha hb A L) (j + 1) = vd_sum (vd_ms ha hb A L) j + vd_ms ha hb A L j := rfl
    have em : vd_ms ha hb A L j = (if ha = 1 then A j else 0) + (if hb = 1 then L j else 0) := rfl
    rw [← ih (j + 1) (by omega), e2, em, vd_S127_22 hM, h5]
    rcases ha1 with rfl | rfl <;> rcases hb1 with rfl | rfl <;> simp (disch := omega) only [vd_S127_30 hM, vd_S127_38 hM, vd_S127_46 hM, vd_S127_50 hM, vd_S127_51 hM, vd_S127_58 hM, vd_S127_66 hM, vd_S127_70 hM, vd_S127_71 hM, h6, h7, vd_I_toInt, c1, eq_self, if_true, if_false, show ¬ ((1 : Int) = 0) by decide, show ¬ ((0 : Int) = 1) by decide, vd_I_add, vd_I_sub, a, b, e1]
theorem vd_P127 (hM : vd_SC M ow fa lo lf) (hn : 4 ≤ n ∧ n ≤ 32) (hE : vd_EC n (vd_Ee A L cr) f) (hV : vd_EV n A L cr) (h5 : f 52 5 = vd_I (n : Int)) (h6 : f 52 6 = vd_I ha) (h7 : f 52 7 = vd_I hb) (ha1 : ha = 0 ∨ ha = 1) (hb1 : hb = 0 ∨ hb = 1) (d : Nat) (Q : vd_M → (Option Value ⊕ Nat) → Prop) : vd_wp d 127 0 [.ref 52, vd_U, vd_U] [] (vd_mf M f) Q = Q (vd_mf M f) (.inl (some (.int (vd_I (vd_mn ha hb A L n))))) := by
  have l := vd_L127 hM hn hE h5 h6 h7 ha1 hb1 d Q n 0 (by omega)
  have s0 : vd_sum (vd_ms ha hb A L) 0 = 0 := rfl
  have z0 : ((0 : Nat) : Int) = 0 := rfl
  rw [s0, z0] at l
  have sb := vd_mss_b ha1 hb1 hV.1 hV.2.1 n
  unfold vd_mn
  generalize vd_sum (vd_ms ha hb A L) n = S at *
  rcases ha1 with rfl | rfl <;> rcases hb1 with rfl | rfl
  · rw [if_pos ⟨rfl, rfl⟩]
    simp (disch := omega) only [vd_S127_0 hM, vd_S127_7 hM, vd_S127_14 hM, h6, h7, vd_I_toInt, eq_self, if_true]
  · rw [if_neg (by decide), show (0 : Int) * (n : Int) + 1 * (n : Int) = (n : Int) by omega]
    simp (disch := omega) only [vd_S127_0 hM, vd_S127_7 hM, vd_S127_18 hM, l, vd_S127_80 hM, vd_S127_103 hM, vd_S127_107 hM, vd_S127_114 hM, h5, h6, h7, vd_I_toInt, eq_self, if_true, if_false, show ¬ ((1 : Int) = 0) by decide, vd_I_div, vd_I_add]
  · rw [if_neg (by decide), show (1 : Int) * (n : Int) + 0 * (n : Int) = (n : Int) by omega]
    simp (disch := omega) only [vd_S127_0 hM, vd_S127_18 hM, l, vd_S127_80 hM, vd_S127_87 hM, vd_S127_103 hM, vd_S127_107 hM, vd_S127_114 hM, h5, h6, h7, vd_I_toInt, eq_self, if_true, if_false, show ¬ ((1 : Int) = 0) by decide, vd_I_div, vd_I_add]
  · rw [if_neg (by decide), show (1 : Int) * (n : Int) + 1 * (n : Int) = 2 * (n : Int) by omega]
    simp (disch := omega) only [vd_S127_0 hM, vd_S127_18 hM, l, vd_S127_80 hM, vd_S127_87 hM, vd_S127_94 hM, vd_S127_107 hM, vd_S127_114 hM, h5, h6, h7, vd_I_toInt, if_false, show ¬ ((1 : Int) = 0) by decide, vd_I_mul, vd_I_div, vd_I_add]
theorem vd_L250 (hN : vd_SR N) (hn : 4 ≤ n ∧ n ≤ 32) (hE : vd_ER n A L cr g) (h6 : g 63 127 = vd_I ha) (h7 : g 63 128 = vd_I hb) (ha1 : ha = 0 ∨ ha = 1) (hb1 : hb = 0 ∨ hb = 1) (d : Nat) (Q : vd_M → (Option Value ⊕ Nat) → Prop) : ∀ (m j : Nat), j + m = n → vd_wp d 250 7 [.ref 63, .int (vd_I (n : Int)), .int (vd_I (vd_sum (vd_ms ha hb A L) j)), .int (vd_I 0), .int (vd_I (j : Int))] [] (vd_mf N g) Q = vd_wp d 250 53 [.ref 63, .int (vd_I (n : Int)), .int (vd_I (vd_sum (vd_ms ha hb A L) n)), .int (vd_I 0), .int (vd_I (n : Int))] [] (vd_mf N g) Q := by
  intro m
  induction m with
  | zero =>
    intro j hj
    have e : j = n := by omega
    subst e
    rw [vd_S250_7 hN]
    simp (disch := omega) only [Int.lt_irrefl, if_false]
  | succ m ih =>
    intro j hj
    have c1 : (j : Int) < (n : Int) := by omega
    have e1 : (j : Int) + 1 = ((j + 1 : Nat) : Int) := by omega
    have a := hE.1 j (by omega)
    have b := hE.2.1 j (by omega)
    have e2 : vd_sum (vd_ms ha hb A L) (j + 1) = vd_sum (vd_ms ha hb A L) j + ((if ha = 1 then A j else 0) + (if hb = 1 then L j else 0)) := rfl
    rw [← ih (j + 1) (by omega), e2, vd_S250_7 hN]
    rcases ha1 with rfl | rfl <;> rcases hb1 with rfl | rfl <;> simp (disch := omega) only [vd_S250_13 hN, vd_S250_20 hN, vd_S250_27 hN, vd_S250_30 hN, vd_S250_37 hN, vd_S250_44 hN, vd_S250_47 hN, h6, h7, vd_I_toInt, c1, eq_self, if_true, if_false, show ¬ ((1 : Int) = 0) by decide, show ¬ ((0 : Int) = 1) by decide, vd_I_add, Int.toNat_natCast, a, b, e1, Int.add_zero, Int.zero_add, Int.add_assoc]
theorem vd_P250 (hN : vd_SR N) (hn : 4 ≤ n ∧ n ≤ 32) (hE : vd_ER n A L cr g) (hV : vd_EV n A L cr) (h6 : g 63 127 = vd_I ha) (h7 : g 63 128 = vd_I hb) (ha1 : ha = 0 ∨ ha = 1) (hb1 : hb = 0 ∨ hb = 1) (d : Nat) (Q : vd_M → (Option Value ⊕ Nat) → Prop) : vd_wp d 250 0 [.ref 63, .int (vd_I (n : Int)), vd_U, vd_U, vd_U] [] (vd_mf N g) Q = Q (vd_mf N g) (.inl (some (.int (vd_I (vd_mn ha hb A L n))))) := by
  have l := vd_L250 hN hn hE h6 h7 ha1 hb1 d Q n 0 (by omega)
  have s0 : vd_sum (vd_ms ha hb A L) 0 = 0 := rfl
  have z0 : ((0 : Nat) : Int) = 0 := rfl
  rw [s0, z0] at l
  have sb := vd_mss_b ha1 hb1 hV.1 hV.2.1 n
  unfold vd_mn
  generalize vd_sum (vd_ms ha hb A L) n = S at *
  have n0 : ¬ ((n : Int) = 0) := by omega
  have n2 : ¬ ((n : Int) + (n : Int) = 0) := by omega
  rcases ha1 with rfl | rfl <;> rcases hb1 with rfl | rfl
  · rw [if_pos ⟨rfl, rfl⟩]
    simp (disch := omega) only [vd_S250_0 hN, l, vd_S250_53 hN, vd_S250_64 hN, vd_S250_75 hN, vd_S250_79 hN, vd_S250_92 hN, h6, h7, vd_I_toInt, eq_self, if_true]
  · rw [if_neg (by decide), show (0 : Int) * (n : Int) + 1 * (n : Int) = (n : Int) by omega]
    simp (disch := omega) only [vd_S250_0 hN, l, vd_S250_53 hN, vd_S250_64 hN, vd_S250_71 hN, vd_S250_75 hN, vd_S250_85 hN, vd_S250_91 hN, vd_S250_92 hN, h6, h7, vd_I_toInt, eq_self, if_true, if_false, show ¬ ((1 : Int) = 0) by decide, vd_I_add, Int.zero_add, n0, vd_I_div]
  · rw [if_neg (by decide), show (1 : Int) * (n : Int) + 0 * (n : Int) = (n : Int) by omega]
    simp (disch := omega) only [vd_S250_0 hN, l, vd_S250_53 hN, vd_S250_60 hN, vd_S250_64 hN, vd_S250_75 hN, vd_S250_85 hN, vd_S250_91 hN, vd_S250_92 hN, h6, h7, vd_I_toInt, eq_self, if_true, if_false, show ¬ ((1 : Int) = 0) by decide, vd_I_add, Int.zero_add, n0, vd_I_div]
  · rw [if_neg (by decide), show (1 : Int) * (n : Int) + 1 * (n : Int) = (n : Int) + (n : Int) by omega]
    simp (disch := omega) only [vd_S250_0 hN, l, vd_S250_53 hN, vd_S250_60 hN, vd_S250_64 hN, vd_S250_71 hN, vd_S250_75 hN, vd_S250_85 hN, vd_S250_91 hN, vd_S250_92 hN, h6, h7, vd_I_toInt, if_false, show ¬ ((1 : Int) = 0) by decide, vd_I_add, Int.zero_add, n2, vd_I_div]
end VDMN
