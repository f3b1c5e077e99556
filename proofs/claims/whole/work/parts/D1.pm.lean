/-! ===== prediction from the picture itself: a sample by its mode ===== -/
/-- the samples round a square: above to the right, the corner, to the left and down -/
def vd_Ee (A L : Nat → Int) (cr : Int) (z : Int) : Int := if z = 0 then cr else if 0 < z then A (z - 1).toNat else L (-z - 1).toNat
theorem vd_Ee_0 (A L : Nat → Int) (cr : Int) : vd_Ee A L cr 0 = cr := if_pos rfl
theorem vd_Ee_p {A L : Nat → Int} {cr z : Int} (h : 0 < z) : vd_Ee A L cr z = A (z - 1).toNat := by
  unfold vd_Ee
  rw [if_neg (by omega), if_pos h]
theorem vd_Ee_n {A L : Nat → Int} {cr z : Int} (h : z < 0) : vd_Ee A L cr z = L (-z - 1).toNat := by
  unfold vd_Ee
  rw [if_neg (by omega), if_neg (by omega)]
theorem vd_Ee_b {A L : Nat → Int} {cr : Int} (hA : ∀ j, 0 ≤ A j ∧ A j ≤ 255) (hL : ∀ j, 0 ≤ L j ∧ L j ≤ 255) (hc : 0 ≤ cr ∧ cr ≤ 255) (z : Int) : 0 ≤ vd_Ee A L cr z ∧ vd_Ee A L cr z ≤ 255 := by
  unfold vd_Ee
  split
  · exact hc
  · split
    · exact hA _
    · exact hL _
def vd_m3 (E : Int → Int) (z : Int) : Int := (E (z - 1) + 2 * E z + E (z + 1) + 2) / 4
def vd_m2 (E : Int → Int) (z : Int) : Int := (E z + E (z + 1) + 1) / 2
theorem vd_m3_b {E : Int → Int} (h : ∀ z, 0 ≤ E z ∧ E z ≤ 255) (z : Int) : 0 ≤ vd_m3 E z ∧ vd_m3 E z ≤ 255 := by
  have h1 := h (z - 1)
  have h2 := h z
  have h3 := h (z + 1)
  unfold vd_m3
  omega
theorem vd_m2_b {E : Int → Int} (h : ∀ z, 0 ≤ E z ∧ E z ≤ 255) (z : Int) : 0 ≤ vd_m2 E z ∧ vd_m2 E z ≤ 255 := by
  have h2 := h z
  have h3 := h (z + 1)
  unfold vd_m2
  omega
def vd_pm5 (E : Int → Int) (v : Int) : Int := if v < 0 then vd_m3 E (v + 1) else if v % 2 = 0 then vd_m2 E (v / 2) else vd_m3 E ((v + 1) / 2)
def vd_pm6 (E : Int → Int) (v : Int) : Int := if v < 0 then vd_m3 E (-v - 1) else if v % 2 = 0 then vd_m2 E (-(v / 2) - 1) else vd_m3 E (-((v + 1) / 2))
def vd_pm (E : Int → Int) (n : Nat) (md : Int) (x y : Nat) : Int := if md = 1 then E (1 + (x : Int)) else if md = 2 then E (-1 - (y : Int)) else if md = 3 then (if x + y = 2 * n - 2 then E (2 * (n : Int)) else vd_m3 E ((x : Int) + (y : Int) + 2)) else if md = 4 then vd_m3 E ((x : Int) - (y : Int)) else if md = 5 then vd_pm5 E (2 * (x : Int) - (y : Int)) else if md = 6 then vd_pm6 E (2 * (y : Int) - (x : Int)) else if md = 7 then (if x % 2 = 0 then vd_m2 E (-((x / 2 + y : Nat) : Int) - 2) else vd_m3 E (-((x / 2 + y : Nat) : Int) - 2)) else if md = 8 then (if y % 2 = 0 then vd_m2 E (((y / 2 + x : Nat) : Int) + 1) else vd_m3 E (((y / 2 + x : Nat) : Int) + 2)) else vd_wn (E (-1 - (y : Int)) + E (1 + (x : Int)) - E 0) 0 255
theorem vd_pm_b {E : Int → Int} (h : ∀ z, 0 ≤ E z ∧ E z ≤ 255) (n : Nat) (md : Int) (x y : Nat) : 0 ≤ vd_pm E n md x y ∧ vd_pm E n md x y ≤ 255 := by
  unfold vd_pm
  split
  · exact h _
  · split
    · exact h _
    · split
      · split
        · exact h _
        · exact vd_m3_b h _
      · split
        · exact vd_m3_b h _
        · split
          · unfold vd_pm5
            split
            · exact vd_m3_b h _
            · split
              · exact vd_m2_b h _
              · exact vd_m3_b h _
          · split
            · unfold vd_pm6
              split
              · exact vd_m3_b h _
              · split
                · exact vd_m2_b h _
                · exact vd_m3_b h _
            · split
              · split
                · exact vd_m2_b h _
                · exact vd_m3_b h _
              · split
                · split
                  · exact vd_m2_b h _
                  · exact vd_m3_b h _
                · exact vd_wn_b (by decide)
theorem vd_ndiv2 {v : Int} (h0 : 0 ≤ v) (h1 : v < 2147483648) : vd_I (-v) / vd_I 2 = vd_I (-(v / 2)) := by
  rw [vd_I_tdiv (by omega) (by omega) (by decide) (by decide), Int.neg_tdiv, Int.tdiv_eq_ediv_of_nonneg h0]
theorem vd_mod2 {v : Int} (h0 : 0 ≤ v) (h1 : v < 2147483648) : vd_I v - vd_I (v / 2) * vd_I 2 = vd_I (v % 2) := by
  rw [vd_I_mul, vd_I_sub]
  congr 1
  omega
section VDPMC
variable {M : vd_M} {ow fa lo lf n : Nat} {E : Int → Int} {f : Nat → Nat → Int32}
/-- the class's row of samples round a square -/
def vd_EC (n : Nat) (E : Int → Int) (f : Nat → Nat → Int32) : Prop := ∀ z : Int, -(2 * (n : Int)) ≤ z → z ≤ 2 * (n : Int) → f 53 (64 + z).toNat = vd_I (E z)
theorem vd_P129 (hM : vd_SC M ow fa lo lf) (hn : 1 ≤ n ∧ n ≤ 32) (hE : vd_EC n E f) (hEb : ∀ z, 0 ≤ E z ∧ E z ≤ 255) {z : Int} (z0 : -(2 * (n : Int)) < z) (z1 : z < 2 * (n : Int)) (d : Nat) (Q : vd_M → (Option Value ⊕ Nat) → Prop) : vd_wp d 129 0 [.ref 52, .int (vd_I z)] [] (vd_mf M f) Q = Q (vd_mf M f) (.inl (some (.int (vd_I (vd_m3 E z))))) := by
  have a := hE (z - 1) (by omega) (by omega)
  have b := hE z (by omega) (by omega)
  have c := hE (z + 1) (by omega) (by omega)
  rw [show 64 + (z - 1) = 64 + z - 1 by omega] at a
  rw [show 64 + (z + 1) = 64 + z + 1 by omega] at c
  have h1 := hEb (z - 1)
  have h2 := hEb z
  have h3 := hEb (z + 1)
  have e : vd_m3 E z = (E (z - 1) + 2 * E z + E (z + 1) + 2) / 4 := rfl
  rw [e]
  generalize E (z - 1) = ea at *
  generalize E z = eb at *
  generalize E (z + 1) = ec at *
  simp (disch := omega) only [vd_S129_0 hM, vd_S129_10 hM, vd_S129_20 hM, vd_S129_33 hM, vd_I_add, vd_I_sub, vd_I_mul, a, b, c, vd_shr2]
theorem vd_P130 (hM : vd_SC M ow fa lo lf) (hn : 1 ≤ n ∧ n ≤ 32) (hE : vd_EC n E f) (hEb : ∀ z, 0 ≤ E z ∧ E z ≤ 255) {z : Int} (z0 : -(2 * (n : Int)) ≤ z) (z1 : z < 2 * (n : Int)) (d : Nat) (Q : vd_M → (Option Value ⊕ Nat) → Prop) : vd_wp d 130 0 [.ref 52, .int (vd_I z)] [] (vd_mf M f) Q = Q (vd_mf M f) (.inl (some (.int (vd_I (vd_m2 E z))))) := by
  have b := hE z (by omega) (by omega)
  have c := hE (z + 1) (by omega) (by omega)
  rw [show 64 + (z + 1) = 64 + z + 1 by omega] at c
  have h2 := hEb z
  have h3 := hEb (z + 1)
  have e : vd_m2 E z = (E z + E (z + 1) + 1) / 2 := rfl
  rw [e]
  generalize E z = eb at *
  generalize E (z + 1) = ec at *
  simp (disch := omega) only [vd_S130_0 hM, vd_S130_8 hM, vd_S130_19 hM, vd_I_add, b, c, vd_shr1]
theorem vd_P128 (hM : vd_SC M ow fa lo lf) (hn : 4 ≤ n ∧ n ≤ 32) (hE : vd_EC n E f) (hEb : ∀ z, 0 ≤ E z ∧ E z ≤ 255) (h5 : f 52 5 = vd_I (n : Int)) {md : Int} (m0 : 1 ≤ md) (m1 : md ≤ 9) {x y : Nat} (hx : x < n) (hy : y < n) (d : Nat) (Q : vd_M → (Option Value ⊕ Nat) → Prop) : vd_wp (d + 1) 128 0 [.ref 52, .int (vd_I md), .int (vd_I (x : Int)), .int (vd_I (y : Int)), vd_U] [] (vd_mf M f) Q = Q (vd_mf M f) (.inl (some (.int (vd_I (vd_pm E n md x y))))) := by
  have P3 := fun (z : Int) (z0 : -(2 * (n : Int)) < z) (z1 : z < 2 * (n : Int)) => vd_P129 hM ⟨by omega, hn.2⟩ hE hEb z0 z1
  have P2 := fun (z : Int) (z0 : -(2 * (n : Int)) ≤ z) (z1 : z < 2 * (n : Int)) => vd_P130 hM ⟨by omega, hn.2⟩ hE hEb z0 z1
  have : md = 1 ∨ md = 2 ∨ md = 3 ∨ md = 4 ∨ md = 5 ∨ md = 6 ∨ md = 7 ∨ md = 8 ∨ md = 9 := by omega
  rcases this with rfl | rfl | rfl | rfl | rfl | rfl | rfl | rfl | rfl
  · have t : vd_tsw 1 295 1 8 #[47, 57, 67, 108, 116, 169, 227, 262] (vd_I 1) = 48 := by decide
    have e : vd_pm E n 1 x y = E (1 + (x : Int)) := if_pos rfl
    have a := hE (1 + (x : Int)) (by omega) (by omega)
    rw [show 64 + (1 + (x : Int)) = 65 + (x : Int) by omega] at a
    rw [e]
    simp (disch := omega) only [vd_S128_0 hM, vd_S128_1 hM, t, vd_S128_48 hM, vd_S128_56 hM, vd_I_add, a]
  · have t : vd_tsw 1 295 1 8 #[47, 57, 67, 108, 116, 169, 227, 262] (vd_I 2) = 58 := by decide
    have e : vd_pm E n 2 x y = E (-1 - (y : Int)) := rfl
    have a := hE (-1 - (y : Int)) (by omega) (by omega)
    rw [show 64 + (-1 - (y : Int)) = 63 - (y : Int) by omega] at a
    rw [e]
    simp (disch := omega) only [vd_S128_0 hM, vd_S128_1 hM, t, vd_S128_58 hM, vd_S128_66 hM, vd_I_sub, a]
  · have t : vd_tsw 1 295 1 8 #[47, 57, 67, 108, 116, 169, 227, 262] (vd_I 3) = 68 := by decide
    have e : vd_pm E n 3 x y = (if x + y = 2 * n - 2 then E (2 * (n : Int)) else vd_m3 E ((x : Int) + (y : Int) + 2)) := rfl
    rw [e]
    by_cases c : x + y = 2 * n - 2
    · have c' : (x : Int) + (y : Int) = 2 * (n : Int) - 2 := by omega
      have a := hE (2 * (n : Int)) (by omega) (by omega)
      rw [if_pos c]
      simp (disch := omega) only [vd_S128_0 hM, vd_S128_1 hM, t, vd_S128_68 hM, vd_S128_82 hM, vd_S128_95 hM, vd_S128_108 hM, h5, vd_I_add, vd_I_sub, vd_I_mul, vd_I_toInt, c', eq_self, if_true, a]
    · have c' : ¬ ((x : Int) + (y : Int) = 2 * (n : Int) - 2) := by omega
      rw [if_neg c]
      simp (disch := omega) only [vd_S128_0 hM, vd_S128_1 hM, t, vd_S128_68 hM, vd_S128_99 hM, vd_S128_105 hM, vd_S128_108 hM, h5, vd_I_add, vd_I_sub, vd_I_mul, vd_I_toInt, c', if_false, P3, vd_rs_v, vd_rs_n]
  · have t : vd_tsw 1 295 1 8 #[47, 57, 67, 108, 116, 169, 227, 262] (vd_I 4) = 109 := by decide
    have e : vd_pm E n 4 x y = vd_m3 E ((x : Int) - (y : Int)) := rfl
    rw [e]
    simp (disch := omega) only [vd_S128_0 hM, vd_S128_1 hM, t, vd_S128_109 hM, vd_S128_113 hM, vd_S128_116 hM, vd_I_sub, P3, vd_rs_v, vd_rs_n]
  · have t : vd_tsw 1 295 1 8 #[47, 57, 67, 108, 116, 169, 227, 262] (vd_I 5) = 117 := by decide
    have e : vd_pm E n 5 x y = vd_pm5 E (2 * (x : Int) - (y : Int)) := rfl
    rw [e]
    have v0 : -(n : Int) < 2 * (x : Int) - (y : Int) ∧ 2 * (x : Int) - (y : Int) < 2 * (n : Int) - 1 := by omega
    have i2 : (2 : Int) * (x : Int) - (y : Int) = 2 * (x : Int) - (y : Int) := rfl
    generalize hv : 2 * (x : Int) - (y : Int) = v at *
    unfold vd_pm5
    by_cases c : v < 0
    · rw [if_pos c]
      simp (disch := omega) only [vd_S128_0 hM, vd_S128_1 hM, t, vd_S128_117 hM, vd_S128_147 hM, vd_S128_153 hM, vd_S128_166 hM, vd_S128_169 hM, vd_I_mul, vd_I_sub, vd_I_add, hv, vd_I_toInt, c, if_true, P3, vd_rs_v, vd_rs_n]
    · rw [if_neg c]
      have r2 := vd_mod2 (v := v) (by omega) (by omega)
      by_cases c2 : v % 2 = 0
      · rw [if_pos c2]
        simp (disch := omega) only [vd_S128_0 hM, vd_S128_1 hM, t, vd_S128_117 hM, vd_S128_129 hM, vd_S128_136 hM, vd_S128_141 hM, vd_S128_144 hM, vd_S128_169 hM, vd_I_mul, vd_I_sub, hv, vd_I_toInt, c, if_false]
        simp (disch := omega) only [vd_I_div, r2, vd_I_toInt, c2, eq_self, if_true, P2, vd_rs_v, vd_rs_n, vd_S128_144 hM, vd_S128_169 hM, vd_S128_136 hM, vd_S128_141 hM]
      · rw [if_neg c2]
        simp (disch := omega) only [vd_S128_0 hM, vd_S128_1 hM, t, vd_S128_117 hM, vd_S128_129 hM, vd_I_mul, vd_I_sub, hv, vd_I_toInt, c, if_false]
        simp (disch := omega) only [vd_I_div, r2, vd_I_toInt, c2, if_false, vd_S128_147 hM, c, vd_S128_160 hM, vd_S128_166 hM, vd_S128_169 hM, vd_I_add, P3, vd_rs_v, vd_rs_n]
  · have t : vd_tsw 1 295 1 8 #[47, 57, 67, 108, 116, 169, 227, 262] (vd_I 6) = 170 := by decide
    have e : vd_pm E n 6 x y = vd_pm6 E (2 * (y : Int) - (x : Int)) := rfl
    rw [e]
    have v0 : -(n : Int) < 2 * (y : Int) - (x : Int) ∧ 2 * (y : Int) - (x : Int) < 2 * (n : Int) - 1 := by omega
    generalize hv : 2 * (y : Int) - (x : Int) = v at *
    unfold vd_pm6
    by_cases c : v < 0
    · rw [if_pos c]
      simp (disch := omega) only [vd_S128_0 hM, vd_S128_1 hM, t, vd_S128_170 hM, vd_S128_203 hM, vd_S128_209 hM, vd_S128_224 hM, vd_S128_227 hM, vd_I_mul, vd_I_sub, vd_I_neg, hv, vd_I_toInt, c, if_true, P3, vd_rs_v, vd_rs_n]
    · rw [if_neg c]
      have r2 := vd_mod2 (v := v) (by omega) (by omega)
      have nd := vd_ndiv2 (v := v) (by omega) (by omega)
      have nd1 := vd_ndiv2 (v := v + 1) (by omega) (by omega)
      by_cases c2 : v % 2 = 0
      · rw [if_pos c2]
        simp (disch := omega) only [vd_S128_0 hM, vd_S128_1 hM, t, vd_S128_170 hM, vd_S128_182 hM, vd_I_mul, vd_I_sub, hv, vd_I_toInt, c, if_false]
        simp (disch := omega) only [vd_I_div, r2, vd_I_toInt, c2, eq_self, if_true, vd_S128_189 hM, vd_I_neg, nd, vd_I_sub, vd_S128_197 hM, vd_S128_200 hM, vd_S128_227 hM, P2, vd_rs_v, vd_rs_n]
      · rw [if_neg c2]
        simp (disch := omega) only [vd_S128_0 hM, vd_S128_1 hM, t, vd_S128_170 hM, vd_S128_182 hM, vd_I_mul, vd_I_sub, hv, vd_I_toInt, c, if_false]
        simp (disch := omega) only [vd_I_div, r2, vd_I_toInt, c2, if_false, vd_S128_203 hM, c, vd_S128_217 hM, vd_I_add, vd_I_neg, nd1, vd_S128_224 hM, vd_S128_227 hM, P3, vd_rs_v, vd_rs_n]
  · have t : vd_tsw 1 295 1 8 #[47, 57, 67, 108, 116, 169, 227, 262] (vd_I 7) = 228 := by decide
    have e : vd_pm E n 7 x y = (if x % 2 = 0 then vd_m2 E (-((x / 2 + y : Nat) : Int) - 2) else vd_m3 E (-((x / 2 + y : Nat) : Int) - 2)) := rfl
    rw [e]
    have r2 := vd_mod2 (v := (x : Int)) (by omega) (by omega)
    have ev : (x : Int) / 2 + (y : Int) = ((x / 2 + y : Nat) : Int) := by omega
    by_cases c : x % 2 = 0
    · have c' : (x : Int) % 2 = 0 := by omega
      rw [if_pos c]
      simp (disch := omega) only [vd_S128_0 hM, vd_S128_1 hM, t, vd_S128_228 hM, vd_I_div, r2, vd_I_toInt, c', eq_self, if_true, vd_I_add, ev, vd_S128_241 hM, vd_I_neg, vd_I_sub, vd_S128_247 hM, vd_S128_250 hM, vd_S128_262 hM, P2, vd_rs_v, vd_rs_n]
    · have c' : ¬ ((x : Int) % 2 = 0) := by omega
      rw [if_neg c]
      simp (disch := omega) only [vd_S128_0 hM, vd_S128_1 hM, t, vd_S128_228 hM, vd_I_div, r2, vd_I_toInt, c', if_false, vd_I_add, ev, vd_S128_253 hM, vd_I_neg, vd_I_sub, vd_S128_259 hM, vd_S128_262 hM, P3, vd_rs_v, vd_rs_n]
  · have t : vd_tsw 1 295 1 8 #[47, 57, 67, 108, 116, 169, 227, 262] (vd_I 8) = 263 := by decide
    have e : vd_pm E n 8 x y = (if y % 2 = 0 then vd_m2 E (((y / 2 + x : Nat) : Int) + 1) else vd_m3 E (((y / 2 + x : Nat) : Int) + 2)) := rfl
    rw [e]
    have r2 := vd_mod2 (v := (y : Int)) (by omega) (by omega)
    have ev : (y : Int) / 2 + (x : Int) = ((y / 2 + x : Nat) : Int) := by omega
    by_cases c : y % 2 = 0
    · have c' : (y : Int) % 2 = 0 := by omega
      rw [if_pos c]
      simp (disch := omega) only [vd_S128_0 hM, vd_S128_1 hM, t, vd_S128_263 hM, vd_I_div, r2, vd_I_toInt, c', eq_self, if_true, vd_I_add, ev, vd_S128_276 hM, vd_S128_281 hM, vd_S128_284 hM, vd_S128_295 hM, P2, vd_rs_v, vd_rs_n]
    · have c' : ¬ ((y : Int) % 2 = 0) := by omega
      rw [if_neg c]
      simp (disch := omega) only [vd_S128_0 hM, vd_S128_1 hM, t, vd_S128_263 hM, vd_I_div, r2, vd_I_toInt, c', if_false, vd_I_add, ev, vd_S128_287 hM, vd_S128_292 hM, vd_S128_295 hM, P3, vd_rs_v, vd_rs_n]
  · have t : vd_tsw 1 295 1 8 #[47, 57, 67, 108, 116, 169, 227, 262] (vd_I 9) = 296 := by decide
    have e : vd_pm E n 9 x y = vd_wn (E (-1 - (y : Int)) + E (1 + (x : Int)) - E 0) 0 255 := rfl
    rw [e]
    have a := hE (-1 - (y : Int)) (by omega) (by omega)
    rw [show 64 + (-1 - (y : Int)) = 63 - (y : Int) by omega] at a
    have b := hE (1 + (x : Int)) (by omega) (by omega)
    rw [show 64 + (1 + (x : Int)) = 65 + (x : Int) by omega] at b
    have c := hE 0 (by omega) (by omega)
    rw [Int.add_zero] at c
    have h1 := hEb (-1 - (y : Int))
    have h2 := hEb (1 + (x : Int))
    have h3 := hEb 0
    generalize E (-1 - (y : Int)) = ea at *
    generalize E (1 + (x : Int)) = eb at *
    generalize E 0 = ec at *
    have P103 := fun (f : Nat → Nat → Int32) (d : Nat) (Q : vd_M → (Option Value ⊕ Nat) → Prop) => vd_P103 (a := ea + eb - ec) (f := f) (d := d) (Q := Q) hM (by omega) (by omega)
    simp (disch := omega) only [vd_S128_0 hM, vd_S128_1 hM, t, vd_S128_296 hM, vd_S128_304 hM, vd_S128_313 hM, vd_S128_321 hM, vd_S128_323 hM, vd_S128_326 hM, vd_I_add, vd_I_sub, a, b, c, P103, vd_rs_v, vd_rs_n]
end VDPMC
