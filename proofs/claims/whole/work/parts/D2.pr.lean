/-! ===== the same in the reference ===== -/
theorem vd_Ee_A {A L : Nat → Int} {cr z : Int} {j : Nat} (h : z = (j : Int) + 1) : vd_Ee A L cr z = A j := by
  rw [vd_Ee_p (by omega), show (z - 1).toNat = j by omega]
theorem vd_Ee_L {A L : Nat → Int} {cr z : Int} {j : Nat} (h : z = -(j : Int) - 1) : vd_Ee A L cr z = L j := by
  rw [vd_Ee_n (by omega), show (-z - 1).toNat = j by omega]
section VDPMR
variable {N : vd_M} {n : Nat} {A L : Nat → Int} {cr : Int} {g : Nat → Nat → Int32}
def vd_ER (n : Nat) (A L : Nat → Int) (cr : Int) (g : Nat → Nat → Int32) : Prop := (∀ j, j < 2 * n → g 126 j = vd_I (A j)) ∧ (∀ j, j < n → g 127 j = vd_I (L j)) ∧ g 63 126 = vd_I cr
/-- what may be round a square -/
def vd_EV (n : Nat) (A L : Nat → Int) (cr : Int) : Prop := (∀ j, 0 ≤ A j ∧ A j ≤ 255) ∧ (∀ j, 0 ≤ L j ∧ L j ≤ 255) ∧ (0 ≤ cr ∧ cr ≤ 255) ∧ (∀ j, n ≤ j → L j = L (n - 1))
theorem vd_r2 (hN : vd_SR N) {v : Int} (v0 : -1000000000 ≤ v) (v1 : v ≤ 1000000000) (g : Nat → Nat → Int32) (d : Nat) (Q : vd_M → (Option Value ⊕ Nat) → Prop) : vd_wp d 231 0 [.int (vd_I v), .int (vd_I 2)] [] (vd_mf N g) Q = Q (vd_mf N g) (.inl (some (.int (vd_I ((v + 2) / 4))))) := by
  have e : vd_I 1 <<< ((vd_I 2 - vd_I 1) &&& 31) = vd_I 2 := by decide
  simp (disch := omega) only [vd_S231_0 hN, e, vd_I_add, vd_shr2]
theorem vd_P252 (hN : vd_SR N) {a b c : Int} (a0 : 0 ≤ a ∧ a ≤ 255) (b0 : 0 ≤ b ∧ b ≤ 255) (c0 : 0 ≤ c ∧ c ≤ 255) (d : Nat) (Q : vd_M → (Option Value ⊕ Nat) → Prop) : vd_wp (d + 1) 252 0 [.int (vd_I a), .int (vd_I b), .int (vd_I c)] [] (vd_mf N g) Q = Q (vd_mf N g) (.inl (some (.int (vd_I ((a + 2 * b + c + 2) / 4))))) := by
  have P := vd_r2 hN (v := a + 2 * b + c) (by omega) (by omega) g
  simp (disch := omega) only [vd_S252_0 hN, vd_S252_8 hN, vd_S252_11 hN, vd_I_mul, vd_I_add, P, vd_rs_v, vd_rs_n]
theorem vd_P255 (hN : vd_SR N) {a b : Int} (a0 : 0 ≤ a ∧ a ≤ 255) (b0 : 0 ≤ b ∧ b ≤ 255) (d : Nat) (Q : vd_M → (Option Value ⊕ Nat) → Prop) : vd_wp (d + 1) 255 0 [.int (vd_I a), .int (vd_I b)] [] (vd_mf N g) Q = Q (vd_mf N g) (.inl (some (.int (vd_I ((a + b + 1) / 2))))) := by
  have P := vd_r1 hN (v := a + b) (by omega) (by omega) g
  simp (disch := omega) only [vd_S255_0 hN, vd_S255_4 hN, vd_S255_7 hN, vd_I_add, P, vd_rs_v, vd_rs_n]
theorem vd_P253 (hN : vd_SR N) (hn : 4 ≤ n ∧ n ≤ 32) (hE : vd_ER n A L cr g) {z : Int} (z0 : -(n : Int) ≤ z) (z1 : z ≤ 2 * (n : Int)) (d : Nat) (Q : vd_M → (Option Value ⊕ Nat) → Prop) : vd_wp d 253 0 [.ref 63, .int (vd_I z)] [] (vd_mf N g) Q = Q (vd_mf N g) (.inl (some (.int (vd_I (vd_Ee A L cr z))))) := by
  by_cases c : z = 0
  · rw [c, vd_Ee_0]
    simp (disch := omega) only [vd_S253_0 hN, vd_S253_4 hN, vd_S253_35 hN, vd_I_toInt, eq_self, if_true, hE.2.2]
  · by_cases c2 : 0 < z
    · rw [vd_Ee_p c2]
      have a := hE.1 (z - 1).toNat (by omega)
      simp (disch := omega) only [vd_S253_0 hN, vd_S253_11 hN, vd_S253_15 hN, vd_S253_22 hN, vd_S253_35 hN, vd_I_toInt, c, c2, if_true, if_false, vd_I_sub, a]
    · rw [vd_Ee_n (by omega)]
      have a := hE.2.1 (-z - 1).toNat (by omega)
      simp (disch := omega) only [vd_S253_0 hN, vd_S253_11 hN, vd_S253_26 hN, vd_S253_34 hN, vd_S253_35 hN, vd_I_toInt, c, c2, if_false, vd_I_neg, vd_I_sub, a]
theorem vd_P254 (hN : vd_SR N) (hn : 4 ≤ n ∧ n ≤ 32) (hE : vd_ER n A L cr g) (hV : vd_EV n A L cr) {x y : Nat} (hx : x < n) (hy : y < n) (d : Nat) (Q : vd_M → (Option Value ⊕ Nat) → Prop) : vd_wp (d + 2) 254 0 [.ref 63, .int (vd_I (x : Int)), .int (vd_I (y : Int)), vd_U, vd_U] [] (vd_mf N g) Q = Q (vd_mf N g) (.inl (some (.int (vd_I (vd_pm5 (vd_Ee A L cr) (2 * (x : Int) - (y : Int))))))) := by
  have Eb := vd_Ee_b hV.1 hV.2.1 hV.2.2.1
  have P := fun (z : Int) (z0 : -(n : Int) ≤ z) (z1 : z ≤ 2 * (n : Int)) => vd_P253 hN hn hE z0 z1
  have v0 : -(n : Int) < 2 * (x : Int) - (y : Int) ∧ 2 * (x : Int) - (y : Int) < 2 * (n : Int) - 1 := by omega
  generalize hv : 2 * (x : Int) - (y : Int) = v at *
  generalize vd_Ee A L cr = E at *
  unfold vd_pm5
  by_cases c : v < 0
  · rw [if_pos c]
    have c0 : ¬ (0 < v) := by omega
    have T := vd_P252 (g := g) hN (Eb (v + 1 - 1)) (Eb (v + 1)) (Eb (v + 1 + 1))
    have e3 : vd_m3 E (v + 1) = (E (v + 1 - 1) + 2 * E (v + 1) + E (v + 1 + 1) + 2) / 4 := rfl
    rw [e3]
    by_cases cu : -v - 1 = 0
    · have z1 : v + 1 - 1 = -1 := by omega
      have z2 : v + 1 = 0 := by omega
      have z3 : v + 1 + 1 = 1 := by omega
      rw [z1, z3, z2] at T
      rw [z1, z3, z2]
      simp (disch := omega) only [vd_S254_0 hN, vd_S254_36 hN, vd_S254_71 hN, vd_S254_82 hN, vd_S254_84 hN, vd_S254_87 hN, vd_S254_89 hN, vd_S254_92 hN, vd_S254_94 hN, vd_S254_97 hN, vd_S254_100 hN, vd_S254_131 hN, vd_I_mul, vd_I_sub, vd_I_neg, hv, vd_I_toInt, c, c0, cu, eq_self, if_true, if_false, P, T, vd_rs_v, vd_rs_n]
    · have z1 : -(-v - 1) - 1 = v + 1 - 1 := by omega
      have z2 : -(-v - 1) = v + 1 := by omega
      have z3 : -(-v - 1) + 1 = v + 1 + 1 := by omega
      simp (disch := omega) only [vd_S254_0 hN, vd_S254_36 hN, vd_S254_71 hN, vd_S254_103 hN, vd_S254_109 hN, vd_S254_112 hN, vd_S254_116 hN, vd_S254_119 hN, vd_S254_125 hN, vd_S254_128 hN, vd_S254_131 hN, vd_I_mul, vd_I_sub, vd_I_add, vd_I_neg, hv, vd_I_toInt, c, c0, cu, if_true, if_false, z1, z2, z3, P, T, vd_rs_v, vd_rs_n]
  · rw [if_neg c]
    have r2 := vd_mod2 (v := v) (by omega) (by omega)
    by_cases c2 : v % 2 = 0
    · rw [if_pos c2]
      have T := vd_P255 (g := g) hN (Eb (v / 2)) (Eb (v / 2 + 1))
      have e2 : vd_m2 E (v / 2) = (E (v / 2) + E (v / 2 + 1) + 1) / 2 := rfl
      rw [e2]
      simp (disch := omega) only [vd_S254_0 hN, vd_S254_10 hN, vd_I_mul, vd_I_sub, hv, vd_I_toInt, c, if_false]
      simp (disch := omega) only [vd_I_div, r2, vd_I_toInt, c2, eq_self, if_true, vd_S254_16 hN, vd_S254_20 hN, vd_S254_23 hN, vd_S254_29 hN, vd_S254_32 hN, vd_S254_35 hN, vd_I_add, P, T, vd_rs_v, vd_rs_n]
    · rw [if_neg c2]
      have c0 : 0 < v := by omega
      have T := vd_P252 (g := g) hN (Eb ((v + 1) / 2 - 1)) (Eb ((v + 1) / 2)) (Eb ((v + 1) / 2 + 1))
      have e3 : vd_m3 E ((v + 1) / 2) = (E ((v + 1) / 2 - 1) + 2 * E ((v + 1) / 2) + E ((v + 1) / 2 + 1) + 2) / 4 := rfl
      have z1 : (v - 1) / 2 = (v + 1) / 2 - 1 := by omega
      have z3 : (v + 3) / 2 = (v + 1) / 2 + 1 := by omega
      rw [e3]
      simp (disch := omega) only [vd_S254_0 hN, vd_S254_10 hN, vd_I_mul, vd_I_sub, hv, vd_I_toInt, c, if_false]
      simp (disch := omega) only [vd_I_div, r2, vd_I_toInt, c2, if_false, vd_S254_36 hN, c0, if_true, vd_S254_40 hN, vd_S254_46 hN, vd_S254_49 hN, vd_S254_55 hN, vd_S254_58 hN, vd_S254_64 hN, vd_S254_67 hN, vd_S254_70 hN, vd_I_add, vd_I_sub, z1, z3, P, T, vd_rs_v, vd_rs_n]
theorem vd_P256 (hN : vd_SR N) (hn : 4 ≤ n ∧ n ≤ 32) (hE : vd_ER n A L cr g) (hV : vd_EV n A L cr) {x y : Nat} (hx : x < n) (hy : y < n) (d : Nat) (Q : vd_M → (Option Value ⊕ Nat) → Prop) : vd_wp (d + 2) 256 0 [.ref 63, .int (vd_I (x : Int)), .int (vd_I (y : Int)), vd_U, vd_U] [] (vd_mf N g) Q = Q (vd_mf N g) (.inl (some (.int (vd_I (vd_pm6 (vd_Ee A L cr) (2 * (y : Int) - (x : Int))))))) := by
  have Eb := vd_Ee_b hV.1 hV.2.1 hV.2.2.1
  have P := fun (z : Int) (z0 : -(n : Int) ≤ z) (z1 : z ≤ 2 * (n : Int)) => vd_P253 hN hn hE z0 z1
  have v0 : -(n : Int) < 2 * (y : Int) - (x : Int) ∧ 2 * (y : Int) - (x : Int) < 2 * (n : Int) - 1 := by omega
  generalize hv : 2 * (y : Int) - (x : Int) = v at *
  generalize vd_Ee A L cr = E at *
  unfold vd_pm6
  by_cases c : v < 0
  · rw [if_pos c]
    have c0 : ¬ (0 < v) := by omega
    have T := vd_P252 (g := g) hN (Eb (-v - 1 - 1)) (Eb (-v - 1)) (Eb (-v - 1 + 1))
    have e3 : vd_m3 E (-v - 1) = (E (-v - 1 - 1) + 2 * E (-v - 1) + E (-v - 1 + 1) + 2) / 4 := rfl
    rw [e3]
    by_cases cu : -v - 1 = 0
    · have z1 : -v - 1 - 1 = -1 := by omega
      have z3 : -v - 1 + 1 = 1 := by omega
      rw [z1, z3, cu] at T
      rw [z1, z3, cu]
      simp (disch := omega) only [vd_S256_0 hN, vd_S256_38 hN, vd_S256_76 hN, vd_S256_87 hN, vd_S256_89 hN, vd_S256_92 hN, vd_S256_94 hN, vd_S256_97 hN, vd_S256_99 hN, vd_S256_102 hN, vd_S256_105 hN, vd_S256_133 hN, vd_I_mul, vd_I_sub, vd_I_neg, hv, vd_I_toInt, c, c0, cu, eq_self, if_true, if_false, P, T, vd_rs_v, vd_rs_n]
    · simp (disch := omega) only [vd_S256_0 hN, vd_S256_38 hN, vd_S256_76 hN, vd_S256_108 hN, vd_S256_113 hN, vd_S256_116 hN, vd_S256_119 hN, vd_S256_122 hN, vd_S256_127 hN, vd_S256_130 hN, vd_S256_133 hN, vd_I_mul, vd_I_sub, vd_I_add, vd_I_neg, hv, vd_I_toInt, c, c0, cu, if_true, if_false, P, T, vd_rs_v, vd_rs_n]
  · rw [if_neg c]
    have r2 := vd_mod2 (v := v) (by omega) (by omega)
    have nd := vd_ndiv2 (v := v) (by omega) (by omega)
    by_cases c2 : v % 2 = 0
    · rw [if_pos c2]
      have T := vd_P255 (g := g) hN (Eb (-(v / 2))) (Eb (-(v / 2) - 1))
      have e2 : vd_m2 E (-(v / 2) - 1) = (E (-(v / 2)) + E (-(v / 2) - 1) + 1) / 2 := by
        unfold vd_m2
        rw [show -(v / 2) - 1 + 1 = -(v / 2) by omega, Int.add_comm (E (-(v / 2) - 1))]
      rw [e2]
      simp (disch := omega) only [vd_S256_0 hN, vd_S256_10 hN, vd_I_mul, vd_I_sub, hv, vd_I_toInt, c, if_false]
      simp (disch := omega) only [vd_I_div, r2, vd_I_toInt, c2, eq_self, if_true, vd_S256_16 hN, vd_S256_21 hN, vd_S256_24 hN, vd_S256_31 hN, vd_S256_34 hN, vd_S256_37 hN, vd_I_neg, nd, vd_I_sub, P, T, vd_rs_v, vd_rs_n]
    · rw [if_neg c2]
      have c0 : 0 < v := by omega
      have nd1 := vd_ndiv2 (v := v - 1) (by omega) (by omega)
      have nd2 := vd_ndiv2 (v := v + 1) (by omega) (by omega)
      have nd3 := vd_ndiv2 (v := v + 3) (by omega) (by omega)
      have T := vd_P252 (g := g) hN (Eb (-((v - 1) / 2))) (Eb (-((v + 1) / 2))) (Eb (-((v + 3) / 2)))
      have e3 : vd_m3 E (-((v + 1) / 2)) = (E (-((v - 1) / 2)) + 2 * E (-((v + 1) / 2)) + E (-((v + 3) / 2)) + 2) / 4 := by
        unfold vd_m3
        rw [show -((v + 1) / 2) - 1 = -((v + 3) / 2) by omega, show -((v + 1) / 2) + 1 = -((v - 1) / 2) by omega]
        congr 1
        omega
      rw [e3]
      simp (disch := omega) only [vd_S256_0 hN, vd_S256_10 hN, vd_I_mul, vd_I_sub, hv, vd_I_toInt, c, if_false]
      simp (disch := omega) only [vd_I_div, r2, vd_I_toInt, c2, if_false, vd_S256_38 hN, c0, if_true, vd_S256_42 hN, vd_S256_49 hN, vd_S256_52 hN, vd_S256_59 hN, vd_S256_62 hN, vd_S256_69 hN, vd_S256_72 hN, vd_S256_75 hN, vd_I_add, vd_I_sub, vd_I_neg, nd1, nd2, nd3, P, T, vd_rs_v, vd_rs_n]
theorem vd_P257 (hN : vd_SR N) (hn : 4 ≤ n ∧ n ≤ 32) (hE : vd_ER n A L cr g) (hV : vd_EV n A L cr) {i : Nat} (hi : i < 100) (d : Nat) (Q : vd_M → (Option Value ⊕ Nat) → Prop) : vd_wp (d + 1) 257 0 [.ref 63, .int (vd_I (i : Int)), .int (vd_I (n : Int))] [] (vd_mf N g) Q = Q (vd_mf N g) (.inl (some (.int (vd_I (L i))))) := by
  have P := fun (d : Nat) (Q : vd_M → (Option Value ⊕ Nat) → Prop) => vd_P289 (M := N) (a := (i : Int)) (b := (n : Int) - 1) (f := g) (d := d) (Q := Q) (by omega) (by omega) (by omega) (by omega)
  have e : (min (i : Int) ((n : Int) - 1)) = ((min i (n - 1) : Nat) : Int) := by omega
  rw [e] at P
  have a := hE.2.1 (min i (n - 1)) (by omega)
  have el : L (min i (n - 1)) = L i := by
    by_cases c : i < n
    · rw [show min i (n - 1) = i by omega]
    · rw [show min i (n - 1) = n - 1 by omega, hV.2.2.2 i (by omega)]
  rw [el] at a
  simp (disch := omega) only [vd_S257_0 hN, vd_S257_8 hN, vd_S257_11 hN, vd_I_sub, P, Int.toNat_natCast, a, vd_rs_v, vd_rs_n]
end VDPMR
