/-! ===== the reference's predicted; means of both ===== -/
section VDPQ
variable {M N : vd_M} {ow fa lo lf n : Nat} {A L : Nat → Int} {cr : Int} {f g : Nat → Nat → Int32}
theorem vd_P251 (hN : vd_SR N) (hn : 4 ≤ n ∧ n ≤ 32) (hE : vd_ER n A L cr g) (hV : vd_EV n A L cr) {md : Int} (m0 : 1 ≤ md) (m1 : md ≤ 9) {x y : Nat} (hx : x < n) (hy : y < n) (d : Nat) (Q : vd_M → (Option Value ⊕ Nat) → Prop) : vd_wp (d + 3) 251 0 [.ref 63, .int (vd_I md), .int (vd_I (x : Int)), .int (vd_I (y : Int)), .int (vd_I (n : Int)), vd_U, vd_U, vd_U] [] (vd_mf N g) Q = Q (vd_mf N g) (.inl (some (.int (vd_I (vd_pm (vd_Ee A L cr) n md x y))))) := by
  have Eb := vd_Ee_b hV.1 hV.2.1 hV.2.2.1
  have P := fun (z : Int) (z0 : -(n : Int) ≤ z) (z1 : z ≤ 2 * (n : Int)) => vd_P253 hN hn hE z0 z1
  have Dn := fun (i : Nat) (hi : i < 100) => vd_P257 hN hn hE hV hi
  have : md = 1 ∨ md = 2 ∨ md = 3 ∨ md = 4 ∨ md = 5 ∨ md = 6 ∨ md = 7 ∨ md = 8 ∨ md = 9 := by omega
  rcases this with rfl | rfl | rfl | rfl | rfl | rfl | rfl | rfl | rfl
  · have t : vd_tsw 1 306 1 8 #[47, 54, 61, 123, 152, 159, 166, 242] (vd_I 1) = 48 := by decide
    have e : vd_pm (vd_Ee A L cr) n 1 x y = vd_Ee A L cr (1 + (x : Int)) := if_pos rfl
    have a := hE.1 x (by omega)
    rw [e, vd_Ee_A (j := x) (by omega)]
    simp (disch := omega) only [vd_S251_0 hN, vd_S251_1 hN, t, vd_S251_48 hN, vd_S251_53 hN, Int.toNat_natCast, a]
  · have t : vd_tsw 1 306 1 8 #[47, 54, 61, 123, 152, 159, 166, 242] (vd_I 2) = 55 := by decide
    have e : vd_pm (vd_Ee A L cr) n 2 x y = vd_Ee A L cr (-1 - (y : Int)) := rfl
    have a := hE.2.1 y hy
    rw [e, vd_Ee_L (j := y) (by omega)]
    simp (disch := omega) only [vd_S251_0 hN, vd_S251_1 hN, t, vd_S251_55 hN, vd_S251_60 hN, Int.toNat_natCast, a]
  · have t : vd_tsw 1 306 1 8 #[47, 54, 61, 123, 152, 159, 166, 242] (vd_I 3) = 62 := by decide
    have e : vd_pm (vd_Ee A L cr) n 3 x y = (if x + y = 2 * n - 2 then vd_Ee A L cr (2 * (n : Int)) else vd_m3 (vd_Ee A L cr) ((x : Int) + (y : Int) + 2)) := rfl
    rw [e]
    by_cases c : x + y = 2 * n - 2
    · have c1 : (x : Int) = (n : Int) - 1 := by omega
      have c2 : (y : Int) = (n : Int) - 1 := by omega
      have a := hE.1 (2 * n - 1) (by omega)
      have n1 : (2 * (n : Int) - 1).toNat = 2 * n - 1 := by omega
      rw [if_pos c, vd_Ee_A (j := 2 * n - 1) (by omega)]
      simp (disch := omega) only [vd_S251_0 hN, vd_S251_1 hN, t, vd_S251_62 hN, vd_S251_70 hN, vd_S251_78 hN, vd_S251_88 hN, vd_S251_123 hN, vd_I_sub, vd_I_mul, vd_I_toInt, c1, c2, eq_self, if_true, n1, a]
    · rw [if_neg c]
      have a1 := hE.1 (x + y) (by omega)
      have a2 := hE.1 (x + y + 1) (by omega)
      have a3 := hE.1 (x + y + 2) (by omega)
      have n1 : ((x : Int) + (y : Int)).toNat = x + y := by omega
      have n2 : ((x : Int) + (y : Int) + 1).toNat = x + y + 1 := by omega
      have n3 : ((x : Int) + (y : Int) + 2).toNat = x + y + 2 := by omega
      have T := vd_P252 (g := g) hN (hV.1 (x + y)) (hV.1 (x + y + 1)) (hV.1 (x + y + 2))
      have e3 : vd_m3 (vd_Ee A L cr) ((x : Int) + (y : Int) + 2) = (A (x + y) + 2 * A (x + y + 1) + A (x + y + 2) + 2) / 4 := by
        unfold vd_m3
        rw [vd_Ee_A (j := x + y) (by omega), vd_Ee_A (j := x + y + 1) (by omega), vd_Ee_A (j := x + y + 2) (by omega)]
      have fin : ∀ d Q, vd_wp (d + 3) 251 92 [.ref 63, .int (vd_I 3), .int (vd_I (x : Int)), .int (vd_I (y : Int)), .int (vd_I (n : Int)), vd_U, vd_U, vd_U] [] (vd_mf N g) Q = Q (vd_mf N g) (.inl (some (.int (vd_I ((A (x + y) + 2 * A (x + y + 1) + A (x + y + 2) + 2) / 4))))) := fun d Q => by
        simp (disch := omega) only [vd_S251_92 hN, vd_S251_99 hN, vd_S251_109 hN, vd_S251_119 hN, vd_S251_120 hN, vd_S251_123 hN, vd_I_add, n1, n2, n3, a1, a2, a3, T, vd_rs_v, vd_rs_n]
      rw [e3]
      by_cases c1 : (x : Int) = (n : Int) - 1
      · have c2 : ¬ ((y : Int) = (n : Int) - 1) := by omega
        simp (disch := omega) only [vd_S251_0 hN, vd_S251_1 hN, t, vd_S251_62 hN, vd_S251_70 hN, vd_I_sub, vd_I_toInt, c2, if_false]
        rw [if_pos c1]
        exact fin d Q
      · simp (disch := omega) only [vd_S251_0 hN, vd_S251_1 hN, t, vd_S251_62 hN, vd_I_sub, vd_I_toInt, c1, if_false]
        exact fin d Q
  · have t : vd_tsw 1 306 1 8 #[47, 54, 61, 123, 152, 159, 166, 242] (vd_I 4) = 124 := by decide
    have e : vd_pm (vd_Ee A L cr) n 4 x y = vd_m3 (vd_Ee A L cr) ((x : Int) - (y : Int)) := rfl
    have T := vd_P252 (g := g) hN (Eb ((x : Int) - (y : Int) - 1)) (Eb ((x : Int) - (y : Int))) (Eb ((x : Int) - (y : Int) + 1))
    rw [e]
    unfold vd_m3
    simp (disch := omega) only [vd_S251_0 hN, vd_S251_1 hN, t, vd_S251_124 hN, vd_S251_130 hN, vd_S251_133 hN, vd_S251_137 hN, vd_S251_140 hN, vd_S251_146 hN, vd_S251_149 hN, vd_S251_152 hN, vd_I_sub, vd_I_add, P, T, vd_rs_v, vd_rs_n]
  · have t : vd_tsw 1 306 1 8 #[47, 54, 61, 123, 152, 159, 166, 242] (vd_I 5) = 153 := by decide
    have e : vd_pm (vd_Ee A L cr) n 5 x y = vd_pm5 (vd_Ee A L cr) (2 * (x : Int) - (y : Int)) := rfl
    have T := vd_P254 hN hn hE hV hx hy
    rw [e]
    simp (disch := omega) only [vd_S251_0 hN, vd_S251_1 hN, t, vd_S251_153 hN, vd_S251_156 hN, vd_S251_159 hN, T, vd_rs_v, vd_rs_n]
  · have t : vd_tsw 1 306 1 8 #[47, 54, 61, 123, 152, 159, 166, 242] (vd_I 6) = 160 := by decide
    have e : vd_pm (vd_Ee A L cr) n 6 x y = vd_pm6 (vd_Ee A L cr) (2 * (y : Int) - (x : Int)) := rfl
    have T := vd_P256 hN hn hE hV hx hy
    rw [e]
    simp (disch := omega) only [vd_S251_0 hN, vd_S251_1 hN, t, vd_S251_160 hN, vd_S251_163 hN, vd_S251_166 hN, T, vd_rs_v, vd_rs_n]
  · have t : vd_tsw 1 306 1 8 #[47, 54, 61, 123, 152, 159, 166, 242] (vd_I 7) = 167 := by decide
    have e : vd_pm (vd_Ee A L cr) n 7 x y = (if x % 2 = 0 then vd_m2 (vd_Ee A L cr) (-((x / 2 + y : Nat) : Int) - 2) else vd_m3 (vd_Ee A L cr) (-((x / 2 + y : Nat) : Int) - 2)) := rfl
    rw [e]
    have r2 := vd_mod2 (v := (x : Int) + 2 * (y : Int)) (by omega) (by omega)
    have ev : ((x : Int) + 2 * (y : Int)) / 2 = ((x / 2 + y : Nat) : Int) := by omega
    rw [ev] at r2
    have hw : x / 2 + y < 60 := by omega
    generalize x / 2 + y = w at *
    have w1 : (w : Int) + 1 = ((w + 1 : Nat) : Int) := by omega
    have w2 : (w : Int) + 2 = ((w + 2 : Nat) : Int) := by omega
    have D0 := Dn w (by omega)
    have D1 := Dn (w + 1) (by omega)
    have D2 := Dn (w + 2) (by omega)
    by_cases c : x % 2 = 0
    · have c' : ((x : Int) + 2 * (y : Int)) % 2 = 0 := by omega
      have T := vd_P255 (g := g) hN (hV.2.1 w) (hV.2.1 (w + 1))
      have e2 : vd_m2 (vd_Ee A L cr) (-(w : Int) - 2) = (L w + L (w + 1) + 1) / 2 := by
        unfold vd_m2
        rw [vd_Ee_L (j := w + 1) (by omega), vd_Ee_L (j := w) (by omega), Int.add_comm (L (w + 1))]
      rw [if_pos c, e2]
      simp (disch := omega) only [vd_S251_0 hN, vd_S251_1 hN, t, vd_S251_167 hN, vd_I_mul, vd_I_add]
      simp (disch := omega) only [vd_I_div, ev, r2, vd_I_toInt, c', eq_self, if_true, vd_S251_187 hN, vd_S251_192 hN, vd_S251_195 hN, vd_S251_202 hN, vd_S251_205 hN, vd_S251_208 hN, vd_S251_242 hN, vd_I_add, w1, D0, D1, T, vd_rs_v, vd_rs_n]
    · have c' : ¬ (((x : Int) + 2 * (y : Int)) % 2 = 0) := by omega
      have T := vd_P252 (g := g) hN (hV.2.1 w) (hV.2.1 (w + 1)) (hV.2.1 (w + 2))
      have e3 : vd_m3 (vd_Ee A L cr) (-(w : Int) - 2) = (L w + 2 * L (w + 1) + L (w + 2) + 2) / 4 := by
        unfold vd_m3
        rw [vd_Ee_L (z := -(w : Int) - 2 - 1) (j := w + 2) (by omega), vd_Ee_L (z := -(w : Int) - 2) (j := w + 1) (by omega), vd_Ee_L (z := -(w : Int) - 2 + 1) (j := w) (by omega)]
        congr 1
        omega
      rw [if_neg c, e3]
      simp (disch := omega) only [vd_S251_0 hN, vd_S251_1 hN, t, vd_S251_167 hN, vd_I_mul, vd_I_add]
      simp (disch := omega) only [vd_I_div, ev, r2, vd_I_toInt, c', if_false, vd_S251_211 hN, vd_S251_216 hN, vd_S251_219 hN, vd_S251_226 hN, vd_S251_229 hN, vd_S251_236 hN, vd_S251_239 hN, vd_S251_242 hN, vd_I_add, w1, w2, D0, D1, D2, T, vd_rs_v, vd_rs_n]
  · have t : vd_tsw 1 306 1 8 #[47, 54, 61, 123, 152, 159, 166, 242] (vd_I 8) = 243 := by decide
    have e : vd_pm (vd_Ee A L cr) n 8 x y = (if y % 2 = 0 then vd_m2 (vd_Ee A L cr) (((y / 2 + x : Nat) : Int) + 1) else vd_m3 (vd_Ee A L cr) (((y / 2 + x : Nat) : Int) + 2)) := rfl
    rw [e]
    have r2 := vd_mod2 (v := (y : Int)) (by omega) (by omega)
    have ev : (y : Int) / 2 + (x : Int) = ((y / 2 + x : Nat) : Int) := by omega
    have lg : vd_long vd_U = false := rfl
    have hw : y / 2 + x + 2 < 2 * n := by omega
    generalize y / 2 + x = w at *
    have w1 : (w : Int) + 1 = ((w + 1 : Nat) : Int) := by omega
    have w2 : (w : Int) + 2 = ((w + 2 : Nat) : Int) := by omega
    have a1 := hE.1 w (by omega)
    have a2 := hE.1 (w + 1) (by omega)
    have a3 := hE.1 (w + 2) (by omega)
    by_cases c : y % 2 = 0
    · have c' : (y : Int) % 2 = 0 := by omega
      have T := vd_P255 (g := g) hN (hV.1 w) (hV.1 (w + 1))
      have e2 : vd_m2 (vd_Ee A L cr) ((w : Int) + 1) = (A w + A (w + 1) + 1) / 2 := by
        unfold vd_m2
        rw [vd_Ee_A (z := (w : Int) + 1) (j := w) (by omega), vd_Ee_A (j := w + 1) (by omega)]
      rw [if_pos c, e2]
      simp (disch := first | omega | exact lg) only [vd_S251_0 hN, vd_S251_1 hN, t, vd_S251_243 hN, vd_I_div, r2, vd_I_toInt, c', eq_self, if_true, vd_I_add, ev, vd_S251_256 hN, vd_S251_262 hN, vd_S251_271 hN, vd_S251_272 hN, vd_S251_275 hN, vd_S251_306 hN, w1, Int.toNat_natCast, a1, a2, T, vd_rs_v, vd_rs_n]
    · have c' : ¬ ((y : Int) % 2 = 0) := by omega
      have T := vd_P252 (g := g) hN (hV.1 w) (hV.1 (w + 1)) (hV.1 (w + 2))
      have e3 : vd_m3 (vd_Ee A L cr) ((w : Int) + 2) = (A w + 2 * A (w + 1) + A (w + 2) + 2) / 4 := by
        unfold vd_m3
        rw [vd_Ee_A (z := (w : Int) + 2 - 1) (j := w) (by omega), vd_Ee_A (z := (w : Int) + 2) (j := w + 1) (by omega), vd_Ee_A (j := w + 2) (by omega)]
      rw [if_neg c, e3]
      simp (disch := first | omega | exact lg) only [vd_S251_0 hN, vd_S251_1 hN, t, vd_S251_243 hN, vd_I_div, r2, vd_I_toInt, c', if_false, vd_I_add, ev, vd_S251_278 hN, vd_S251_284 hN, vd_S251_293 hN, vd_S251_302 hN, vd_S251_303 hN, vd_S251_306 hN, w1, w2, Int.toNat_natCast, a1, a2, a3, T, vd_rs_v, vd_rs_n]
  · have t : vd_tsw 1 306 1 8 #[47, 54, 61, 123, 152, 159, 166, 242] (vd_I 9) = 307 := by decide
    have e : vd_pm (vd_Ee A L cr) n 9 x y = vd_wn (vd_Ee A L cr (-1 - (y : Int)) + vd_Ee A L cr (1 + (x : Int)) - vd_Ee A L cr 0) 0 255 := rfl
    rw [e, vd_Ee_L (z := -1 - (y : Int)) (j := y) (by omega), vd_Ee_A (z := 1 + (x : Int)) (j := x) (by omega), vd_Ee_0]
    have a := hE.2.1 y hy
    have b := hE.1 x (by omega)
    have c := hE.2.2
    have h1 := hV.2.1 y
    have h2 := hV.1 x
    have h3 := hV.2.2.1
    have P232 := fun (d : Nat) (Q : vd_M → (Option Value ⊕ Nat) → Prop) => vd_P232 (a := L y + A x - cr) (f := g) (d := d) (Q := Q) hN (by omega) (by omega)
    simp (disch := omega) only [vd_S251_0 hN, vd_S251_1 hN, t, vd_S251_307 hN, vd_S251_312 hN, vd_S251_318 hN, vd_S251_325 hN, vd_S251_328 hN, vd_I_add, vd_I_sub, Int.toNat_natCast, a, b, c, P232, vd_rs_v, vd_rs_n]
end VDPQ
