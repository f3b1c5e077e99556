/-! ===== how a square of units is divided: the readings ===== -/
def vd_dcase (dn rt r : Int) (pc : Nat) : Prop := (r = 0 ∧ dn = 1 ∧ rt = 1 ∧ pc = 135) ∨ (r = 1 ∧ dn = 1 ∧ rt = 1 ∧ pc = 170) ∨ (r = 1 ∧ dn = 0 ∧ rt = 1 ∧ pc = 266) ∨ (r = 2 ∧ dn = 1 ∧ rt = 1 ∧ pc = 218) ∨ (r = 2 ∧ dn = 1 ∧ rt = 0 ∧ pc = 302) ∨ (r = 3 ∧ pc = 314)
section VDDR
variable {M N : vd_M} {ow fa lo lf W H nb n : Nat} {O : Nat → Nat → Option Nat} {B : Nat → Nat → Int} {f g : Nat → Nat → Int32}
def vd_DrPost (M N : vd_M) (W H x y half n : Nat) (dn rt : Int) (f g : Nat → Nat → Int32) : Prop := ∃ (f' g' : Nat → Nat → Int32) (r : Int) (pc : Nat) (x7 y6 y7 : Int32), (∀ d Q, vd_wp (d + 3) 66 30 [.ref 44, .int (vd_I (x : Int)), .int (vd_I (y : Int)), .int (vd_I (2 * (half : Int))), vd_U, vd_U, vd_U, vd_U] [] (vd_mf M f) Q = vd_wp (d + 3) 66 pc [.ref 44, .int (vd_I (x : Int)), .int (vd_I (y : Int)), .int (vd_I (2 * (half : Int))), .int (vd_I (half : Int)), .int (vd_I dn), .int (vd_I rt), .int x7] [] (vd_mf M f') Q) ∧ (∀ d Q, vd_wp (d + 3) 195 40 [.ref 63, .int (vd_I (8 * (x : Int))), .int (vd_I (8 * (y : Int))), .int (vd_I (16 * (half : Int))), vd_U, vd_U, vd_U, vd_U, vd_U, vd_U, vd_U, vd_U, vd_U] [] (vd_mf N g) Q = vd_wp (d + 3) 195 285 [.ref 63, .int (vd_I (8 * (x : Int))), .int (vd_I (8 * (y : Int))), .int (vd_I (16 * (half : Int))), .int (vd_I (x : Int)), .int (vd_I (y : Int)), .int y6, .int y7, .int (vd_I (8 * (half : Int))), .int (vd_I dn), .int (vd_I rt), .int (vd_I r), vd_U] [] (vd_mf N g') Q) ∧ vd_dcase dn rt r pc ∧ vd_RD (n + 3) f' g' ∧ vd_fD f f' ∧ vd_gD g g'
theorem vd_dvRead (hM : vd_SC M ow fa lo lf) (hN : vd_SR N) (ga : vd_GA ow fa W H nb O B f) (gb : vd_GB W H O B g) (rd : vd_RD n f g) (hn : n + 3 ≤ 8000000) {x y half : Nat} (hx : x < W) (hy : y < H) (hh : half = 1 ∨ half = 2 ∨ half = 4) {dn rt : Int} (hdn : dn = if y + half < H then 1 else 0) (hrt : rt = if x + half < W then 1 else 0) : vd_DrPost M N W H x y half n dn rt f g := by
  obtain ⟨⟨f2, f3⟩, ⟨W1, W2, H1, H2, _⟩, _, k2, _, k4⟩ := id ga
  obtain ⟨⟨g26, g27⟩, _, _⟩ := id gb
  have hB : ∀ i j k, O i j = some k → vd_BV (B k) := fun i j k e => k4 k (k2 i j k e)
  have P135 := vd_P135 hM ga (x := x) (y := y) (side := 2 * half) (by omega) (by omega) (by omega)
  have G := fun d Q => vd_G195n hN gb hB W2 H2 (side := 2 * half) hx hy (by omega) d Q
  rw [show (((2 * half : Nat)) : Int) = 2 * (half : Int) by omega] at P135 G
  rw [show 8 * (2 * (half : Int)) = 16 * (half : Int) by omega] at G
  have P84 := fun (d : Nat) (Q : vd_M → (Option Value ⊕ Nat) → Prop) => vd_P84 (f := f) (d := d) (Q := Q) (a := 2 * (half : Int)) hM (by omega) (by omega)
  have nb := vd_nw_b (vd_at W H O (x : Int) ((y : Int) - 1)) B 2 ((2 * half : Nat) : Int)
  have nb2 := vd_nw_b (vd_at W H O ((x : Int) - 1) (y : Int)) B 3 ((2 * half : Nat) : Int)
  have na : 0 ≤ vd_nar W H O B x y (2 * half) ∧ vd_nar W H O B x y (2 * half) ≤ 3 := by unfold vd_nar; omega
  generalize vd_nar W H O B x y (2 * half) = na' at *
  obtain ⟨c, hc⟩ : ∃ c : Int, c = 5 * (4 * (3 - vd_rk (2 * (half : Int))) + na') := ⟨_, rfl⟩
  have rkv : vd_rk (2 * (half : Int)) = (if half = 4 then 3 else if half = 2 then 2 else 1) := by rcases hh with rfl | rfl | rfl <;> decide
  have cb : 0 ≤ c ∧ c ≤ 55 := by
    rw [hc, rkv]
    split
    · omega
    · split <;> omega
  have d2 : 2 * (half : Int) / 2 = (half : Int) := by omega
  have d16 : 16 * (half : Int) / 2 = 8 * (half : Int) := by omega
  have hz : ¬ ((half : Int) = 0) := by omega
  have dnv : dn = 0 ∨ dn = 1 := by rw [hdn]; split; exact Or.inr rfl; exact Or.inl rfl
  have rtv : rt = 0 ∨ rt = 1 := by rw [hrt]; split; exact Or.inr rfl; exact Or.inl rfl
  -- the class goes to its readings
  have cls0 : ∀ d Q, vd_wp (d + 3) 66 30 [.ref 44, .int (vd_I (x : Int)), .int (vd_I (y : Int)), .int (vd_I (2 * (half : Int))), vd_U, vd_U, vd_U, vd_U] [] (vd_mf M f) Q = vd_wp (d + 3) 66 89 [.ref 44, .int (vd_I (x : Int)), .int (vd_I (y : Int)), .int (vd_I (2 * (half : Int))), .int (vd_I (half : Int)), .int (vd_I dn), vd_U, vd_U] [.int (vd_I rt)] (vd_mf M f) Q := by
    intro d Q
    by_cases cd : y + half < H <;> by_cases cr : x + half < W
    · have cd' : (y : Int) + (half : Int) < (H : Int) := by omega
      have cr' : (x : Int) + (half : Int) < (W : Int) := by omega
      rw [hdn, hrt, if_pos cd, if_pos cr]
      simp (disch := omega) only [vd_S66_30 hM, vd_I_div, d2, vd_I_toInt, hz, if_false, vd_S66_49 hM, vd_I_add, f3, f2, cd', cr', if_true, vd_S66_63 hM, vd_S66_68 hM, vd_S66_84 hM]
    · have cd' : (y : Int) + (half : Int) < (H : Int) := by omega
      have cr' : ¬ ((x : Int) + (half : Int) < (W : Int)) := by omega
      rw [hdn, hrt, if_pos cd, if_neg cr]
      simp (disch := omega) only [vd_S66_30 hM, vd_I_div, d2, vd_I_toInt, hz, if_false, vd_S66_49 hM, vd_I_add, f3, f2, cd', cr', if_true, vd_S66_63 hM, vd_S66_68 hM, vd_S66_88 hM]
    · have cd' : ¬ ((y : Int) + (half : Int) < (H : Int)) := by omega
      have cr' : (x : Int) + (half : Int) < (W : Int) := by omega
      rw [hdn, hrt, if_neg cd, if_pos cr]
      simp (disch := omega) only [vd_S66_30 hM, vd_I_div, d2, vd_I_toInt, hz, if_false, vd_S66_49 hM, vd_I_add, f3, f2, cd', cr', if_true, vd_S66_67 hM, vd_S66_68 hM, vd_S66_84 hM]
    · have cd' : ¬ ((y : Int) + (half : Int) < (H : Int)) := by omega
      have cr' : ¬ ((x : Int) + (half : Int) < (W : Int)) := by omega
      rw [hdn, hrt, if_neg cd, if_neg cr]
      simp (disch := omega) only [vd_S66_30 hM, vd_I_div, d2, vd_I_toInt, hz, if_false, vd_S66_49 hM, vd_I_add, f3, f2, cd', cr', vd_S66_67 hM, vd_S66_68 hM, vd_S66_88 hM]
  have rkb := vd_rk_b (2 * (half : Int))
  have e0 : (0 : Int) + 5 * (4 * (3 - vd_rk (2 * (half : Int))) + na') = c := by omega
  have cls1 : ∀ d Q, vd_wp (d + 3) 66 30 [.ref 44, .int (vd_I (x : Int)), .int (vd_I (y : Int)), .int (vd_I (2 * (half : Int))), vd_U, vd_U, vd_U, vd_U] [] (vd_mf M f) Q = if dn = 0 then vd_wp (d + 3) 66 146 [.ref 44, .int (vd_I (x : Int)), .int (vd_I (y : Int)), .int (vd_I (2 * (half : Int))), .int (vd_I (half : Int)), .int (vd_I dn), .int (vd_I rt), .int (vd_I c)] [] (vd_mf M f) Q else vd_wp (d + 3) 66 118 [.ref 44, .int (vd_I (x : Int)), .int (vd_I (y : Int)), .int (vd_I (2 * (half : Int))), .int (vd_I (half : Int)), .int (vd_I dn), .int (vd_I rt), .int (vd_I c)] [] (vd_mf M f) Q := by
    intro d Q
    rw [cls0]
    simp (disch := omega) only [vd_S66_89 hM, vd_S66_96 hM, P84, vd_S66_99 hM, vd_I_sub, vd_I_mul, vd_S66_105 hM, P135, vd_S66_108 hM, vd_I_add, e0, vd_I_toInt, vd_rs_v, vd_rs_n]
  have ref1 : ∀ d Q, vd_wp (d + 3) 195 40 [.ref 63, .int (vd_I (8 * (x : Int))), .int (vd_I (8 * (y : Int))), .int (vd_I (16 * (half : Int))), vd_U, vd_U, vd_U, vd_U, vd_U, vd_U, vd_U, vd_U, vd_U] [] (vd_mf N g) Q = vd_wp (d + 3) 195 209 [.ref 63, .int (vd_I (8 * (x : Int))), .int (vd_I (8 * (y : Int))), .int (vd_I (16 * (half : Int))), .int (vd_I (x : Int)), .int (vd_I (y : Int)), .int (vd_I na'), .int (vd_I c), .int (vd_I (8 * (half : Int))), .int (vd_I dn), vd_U, vd_U, vd_U] [.int (vd_I rt)] (vd_mf N g) Q := by
    intro d Q
    rw [G (d + 2) Q]
    have e158 : vd_wp (d + 3) 195 135 [.ref 63, .int (vd_I (8 * (x : Int))), .int (vd_I (8 * (y : Int))), .int (vd_I (16 * (half : Int))), .int (vd_I (x : Int)), .int (vd_I (y : Int)), .int (vd_I na'), vd_U, vd_U, vd_U, vd_U, vd_U, vd_U] [] (vd_mf N g) Q = vd_wp (d + 3) 195 158 [.ref 63, .int (vd_I (8 * (x : Int))), .int (vd_I (8 * (y : Int))), .int (vd_I (16 * (half : Int))), .int (vd_I (x : Int)), .int (vd_I (y : Int)), .int (vd_I na'), vd_U, vd_U, vd_U, vd_U, vd_U, vd_U] [.int (vd_I (4 * (3 - vd_rk (2 * (half : Int))))), .int (vd_I 5)] (vd_mf N g) Q := by
      rw [rkv]
      rcases hh with rfl | rfl | rfl
      · simp (disch := omega) only [vd_S195_135 hN, vd_I_toInt, show ¬ ((16 : Int) * ((1 : Nat) : Int) = 64) by decide, if_false, vd_S195_146 hN, show ¬ ((16 : Int) * ((1 : Nat) : Int) = 32) by decide, vd_S195_156 hN]
        rfl
      · simp (disch := omega) only [vd_S195_135 hN, vd_I_toInt, show ¬ ((16 : Int) * ((2 : Nat) : Int) = 64) by decide, if_false, vd_S195_146 hN, show (16 : Int) * ((2 : Nat) : Int) = 32 by decide, if_true, vd_S195_152 hN]
        rfl
      · simp (disch := omega) only [vd_S195_135 hN, vd_I_toInt, show (16 : Int) * ((4 : Nat) : Int) = 64 by decide, if_true, vd_S195_142 hN]
        rfl
    rw [e158]
    have e5 : 5 * (4 * (3 - vd_rk (2 * (half : Int))) + na') = c := hc.symm
    by_cases cd : y + half < H <;> by_cases cr : x + half < W
    · have cd' : 8 * (y : Int) + 8 * (half : Int) < 8 * (H : Int) := by omega
      have cr' : 8 * (x : Int) + 8 * (half : Int) < 8 * (W : Int) := by omega
      rw [hdn, hrt, if_pos cd, if_pos cr]
      simp (disch := omega) only [vd_S195_158 hN, vd_I_div, d16, vd_I_add, vd_I_mul, g27, g26, vd_I_toInt, cd', cr', if_true, e5, vd_S195_183 hN, vd_S195_188 hN, vd_S195_204 hN]
    · have cd' : 8 * (y : Int) + 8 * (half : Int) < 8 * (H : Int) := by omega
      have cr' : ¬ (8 * (x : Int) + 8 * (half : Int) < 8 * (W : Int)) := by omega
      rw [hdn, hrt, if_pos cd, if_neg cr]
      simp (disch := omega) only [vd_S195_158 hN, vd_I_div, d16, vd_I_add, vd_I_mul, g27, g26, vd_I_toInt, cd', cr', if_true, if_false, e5, vd_S195_183 hN, vd_S195_188 hN, vd_S195_208 hN]
    · have cd' : ¬ (8 * (y : Int) + 8 * (half : Int) < 8 * (H : Int)) := by omega
      have cr' : 8 * (x : Int) + 8 * (half : Int) < 8 * (W : Int) := by omega
      rw [hdn, hrt, if_neg cd, if_pos cr]
      simp (disch := omega) only [vd_S195_158 hN, vd_I_div, d16, vd_I_add, vd_I_mul, g27, g26, vd_I_toInt, cd', cr', if_true, if_false, e5, vd_S195_187 hN, vd_S195_188 hN, vd_S195_204 hN]
    · have cd' : ¬ (8 * (y : Int) + 8 * (half : Int) < 8 * (H : Int)) := by omega
      have cr' : ¬ (8 * (x : Int) + 8 * (half : Int) < 8 * (W : Int)) := by omega
      rw [hdn, hrt, if_neg cd, if_neg cr]
      simp (disch := omega) only [vd_S195_158 hN, vd_I_div, d16, vd_I_add, vd_I_mul, g27, g26, vd_I_toInt, cd', cr', if_false, e5, vd_S195_187 hN, vd_S195_188 hN, vd_S195_208 hN]
  have o1 : ¬ ((1 : Int) = 0) := by decide
  clear hdn hrt cls0 P135 G P84
  rcases dnv with rfl | rfl <;> rcases rtv with rfl | rfl
  · -- neither
    refine ⟨f, g, 3, 314, vd_I c, vd_I na', vd_I c, fun d Q => ?_, fun d Q => ?_, Or.inr (Or.inr (Or.inr (Or.inr (Or.inr ⟨rfl, rfl⟩)))), rd.mono (by omega), fun _ _ _ _ => rfl, fun _ _ _ _ _ => rfl⟩
    · rw [cls1]
      simp (disch := omega) only [if_true, vd_S66_146 hM, vd_I_toInt, vd_S66_194 hM, vd_S66_242 hM, vd_S66_247 hM, vd_S66_278 hM]
    · rw [ref1]
      simp (disch := omega) only [vd_S195_209 hN, vd_I_toInt, if_true, vd_S195_236 hN, vd_S195_262 hN]
  · -- right alone
    obtain ⟨f1, g1, v, t1, t2, v01, rd1, F1, G1⟩ := vd_read hM hN (z := c + 3) rd (by omega) (by omega) (by omega)
    rcases v01 with rfl | rfl
    · refine ⟨f1, g1, 1, 266, vd_I c, vd_I na', vd_I c, fun d Q => ?_, fun d Q => ?_, Or.inr (Or.inr (Or.inl ⟨rfl, rfl, rfl, rfl⟩)), rd1.mono (by omega), F1, G1⟩
      · rw [cls1]
        simp (disch := omega) only [if_true, vd_S66_146 hM, vd_I_toInt, vd_S66_194 hM, vd_S66_242 hM, vd_S66_247 hM, o1, if_false, vd_S66_252 hM, vd_I_add, vd_S66_260 hM, t1, vd_S66_263 hM, vd_rs_v, vd_rs_n]
      · rw [ref1]
        simp (disch := omega) only [vd_S195_209 hN, vd_I_toInt, if_true, vd_S195_236 hN, o1, if_false, vd_S195_241 hN, vd_I_add, vd_S195_246 hN, t2, vd_S195_249 hN, vd_S195_252 hN, vd_S195_257 hN, vd_rs_v, vd_rs_n]
    · refine ⟨f1, g1, 3, 314, vd_I c, vd_I na', vd_I c, fun d Q => ?_, fun d Q => ?_, Or.inr (Or.inr (Or.inr (Or.inr (Or.inr ⟨rfl, rfl⟩)))), rd1.mono (by omega), F1, G1⟩
      · rw [cls1]
        simp (disch := omega) only [if_true, vd_S66_146 hM, vd_I_toInt, vd_S66_194 hM, vd_S66_242 hM, vd_S66_247 hM, o1, if_false, vd_S66_252 hM, vd_I_add, vd_S66_260 hM, t1, vd_S66_263 hM, vd_S66_278 hM, vd_rs_v, vd_rs_n]
      · rw [ref1]
        simp (disch := omega) only [vd_S195_209 hN, vd_I_toInt, if_true, vd_S195_236 hN, o1, if_false, vd_S195_241 hN, vd_I_add, vd_S195_246 hN, t2, vd_S195_249 hN, vd_S195_256 hN, vd_S195_257 hN, vd_rs_v, vd_rs_n]
  · -- down alone
    obtain ⟨f1, g1, v, t1, t2, v01, rd1, F1, G1⟩ := vd_read hM hN (z := c + 4) rd (by omega) (by omega) (by omega)
    rcases v01 with rfl | rfl
    · refine ⟨f1, g1, 2, 302, vd_I c, vd_I na', vd_I c, fun d Q => ?_, fun d Q => ?_, Or.inr (Or.inr (Or.inr (Or.inr (Or.inl ⟨rfl, rfl, rfl, rfl⟩)))), rd1.mono (by omega), F1, G1⟩
      · rw [cls1]
        simp (disch := omega) only [o1, if_false, if_true, vd_S66_118 hM, vd_S66_146 hM, vd_S66_151 hM, vd_I_toInt, vd_S66_194 hM, vd_S66_199 hM, vd_S66_242 hM, vd_S66_278 hM, vd_S66_283 hM, vd_S66_288 hM, vd_I_add, vd_S66_296 hM, t1, vd_S66_299 hM, vd_rs_v, vd_rs_n]
      · rw [ref1]
        simp (disch := omega) only [vd_S195_209 hN, vd_I_toInt, if_true, o1, if_false, vd_S195_219 hN, vd_S195_236 hN, vd_S195_262 hN, vd_S195_267 hN, vd_I_add, vd_S195_272 hN, t2, vd_S195_275 hN, vd_S195_278 hN, vd_S195_283 hN, vd_rs_v, vd_rs_n]
    · refine ⟨f1, g1, 3, 314, vd_I c, vd_I na', vd_I c, fun d Q => ?_, fun d Q => ?_, Or.inr (Or.inr (Or.inr (Or.inr (Or.inr ⟨rfl, rfl⟩)))), rd1.mono (by omega), F1, G1⟩
      · rw [cls1]
        simp (disch := omega) only [o1, if_false, if_true, vd_S66_118 hM, vd_S66_146 hM, vd_S66_151 hM, vd_I_toInt, vd_S66_194 hM, vd_S66_199 hM, vd_S66_242 hM, vd_S66_278 hM, vd_S66_283 hM, vd_S66_288 hM, vd_I_add, vd_S66_296 hM, t1, vd_S66_299 hM, vd_rs_v, vd_rs_n]
      · rw [ref1]
        simp (disch := omega) only [vd_S195_209 hN, vd_I_toInt, if_true, o1, if_false, vd_S195_219 hN, vd_S195_236 hN, vd_S195_262 hN, vd_S195_267 hN, vd_I_add, vd_S195_272 hN, t2, vd_S195_275 hN, vd_S195_282 hN, vd_S195_283 hN, vd_rs_v, vd_rs_n]
  · -- both
    have c0 : c + 0 = c := by omega
    obtain ⟨f1, g1, v, t1, t2, v01, rd1, F1, G1⟩ := vd_read hM hN (z := c) rd (by omega) (by omega) (by omega)
    rcases v01 with rfl | rfl
    · refine ⟨f1, g1, 0, 135, vd_I c, vd_I na', vd_I c, fun d Q => ?_, fun d Q => ?_, Or.inl ⟨rfl, rfl, rfl, rfl⟩, rd1.mono (by omega), F1, G1⟩
      · rw [cls1]
        simp (disch := omega) only [o1, if_false, if_true, vd_S66_118 hM, vd_I_toInt, vd_S66_123 hM, vd_S66_129 hM, t1, vd_S66_132 hM, vd_rs_v, vd_rs_n]
      · rw [ref1]
        simp (disch := omega) only [vd_S195_209 hN, vd_I_toInt, o1, if_false, vd_S195_219 hN, vd_S195_224 hN, vd_S195_228 hN, vd_S205_0 hN, vd_S205_2 hN, show (0 : Int) < 3 by decide, if_true, vd_S205_7 hN, vd_I_add, c0, vd_S205_11 hN, t2, vd_S205_14 hN, show ¬ ((0 : Int) = 1) by decide, vd_S205_24 hN, vd_S195_231 hN, vd_rs_v, vd_rs_n]
    · obtain ⟨f2, g2, v, t3, t4, v01, rd2, F2, G2⟩ := vd_read hM hN (z := c + 1) rd1 (by omega) (by omega) (by omega)
      have F12 : vd_fD f f2 := fun c i a1 a2 => by rw [F2 c i a1 a2, F1 c i a1 a2]
      have G12 : vd_gD g g2 := fun c i a1 a2 a3 => by rw [G2 c i a1 a2 a3, G1 c i a1 a2 a3]
      rcases v01 with rfl | rfl
      · refine ⟨f2, g2, 1, 170, vd_I c, vd_I na', vd_I c, fun d Q => ?_, fun d Q => ?_, Or.inr (Or.inl ⟨rfl, rfl, rfl, rfl⟩), rd2.mono (by omega), F12, G12⟩
        · rw [cls1]
          simp (disch := omega) only [o1, if_false, if_true, vd_S66_118 hM, vd_I_toInt, vd_S66_123 hM, vd_S66_129 hM, t1, vd_S66_132 hM, vd_S66_146 hM, vd_S66_151 hM, vd_S66_156 hM, vd_I_add, vd_S66_164 hM, t3, vd_S66_167 hM, vd_rs_v, vd_rs_n]
        · rw [ref1]
          simp (disch := omega) only [vd_S195_209 hN, vd_I_toInt, o1, if_false, vd_S195_219 hN, vd_S195_224 hN, vd_S195_228 hN, vd_S205_0 hN, vd_S205_2 hN, show (0 : Int) < 3 by decide, if_true, vd_S205_7 hN, vd_I_add, c0, vd_S205_11 hN, t2, vd_S205_14 hN, vd_S205_18 hN, show (0 + 1 : Int) = 1 from rfl, show (1 : Int) < 3 by decide, t4, show ¬ ((0 : Int) = 1) by decide, vd_S205_24 hN, vd_S195_231 hN, vd_rs_v, vd_rs_n]
      · obtain ⟨f3', g3', v, t5, t6, v01, rd3, F3, G3⟩ := vd_read hM hN (z := c + 2) rd2 (by omega) (by omega) (by omega)
        have F13 : vd_fD f f3' := fun c i a1 a2 => by rw [F3 c i a1 a2, F12 c i a1 a2]
        have G13 : vd_gD g g3' := fun c i a1 a2 a3 => by rw [G3 c i a1 a2 a3, G12 c i a1 a2 a3]
        rcases v01 with rfl | rfl
        · refine ⟨f3', g3', 2, 218, vd_I c, vd_I na', vd_I c, fun d Q => ?_, fun d Q => ?_, Or.inr (Or.inr (Or.inr (Or.inl ⟨rfl, rfl, rfl, rfl⟩))), rd3.mono (by omega), F13, G13⟩
          · rw [cls1]
            simp (disch := omega) only [o1, if_false, if_true, vd_S66_118 hM, vd_I_toInt, vd_S66_123 hM, vd_S66_129 hM, t1, vd_S66_132 hM, vd_S66_146 hM, vd_S66_151 hM, vd_S66_156 hM, vd_I_add, vd_S66_164 hM, t3, vd_S66_167 hM, vd_S66_194 hM, vd_S66_199 hM, vd_S66_204 hM, vd_S66_212 hM, t5, vd_S66_215 hM, vd_rs_v, vd_rs_n]
          · rw [ref1]
            simp (disch := omega) only [vd_S195_209 hN, vd_I_toInt, o1, if_false, vd_S195_219 hN, vd_S195_224 hN, vd_S195_228 hN, vd_S205_0 hN, vd_S205_2 hN, show (0 : Int) < 3 by decide, if_true, vd_S205_7 hN, vd_I_add, c0, vd_S205_11 hN, t2, vd_S205_14 hN, vd_S205_18 hN, show (0 + 1 : Int) = 1 from rfl, show (1 : Int) < 3 by decide, t4, show (1 + 1 : Int) = 2 from rfl, show (2 : Int) < 3 by decide, t6, show ¬ ((0 : Int) = 1) by decide, vd_S205_24 hN, vd_S195_231 hN, vd_rs_v, vd_rs_n]
        · refine ⟨f3', g3', 3, 314, vd_I c, vd_I na', vd_I c, fun d Q => ?_, fun d Q => ?_, Or.inr (Or.inr (Or.inr (Or.inr (Or.inr ⟨rfl, rfl⟩)))), rd3.mono (by omega), F13, G13⟩
          · rw [cls1]
            simp (disch := omega) only [o1, if_false, if_true, vd_S66_118 hM, vd_I_toInt, vd_S66_123 hM, vd_S66_129 hM, t1, vd_S66_132 hM, vd_S66_146 hM, vd_S66_151 hM, vd_S66_156 hM, vd_I_add, vd_S66_164 hM, t3, vd_S66_167 hM, vd_S66_194 hM, vd_S66_199 hM, vd_S66_204 hM, vd_S66_212 hM, t5, vd_S66_215 hM, vd_S66_242 hM, vd_S66_278 hM, vd_S66_283 hM, vd_rs_v, vd_rs_n]
          · rw [ref1]
            simp (disch := omega) only [vd_S195_209 hN, vd_I_toInt, o1, if_false, vd_S195_219 hN, vd_S195_224 hN, vd_S195_228 hN, vd_S205_0 hN, vd_S205_2 hN, show (0 : Int) < 3 by decide, if_true, vd_S205_7 hN, vd_I_add, c0, vd_S205_11 hN, t2, vd_S205_14 hN, vd_S205_18 hN, show (0 + 1 : Int) = 1 from rfl, show (1 : Int) < 3 by decide, t4, show (1 + 1 : Int) = 2 from rfl, show (2 : Int) < 3 by decide, t6, show (2 + 1 : Int) = 3 from rfl, Int.lt_irrefl, vd_S205_24 hN, vd_S195_231 hN, vd_rs_v, vd_rs_n]
end VDDR
