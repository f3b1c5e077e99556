/-! ===== the map: the reference sets it ===== -/
section VDUQ
variable {M N : vd_M} {ow fa lo lf : Nat} {f g : Nat → Nat → Int32} {d : Nat} {Q : vd_M → (Option Value ⊕ Nat) → Prop} {m : Nat → Nat → Int}
theorem vd_G199T (hN : vd_SR N) {j x y w h W H x1 : Nat} {a1 v : Int32} (hx1 : x1 = min W (x + w)) (hb : vd_by g x y w h) (hW : g 63 26 = vd_I (W : Int)) (hv : g 63 103 = v) (w1 : W ≤ 24) (w2 : H ≤ 24) (hw : w ≤ 8) (hj : j < H) (hxx : x ≤ W) : ∀ (q n : Nat), x + n + q = x1 → vd_wp d 199 265 [.ref 63, .int a1, .int (vd_I (j : Int)), .int (vd_I ((x + n : Nat) : Int))] [] (vd_mf N (vd_uf g 72 (W * j + x) (W * j + (x + n)) v)) Q = vd_wp d 199 312 [.ref 63, .int a1, .int (vd_I (j : Int)), .int (vd_I (x1 : Int))] [] (vd_mf N (vd_uf g 72 (W * j + x) (W * j + x1) v)) Q := by
  obtain ⟨b1, b2, b3, b4⟩ := hb
  have e8 : 8 * (w : Int) / 8 = (w : Int) := by omega
  intro q
  induction q with
  | zero =>
    intro n hn
    have hn : x + n = x1 := by omega
    rw [hn]
    by_cases c : (x1 : Int) < (x : Int) + (w : Int)
    · have c2 : ¬ (x1 : Int) < (W : Int) := by omega
      simp (disch := omega) only [vd_S199_265 hN, vd_S199_281 hN, vd_uf_ne, b1, b3, hW, vd_I_div, e8, vd_I_add, vd_I_toInt, c, c2, if_true, if_false]
    · simp (disch := omega) only [vd_S199_265 hN, vd_uf_ne, b1, b3, vd_I_div, e8, vd_I_add, vd_I_toInt, c, if_false]
  | succ q ih =>
    intro n hn
    have c : ((x + n : Nat) : Int) < (x : Int) + (w : Int) := by omega
    have c2 : ((x + n : Nat) : Int) < (W : Int) := by omega
    have e := ih (n + 1) (by omega)
    have hi : x + n < W := by omega
    have hx := vd_ix hi hj
    have hy : W * H ≤ 24 * 24 := Nat.mul_le_mul w1 w2
    rw [vd_S199_265 hN]
    simp (disch := first | assumption | omega) only [vd_S199_281 hN, vd_S199_289 hN, vd_S199_305 hN, vd_uf_ne, b1, b3, hW, hv, vd_I_div, e8, vd_I_toInt, c, c2, if_true, vd_I_mul, vd_I_add, vd_ixN, Int.toNat_natCast]
    rw [vd_uf_up (show W * j + x ≤ W * j + (x + n) by omega)]
    rw [show ((x + n : Nat) : Int) + 1 = ((x + (n + 1) : Nat) : Int) by omega]
    exact e
theorem vd_G199U (hN : vd_SR N) {x y w h W H x1 y1 : Nat} {a1 v : Int32} (hx1 : x1 = min W (x + w)) (hy1 : y1 = min H (y + h)) (hb : vd_by g x y w h) (hW : g 63 26 = vd_I (W : Int)) (hH : g 63 27 = vd_I (H : Int)) (hv : g 63 103 = v) (w1 : W ≤ 24) (w2 : H ≤ 24) (hw : w ≤ 8) (hh : h ≤ 8) (hxx : x ≤ W) : ∀ (q n : Nat) (a3 : Value), y + n + q = y1 → vd_wp d 199 236 [.ref 63, .int a1, .int (vd_I ((y + n : Nat) : Int)), a3] [] (vd_mf N (vd_ur W g 72 x x1 y v n)) Q = Q (vd_mf N (vd_ur W g 72 x x1 y v (n + q))) (.inl none) := by
  have hb' := hb
  obtain ⟨b1, b2, b3, b4⟩ := hb'
  have e8 : 8 * (h : Int) / 8 = (h : Int) := by omega
  have n63 : (63 : Nat) ≠ 72 := by decide
  intro q
  induction q with
  | zero =>
    intro n a3 hn
    have hn : y + n = y1 := by omega
    rw [hn]
    by_cases c : (y1 : Int) < (y : Int) + (h : Int)
    · have c2 : ¬ (y1 : Int) < (H : Int) := by omega
      simp (disch := omega) only [vd_S199_236 hN, vd_S199_252 hN, vd_S199_318 hN, vd_ur_ne n63, b2, b4, hH, vd_I_div, e8, vd_I_add, vd_I_toInt, c, c2, if_true, if_false, Nat.add_zero]
    · simp (disch := omega) only [vd_S199_236 hN, vd_S199_318 hN, vd_ur_ne n63, b2, b4, vd_I_div, e8, vd_I_add, vd_I_toInt, c, if_false, Nat.add_zero]
  | succ q ih =>
    intro n a3 hn
    have c : ((y + n : Nat) : Int) < (y : Int) + (h : Int) := by omega
    have c2 : ((y + n : Nat) : Int) < (H : Int) := by omega
    have e := ih (n + 1) (.int (vd_I (x1 : Int))) (by omega)
    have r := fun (Q : vd_M → (Option Value ⊕ Nat) → Prop) => vd_G199T (g := vd_ur W g 72 x x1 y v n) (d := d) (Q := Q) (a1 := a1) (v := v) (y := y) (h := h) hN (j := y + n) (H := H) hx1 (by unfold vd_by; simp only [vd_ur_ne n63]; exact hb) (by rw [vd_ur_ne n63]; exact hW) (by rw [vd_ur_ne n63]; exact hv) w1 w2 hw (by omega) hxx (x1 - x) 0 (by omega)
    simp only [Nat.add_zero, vd_uf_0] at r
    rw [vd_S199_236 hN]
    simp (disch := first | assumption | omega) only [vd_S199_252 hN, vd_S199_260 hN, vd_ur_ne n63, b2, b3, b4, hH, vd_I_div, e8, vd_I_toInt, c, c2, if_true, vd_I_add, r, vd_S199_312 hN]
    rw [show ((y + n : Nat) : Int) + 1 = ((y + (n + 1) : Nat) : Int) by omega, show n + (q + 1) = n + 1 + q by omega]
    exact e
/-- the reference's count over a row of flags -/
theorem vd_P200 (hN : vd_SR N) {o u1 u2 : Nat} {pu pl : Int} {bu bl : Int} (hk : vd_k N o = 34) (hl : vd_l N o = 576) (hu : g 63 101 = vd_I pu) (hll : g 63 102 = vd_I pl) (h1 : (pu = -1 ∧ bu = 0) ∨ (pu = (u1 : Int) ∧ u1 < 576 ∧ g o u1 = vd_I bu ∧ (bu = 0 ∨ bu = 1))) (h2 : (pl = -1 ∧ bl = 0) ∨ (pl = (u2 : Int) ∧ u2 < 576 ∧ g o u2 = vd_I bl ∧ (bl = 0 ∨ bl = 1))) : vd_wp d 200 0 [.ref 63, .ref o] [] (vd_mf N g) Q = Q (vd_mf N g) (.inl (some (.int (vd_I (bu + bl))))) := by
  have hk' : vd_k N o = 33 ∨ vd_k N o = 34 := Or.inr hk
  have lz : ∀ {z : Int}, z < 576 → z < (vd_l N o : Int) := fun {z} h => by rw [hl]; exact h
  rcases h1 with ⟨rfl, rfl⟩ | ⟨rfl, c1, c2, c3⟩
  · rcases h2 with ⟨rfl, rfl⟩ | ⟨rfl, e1, e2, e3⟩
    · simp (disch := omega) only [vd_S200_0 hN, vd_S200_7 hN, vd_S200_16 hN, vd_S200_20 hN, vd_S200_21 hN, vd_S200_28 hN, vd_S200_37 hN, vd_S200_41 hN, vd_S200_42 hN, vd_S200_12 hN, vd_S200_33 hN, hu, hll, vd_I_toInt, show (-1 : Int) < 0 by decide, if_true, vd_I_add]
    · rcases e3 with rfl | rfl
      · simp (disch := first | assumption | omega) only [vd_S200_0 hN, vd_S200_7 hN, vd_S200_16 hN, vd_S200_20 hN, vd_S200_21 hN, vd_S200_28 hN, vd_S200_37 hN, vd_S200_41 hN, vd_S200_42 hN, vd_S200_12 hN, vd_S200_33 hN, hu, hll, vd_I_toInt, show (-1 : Int) < 0 by decide, show ¬ ((u2 : Int) < 0) by omega, if_true, if_false, Int.toNat_natCast, e2, eq_self, vd_I_add]
      · simp (disch := first | assumption | omega) only [vd_S200_0 hN, vd_S200_7 hN, vd_S200_16 hN, vd_S200_20 hN, vd_S200_21 hN, vd_S200_28 hN, vd_S200_37 hN, vd_S200_41 hN, vd_S200_42 hN, vd_S200_12 hN, vd_S200_33 hN, hu, hll, vd_I_toInt, show (-1 : Int) < 0 by decide, show ¬ ((u2 : Int) < 0) by omega, if_true, if_false, Int.toNat_natCast, e2, show ¬ ((1 : Int) = 0) by decide, vd_I_add]
  · rcases h2 with ⟨rfl, rfl⟩ | ⟨rfl, e1, e2, e3⟩
    · rcases c3 with rfl | rfl
      · simp (disch := first | assumption | omega) only [vd_S200_0 hN, vd_S200_7 hN, vd_S200_16 hN, vd_S200_20 hN, vd_S200_21 hN, vd_S200_28 hN, vd_S200_37 hN, vd_S200_41 hN, vd_S200_42 hN, vd_S200_12 hN, vd_S200_33 hN, hu, hll, vd_I_toInt, show (-1 : Int) < 0 by decide, show ¬ ((u1 : Int) < 0) by omega, if_true, if_false, Int.toNat_natCast, c2, eq_self, vd_I_add]
      · simp (disch := first | assumption | omega) only [vd_S200_0 hN, vd_S200_7 hN, vd_S200_16 hN, vd_S200_20 hN, vd_S200_21 hN, vd_S200_28 hN, vd_S200_37 hN, vd_S200_41 hN, vd_S200_42 hN, vd_S200_12 hN, vd_S200_33 hN, hu, hll, vd_I_toInt, show (-1 : Int) < 0 by decide, show ¬ ((u1 : Int) < 0) by omega, if_true, if_false, Int.toNat_natCast, c2, show ¬ ((1 : Int) = 0) by decide, vd_I_add]
    · rcases c3 with rfl | rfl <;> rcases e3 with rfl | rfl
      all_goals simp (disch := first | assumption | omega) only [vd_S200_0 hN, vd_S200_7 hN, vd_S200_16 hN, vd_S200_20 hN, vd_S200_21 hN, vd_S200_28 hN, vd_S200_37 hN, vd_S200_41 hN, vd_S200_42 hN, vd_S200_12 hN, vd_S200_33 hN, hu, hll, vd_I_toInt, show ¬ ((u1 : Int) < 0) by omega, show ¬ ((u2 : Int) < 0) by omega, if_false, Int.toNat_natCast, c2, e2, eq_self, if_true, show ¬ ((1 : Int) = 0) by decide, vd_I_add]
end VDUQ
