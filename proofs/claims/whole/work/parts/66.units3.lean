/-! ===== the map: the class's least, the reference's loops ===== -/
theorem vd_lm_b {m : Nat → Nat → Int} {x w y : Nat} {a : Int} (hm : ∀ i j, 0 ≤ m i j ∧ m i j ≤ 7) (a0 : 0 ≤ a) (a1 : a ≤ 8) : ∀ n, 0 ≤ vd_lm m x w y n a ∧ vd_lm m x w y n a ≤ a ∧ (0 < n → 0 < w → vd_lm m x w y n a ≤ 7) := by
  intro n
  induction n with
  | zero => simp only [vd_lm]; omega
  | succ n ih =>
    have := vd_lr_b (j := y + n) (x := x) hm ih.1 (show vd_lm m x w y n a ≤ 8 by omega) w
    simp only [vd_lm]
    refine ⟨this.1, by omega, fun _ hw => this.2.2 hw⟩
theorem vd_lr_eq {m : Nat → Nat → Int} {j x : Nat} (hm : ∀ i j, 0 ≤ m i j ∧ m i j ≤ 7) : ∀ n, vd_lr m j x (n + 1) 8 = vd_lr m j x (n + 1) 7 := by
  intro n
  induction n with
  | zero =>
    have := hm (x + 0) j
    simp only [vd_lr]
    omega
  | succ n ih =>
    show min (vd_lr m j x (n + 1) 8) _ = min (vd_lr m j x (n + 1) 7) _
    rw [ih]
theorem vd_lm_eq {m : Nat → Nat → Int} {x w y : Nat} (hm : ∀ i j, 0 ≤ m i j ∧ m i j ≤ 7) (hw : 0 < w) : ∀ n, vd_lm m x w y (n + 1) 8 = vd_lm m x w y (n + 1) 7 := by
  intro n
  obtain ⟨w', rfl⟩ : ∃ w', w = w' + 1 := ⟨w - 1, by omega⟩
  induction n with
  | zero =>
    show vd_lr m (y + 0) x (w' + 1) 8 = vd_lr m (y + 0) x (w' + 1) 7
    exact vd_lr_eq hm w'
  | succ n ih =>
    show vd_lr m (y + (n + 1)) x (w' + 1) (vd_lm m x (w' + 1) y (n + 1) 8) = vd_lr m (y + (n + 1)) x (w' + 1) (vd_lm m x (w' + 1) y (n + 1) 7)
    rw [ih]
theorem vd_ixN (W i j : Nat) : ((j : Int) * (W : Int) + (i : Int)) = ((W * j + i : Nat) : Int) := by
  rw [Nat.mul_comm]
  push_cast
  rfl
section VDUP
variable {M N : vd_M} {ow fa lo lf : Nat} {f g : Nat → Nat → Int32} {d : Nat} {Q : vd_M → (Option Value ⊕ Nat) → Prop} {m : Nat → Nat → Int}
theorem vd_F72L (hM : vd_SC M ow fa lo lf) {k x y x1 y1 W H : Nat} (hm : ∀ i j, 0 ≤ m i j ∧ m i j ≤ 7) (hkk : k < 576) (hx : f fa (18 * k) = vd_I (x : Int)) (h1 : x1 ≤ W) (hW : W ≤ 24) (h2 : y1 ≤ H) (hH : H ≤ 24) (hxx : x ≤ x1) (hf : ∀ i j, i < W → j < H → f 42 (24 * j + i) = vd_I (m i j)) : ∀ (q n : Nat) (a6 : Value), y + n + q = y1 → vd_wp (d + 1) 72 64 [.ref 37, .int (vd_I (18 * (k : Int))), .int (vd_I (x1 : Int)), .int (vd_I (y1 : Int)), .int (vd_I (vd_lm m x (x1 - x) y n 7)), .int (vd_I ((y + n : Nat) : Int)), a6] [] (vd_mf M f) Q = Q (vd_mf M f) (.inl (some (.int (vd_I (vd_lm m x (x1 - x) y (n + q) 7))))) := by
  intro q
  induction q with
  | zero =>
    intro n a6 hn
    have hn : y + n = y1 := by omega
    rw [hn]
    simp (disch := omega) only [vd_S72_64 hM, vd_S72_118 hM, vd_I_toInt, Int.lt_irrefl, if_false, Nat.add_zero]
  | succ q ih =>
    intro n a6 hn
    have c : ((y + n : Nat) : Int) < (y1 : Int) := by omega
    have e := ih (n + 1) (.int (vd_I (x1 : Int))) (by omega)
    have en : (18 * (k : Int) + 0).toNat = 18 * k := by omega
    have hb := vd_lm_b (x := x) (w := x1 - x) (y := y) hm (show (0 : Int) ≤ 7 by decide) (by decide) n
    have r := fun (Q : vd_M → (Option Value ⊕ Nat) → Prop) => vd_F72R (f := f) (d := d) (Q := Q) (hx := vd_I (18 * (k : Int))) (y1 := (y1 : Int)) (a := vd_lm m x (x1 - x) y n 7) hM (x := x) (x1 := x1) (j := y + n) hm (by omega) h1 hW (fun i hi => hf i (y + n) hi (by omega)) hb.1 (by omega) (x1 - x) 0 (by omega)
    simp only [Nat.add_zero, Nat.zero_add, vd_lr] at r
    rw [vd_S72_64 hM]
    simp (disch := first | assumption | omega) only [vd_S72_70 hM, vd_S72_77 hM, vd_I_toInt, c, if_true, vd_I_add, en, hx, r, vd_S72_112 hM]
    rw [show ((y + n : Nat) : Int) + 1 = ((y + (n + 1) : Nat) : Int) by omega, show n + (q + 1) = n + 1 + q by omega]
    exact e
theorem vd_P72 (hM : vd_SC M ow fa lo lf) {k x y w h W H : Nat} (hm : ∀ i j, 0 ≤ m i j ∧ m i j ≤ 7) (hkk : k < 576) (hb : vd_bx f fa k x y w h) (hW : f 37 2 = vd_I (W : Int)) (hH : f 37 3 = vd_I (H : Int)) (w1 : W ≤ 24) (w2 : H ≤ 24) (hw : w ≤ 8) (hh : h ≤ 8) (hx : x ≤ W) (hy : y ≤ H) (hf : ∀ i j, i < W → j < H → f 42 (24 * j + i) = vd_I (m i j)) : vd_wp (d + 1) 72 0 [.ref 37, .int (vd_I (18 * (k : Int))), vd_U, vd_U, vd_U, vd_U, vd_U] [] (vd_mf M f) Q = Q (vd_mf M f) (.inl (some (.int (vd_I (vd_lm m x (min W (x + w) - x) y (min H (y + h) - y) 7))))) := by
  obtain ⟨b0, b1, b2, b3⟩ := hb
  have n0 : (18 * (k : Int) + 0).toNat = 18 * k := by omega
  have n1 : (18 * (k : Int) + 1).toNat = 18 * k + 1 := by omega
  have n2 : (18 * (k : Int) + 2).toNat = 18 * k + 2 := by omega
  have n3 : (18 * (k : Int) + 3).toNat = 18 * k + 3 := by omega
  have e1 : min (W : Int) ((x : Int) + (w : Int)) = ((min W (x + w) : Nat) : Int) := by omega
  have e2 : min (H : Int) ((y : Int) + (h : Int)) = ((min H (y + h) : Nat) : Int) := by omega
  have e := vd_F72L (f := f) (d := d) (Q := Q) hM hm hkk b0 (x1 := min W (x + w)) (y1 := min H (y + h)) (y := y) (by omega) w1 (by omega) w2 (by omega) hf (min H (y + h) - y) 0 vd_U (by omega)
  rw [Nat.add_zero, Nat.zero_add] at e
  simp (disch := first | assumption | omega) only [vd_S72_0 hM, vd_S72_70 hM, vd_S72_86 hM, vd_S72_112 hM, vd_S72_118 hM, vd_S72_11 hM, vd_S72_77 hM, vd_S72_100 hM, vd_S72_19 hM, vd_S72_101 hM, vd_S72_21 hM, vd_S72_104 hM, vd_S72_24 hM, vd_S72_36 hM, vd_S72_44 hM, vd_S72_46 hM, vd_S72_49 hM, vd_S72_61 hM, hW, hH, vd_I_add, n0, n1, n2, n3, b0, b1, b2, b3, vd_P289, vd_rs_v, vd_rs_n, e1, e2]
  exact e
/-- the reference's block: where it is -/
def vd_by (g : Nat → Nat → Int32) (x y w h : Nat) : Prop := g 63 97 = vd_I (8 * (w : Int)) ∧ g 63 98 = vd_I (8 * (h : Int)) ∧ g 63 99 = vd_I (x : Int) ∧ g 63 100 = vd_I (y : Int)
theorem vd_G199R (hN : vd_SR N) {j x y w h W H x1 : Nat} {a : Int} (hx1 : x1 = min W (x + w)) (hb : vd_by g x y w h) (hW : g 63 26 = vd_I (W : Int)) (w1 : W ≤ 24) (w2 : H ≤ 24) (hw : w ≤ 8) (hj : j < H) (hm : ∀ i j, 0 ≤ m i j ∧ m i j ≤ 7) (hg : ∀ i j, i < W → j < H → g 72 (W * j + i) = vd_I (m i j)) (a0 : 0 ≤ a) (a1 : a ≤ 8) (hxx : x ≤ W) : ∀ (q n : Nat), x + n + q = x1 → vd_wp (d + 1) 199 55 [.ref 63, .int (vd_I (vd_lr m j x n a)), .int (vd_I (j : Int)), .int (vd_I ((x + n : Nat) : Int))] [] (vd_mf N g) Q = vd_wp (d + 1) 199 103 [.ref 63, .int (vd_I (vd_lr m j x (n + q) a)), .int (vd_I (j : Int)), .int (vd_I (x1 : Int))] [] (vd_mf N g) Q := by
  obtain ⟨b1, b2, b3, b4⟩ := hb
  have e8 : 8 * (w : Int) / 8 = (w : Int) := by omega
  intro q
  induction q with
  | zero =>
    intro n hn
    have hn : x + n = x1 := by omega
    rw [hn]
    by_cases c : (x1 : Int) < (x : Int) + (w : Int)
    · have c2 : ¬ (x1 : Int) < (W : Int) := by omega
      simp (disch := omega) only [vd_S199_55 hN, vd_S199_71 hN, b1, b3, hW, vd_I_div, e8, vd_I_add, vd_I_toInt, c, c2, if_true, if_false, Nat.add_zero]
    · simp (disch := omega) only [vd_S199_55 hN, b1, b3, vd_I_div, e8, vd_I_add, vd_I_toInt, c, if_false, Nat.add_zero]
  | succ q ih =>
    intro n hn
    have c : ((x + n : Nat) : Int) < (x : Int) + (w : Int) := by omega
    have c2 : ((x + n : Nat) : Int) < (W : Int) := by omega
    have e := ih (n + 1) (by omega)
    have hi : x + n < W := by omega
    have ef := hg (x + n) j hi hj
    have hx := vd_ix hi hj
    have hy : W * H ≤ 24 * 24 := Nat.mul_le_mul w1 w2
    have hb := vd_lr_b (j := j) (x := x) hm a0 a1 n
    have hv := hm (x + n) j
    rw [vd_S199_55 hN]
    simp (disch := first | assumption | omega) only [vd_S199_71 hN, vd_S199_79 hN, vd_S199_92 hN, vd_S199_93 hN, vd_S199_96 hN, b1, b3, hW, vd_I_div, e8, vd_I_toInt, c, c2, if_true, vd_I_mul, vd_I_add, vd_ixN, Int.toNat_natCast, ef, vd_P289, vd_rs_v, vd_rs_n]
    rw [show ((x + n : Nat) : Int) + 1 = ((x + (n + 1) : Nat) : Int) by omega, show n + (q + 1) = n + 1 + q by omega]
    exact e
theorem vd_G199L (hN : vd_SR N) {x y w h W H x1 y1 : Nat} (hx1 : x1 = min W (x + w)) (hy1 : y1 = min H (y + h)) (hb : vd_by g x y w h) (hW : g 63 26 = vd_I (W : Int)) (hH : g 63 27 = vd_I (H : Int)) (w1 : W ≤ 24) (w2 : H ≤ 24) (hw : w ≤ 8) (hh : h ≤ 8) (hm : ∀ i j, 0 ≤ m i j ∧ m i j ≤ 7) (hg : ∀ i j, i < W → j < H → g 72 (W * j + i) = vd_I (m i j)) (hxx : x ≤ W) : ∀ (q n : Nat) (a3 : Value), y + n + q = y1 → vd_wp (d + 1) 199 26 [.ref 63, .int (vd_I (vd_lm m x (x1 - x) y n 8)), .int (vd_I ((y + n : Nat) : Int)), a3] [] (vd_mf N g) Q = vd_wp (d + 1) 199 109 [.ref 63, .int (vd_I (vd_lm m x (x1 - x) y (n + q) 8)), .int (vd_I (y1 : Int)), (if n + q = 0 then a3 else if q = 0 then a3 else .int (vd_I (x1 : Int)))] [] (vd_mf N g) Q := by
  have hb' := hb
  obtain ⟨b1, b2, b3, b4⟩ := hb'
  have e8 : 8 * (h : Int) / 8 = (h : Int) := by omega
  intro q
  induction q with
  | zero =>
    intro n a3 hn
    have hn : y + n = y1 := by omega
    rw [hn]
    have ea : (if n + 0 = 0 then a3 else if (0 : Nat) = 0 then a3 else .int (vd_I (x1 : Int))) = a3 := by
      split
      · rfl
      · rw [if_pos rfl]
    rw [ea]
    by_cases c : (y1 : Int) < (y : Int) + (h : Int)
    · have c2 : ¬ (y1 : Int) < (H : Int) := by omega
      simp (disch := omega) only [vd_S199_26 hN, vd_S199_42 hN, b2, b4, hH, vd_I_div, e8, vd_I_add, vd_I_toInt, c, c2, if_true, if_false, Nat.add_zero]
    · simp (disch := omega) only [vd_S199_26 hN, b2, b4, vd_I_div, e8, vd_I_add, vd_I_toInt, c, if_false, Nat.add_zero]
  | succ q ih =>
    intro n a3 hn
    have c : ((y + n : Nat) : Int) < (y : Int) + (h : Int) := by omega
    have c2 : ((y + n : Nat) : Int) < (H : Int) := by omega
    have e := ih (n + 1) (.int (vd_I (x1 : Int))) (by omega)
    have hbb := vd_lm_b (x := x) (w := x1 - x) (y := y) hm (show (0 : Int) ≤ 8 by decide) (by decide) n
    have r := fun (Q : vd_M → (Option Value ⊕ Nat) → Prop) => vd_G199R (g := g) (d := d) (Q := Q) (a := vd_lm m x (x1 - x) y n 8) hN (j := y + n) (H := H) hx1 hb hW w1 w2 hw (by omega) hm hg hbb.1 (by omega) hxx (x1 - x) 0 (by omega)
    simp only [Nat.add_zero, Nat.zero_add, vd_lr] at r
    have ea : (if n + 1 + q = 0 then Value.int (vd_I (x1 : Int)) else if q = 0 then Value.int (vd_I (x1 : Int)) else .int (vd_I (x1 : Int))) = (if n + (q + 1) = 0 then a3 else if q + 1 = 0 then a3 else .int (vd_I (x1 : Int))) := by
      rw [if_neg (by omega), if_neg (show ¬ n + (q + 1) = 0 by omega), if_neg (show ¬ q + 1 = 0 by omega)]
      split <;> rfl
    rw [ea] at e
    rw [vd_S199_26 hN]
    simp (disch := first | assumption | omega) only [vd_S199_42 hN, vd_S199_50 hN, b2, b3, b4, hH, vd_I_div, e8, vd_I_toInt, c, c2, if_true, vd_I_add, r, vd_S199_103 hN]
    rw [show ((y + n : Nat) : Int) + 1 = ((y + (n + 1) : Nat) : Int) by omega]
    rw [show n + 1 + q = n + (q + 1) by omega] at e
    exact e
end VDUP
