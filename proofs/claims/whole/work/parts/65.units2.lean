/-! ===== rectangles of units: the class's methods ===== -/
/-- the facts of the block here: its place and its sides -/
def vd_bx (f : Nat → Nat → Int32) (fa k x y w h : Nat) : Prop := f fa (18 * k) = vd_I (x : Int) ∧ f fa (18 * k + 1) = vd_I (y : Int) ∧ f fa (18 * k + 2) = vd_I (w : Int) ∧ f fa (18 * k + 3) = vd_I (h : Int)
section VDUO
variable {M N : vd_M} {ow fa lo lf : Nat} {f g : Nat → Nat → Int32} {d : Nat} {Q : vd_M → (Option Value ⊕ Nat) → Prop}
/-- fillUnits, all rows -/
theorem vd_F77L (hM : vd_SC M ow fa lo lf) {o k x y x1 y1 : Nat} {v : Int32} (ho : 10 ≤ o) (hk : vd_k M o = 32) (hl : vd_l M o = 576) (hof : o ≠ fa) (hkk : k < 576) (hx : f fa (18 * k) = vd_I (x : Int)) (h1 : x1 ≤ 24) (h2 : y1 ≤ 24) (hxx : x ≤ x1) : ∀ (m n : Nat) (a7 : Value), y + n + m = y1 → vd_wp d 77 62 [.ref 37, .ref o, .int (vd_I (18 * (k : Int))), .int v, .int (vd_I (x1 : Int)), .int (vd_I (y1 : Int)), .int (vd_I ((y + n : Nat) : Int)), a7] [] (vd_mf M (vd_ur 24 f o x x1 y v n)) Q = Q (vd_mf M (vd_ur 24 f o x x1 y v (n + m))) (.inl none) := by
  intro m
  induction m with
  | zero =>
    intro n a7 hn
    have hn : y + n = y1 := by omega
    rw [hn]
    simp (disch := omega) only [vd_S77_62 hM, vd_S77_109 hM, vd_I_toInt, Int.lt_irrefl, if_false, Nat.add_zero]
  | succ m ih =>
    intro n a7 hn
    have c : ((y + n : Nat) : Int) < (y1 : Int) := by omega
    have e := ih (n + 1) (.int (vd_I (x1 : Int))) (by omega)
    have en : (18 * (k : Int) + 0).toNat = 18 * k := by omega
    have er : vd_ur 24 f o x x1 y v n fa (18 * k) = vd_I (x : Int) := by rw [vd_ur_ne (fun q => hof q.symm)]; exact hx
    have r := fun (Q : vd_M → (Option Value ⊕ Nat) → Prop) => vd_F77R (f := vd_ur 24 f o x x1 y v n) (d := d) (Q := Q) (hx := vd_I (18 * (k : Int))) (v := v) (y1 := (y1 : Int)) hM (x0 := x) (x1 := x1) (j := y + n) ho hk hl (by omega) h1 (x1 - x) x (by omega) (Nat.le_refl x)
    simp only [vd_uf_0] at r
    rw [vd_S77_62 hM]
    simp (disch := first | assumption | omega) only [vd_S77_69 hM, vd_S77_76 hM, vd_I_toInt, c, if_true, vd_I_add, en, er, r, vd_S77_103 hM]
    rw [show ((y + n : Nat) : Int) + 1 = ((y + (n + 1) : Nat) : Int) by omega, show n + (m + 1) = n + 1 + m by omega]
    exact e
theorem vd_F77 (hM : vd_SC M ow fa lo lf) {o k x y w h W H : Nat} {v : Int32} (ho : 10 ≤ o) (hk : vd_k M o = 32) (hl : vd_l M o = 576) (hof : o ≠ fa) (hkk : k < 576) (hb : vd_bx f fa k x y w h) (hW : f 37 2 = vd_I (W : Int)) (hH : f 37 3 = vd_I (H : Int)) (w1 : W ≤ 24) (w2 : H ≤ 24) (hw : w ≤ 8) (hh : h ≤ 8) (hx : x ≤ W) (hy : y ≤ H) : vd_wp (d + 1) 77 0 [.ref 37, .ref o, .int (vd_I (18 * (k : Int))), .int v, vd_U, vd_U, vd_U, vd_U] [] (vd_mf M f) Q = Q (vd_mf M (vd_ur 24 f o x (min W (x + w)) y v (min H (y + h) - y))) (.inl none) := by
  obtain ⟨b0, b1, b2, b3⟩ := hb
  have n0 : (18 * (k : Int) + 0).toNat = 18 * k := by omega
  have n1 : (18 * (k : Int) + 1).toNat = 18 * k + 1 := by omega
  have n2 : (18 * (k : Int) + 2).toNat = 18 * k + 2 := by omega
  have n3 : (18 * (k : Int) + 3).toNat = 18 * k + 3 := by omega
  have e1 : min (W : Int) ((x : Int) + (w : Int)) = ((min W (x + w) : Nat) : Int) := by omega
  have e2 : min (H : Int) ((y : Int) + (h : Int)) = ((min H (y + h) : Nat) : Int) := by omega
  have e := vd_F77L (f := f) (d := d + 1) (Q := Q) (v := v) hM ho hk hl hof hkk b0 (x1 := min W (x + w)) (y1 := min H (y + h)) (y := y) (by omega) (by omega) (by omega) (min H (y + h) - y) 0 vd_U (by omega)
  rw [Nat.add_zero, Nat.zero_add] at e
  simp (disch := first | assumption | omega) only [vd_S77_0 hM, vd_S77_69 hM, vd_S77_86 hM, vd_S77_103 hM, vd_S77_109 hM, vd_S77_11 hM, vd_S77_76 hM, vd_S77_96 hM, vd_S77_19 hM, vd_S77_21 hM, vd_S77_24 hM, vd_S77_37 hM, vd_S77_45 hM, vd_S77_47 hM, vd_S77_50 hM, vd_S77_59 hM, hW, hH, vd_I_add, n0, n1, n2, n3, b0, b1, b2, b3, vd_P289, vd_rs_v, vd_rs_n, e1, e2]
  exact e
theorem vd_P101 (hM : vd_SC M ow fa lo lf) {k x y w h W H : Nat} (hkk : k < 576) (hb : vd_bx f fa k x y w h) (hW : f 37 2 = vd_I (W : Int)) (hH : f 37 3 = vd_I (H : Int)) (w1 : W ≤ 24) (w2 : H ≤ 24) (hw : w ≤ 8) (hh : h ≤ 8) (hx : x ≤ W) (hy : y ≤ H) : vd_wp (d + 2) 101 0 [.ref 37, .int (vd_I (18 * (k : Int)))] [] (vd_mf M f) Q = Q (vd_mf M (vd_ur 24 f ow x (min W (x + w)) y (vd_I (18 * (k : Int))) (min H (y + h) - y))) (.inl none) := by
  have hp := hM.par
  have e := fun (Q : vd_M → (Option Value ⊕ Nat) → Prop) => vd_F77 (d := d) (Q := Q) (v := vd_I (18 * (k : Int))) hM hM.gow hM.kow hM.low (by omega) hkk hb hW hH w1 w2 hw hh hx hy
  simp (disch := omega) only [vd_S101_0 hM, vd_S101_7 hM, vd_S101_10 hM, e, vd_rs_v, vd_rs_n]
theorem vd_P76 (hM : vd_SC M ow fa lo lf) {k x y w h W H : Nat} {v : Int32} (hkk : k < 576) (hb : vd_bx f fa k x y w h) (hW : f 37 2 = vd_I (W : Int)) (hH : f 37 3 = vd_I (H : Int)) (w1 : W ≤ 24) (w2 : H ≤ 24) (hw : w ≤ 8) (hh : h ≤ 8) (hx : x ≤ W) (hy : y ≤ H) : vd_wp (d + 2) 76 0 [.ref 37, .int (vd_I (18 * (k : Int))), .int v] [] (vd_mf M f) Q = Q (vd_mf M (vd_ur 24 f 42 x (min W (x + w)) y v (min H (y + h) - y))) (.inl none) := by
  have hp := hM.par
  have e := fun (Q : vd_M → (Option Value ⊕ Nat) → Prop) => vd_F77 (d := d) (Q := Q) (v := v) hM (by decide) hM.k42 hM.l42 (by omega) hkk hb hW hH w1 w2 hw hh hx hy
  simp (disch := omega) only [vd_S76_0 hM, vd_S76_7 hM, vd_S76_10 hM, e, vd_rs_v, vd_rs_n]
/-- the least of a rectangle's map -/
def vd_lr (m : Nat → Nat → Int) (j x : Nat) : Nat → Int → Int
  | 0, a => a
  | n + 1, a => min (vd_lr m j x n a) (m (x + n) j)
def vd_lm (m : Nat → Nat → Int) (x w y : Nat) : Nat → Int → Int
  | 0, a => a
  | n + 1, a => vd_lr m (y + n) x w (vd_lm m x w y n a)
theorem vd_lr_b {m : Nat → Nat → Int} {j x : Nat} {a : Int} (hm : ∀ i j, 0 ≤ m i j ∧ m i j ≤ 7) (a0 : 0 ≤ a) (a1 : a ≤ 8) : ∀ n, 0 ≤ vd_lr m j x n a ∧ vd_lr m j x n a ≤ a ∧ (0 < n → vd_lr m j x n a ≤ 7) := by
  intro n
  induction n with
  | zero => simp only [vd_lr]; omega
  | succ n ih =>
    have := hm (x + n) j
    simp only [vd_lr]
    omega
theorem vd_F72R (hM : vd_SC M ow fa lo lf) {m : Nat → Nat → Int} {j x x1 W : Nat} {hx : Int32} {y1 a : Int} (hm : ∀ i j, 0 ≤ m i j ∧ m i j ≤ 7) (hj : j < 24) (h1 : x1 ≤ W) (hW : W ≤ 24) (hf : ∀ i, i < W → f 42 (24 * j + i) = vd_I (m i j)) (a0 : 0 ≤ a) (a1 : a ≤ 8) : ∀ (q n : Nat), x + n + q = x1 → vd_wp (d + 1) 72 80 [.ref 37, .int hx, .int (vd_I (x1 : Int)), .int (vd_I y1), .int (vd_I (vd_lr m j x n a)), .int (vd_I (j : Int)), .int (vd_I ((x + n : Nat) : Int))] [] (vd_mf M f) Q = vd_wp (d + 1) 72 112 [.ref 37, .int hx, .int (vd_I (x1 : Int)), .int (vd_I y1), .int (vd_I (vd_lr m j x (n + q) a)), .int (vd_I (j : Int)), .int (vd_I (x1 : Int))] [] (vd_mf M f) Q := by
  intro q
  induction q with
  | zero =>
    intro n hn
    have hn : x + n = x1 := by omega
    rw [hn]
    simp (disch := omega) only [vd_S72_80 hM, vd_I_toInt, Int.lt_irrefl, if_false, Nat.add_zero]
  | succ q ih =>
    intro n hn
    have c : ((x + n : Nat) : Int) < (x1 : Int) := by omega
    have e := ih (n + 1) (by omega)
    have ei : ((j : Int) * 24 + ((x + n : Nat) : Int)).toNat = 24 * j + (x + n) := by omega
    have ef := hf (x + n) (by omega)
    have hb := vd_lr_b (j := j) (x := x) hm a0 a1 n
    have hv := hm (x + n) j
    rw [vd_S72_80 hM]
    simp (disch := first | assumption | omega) only [vd_S72_86 hM, vd_S72_100 hM, vd_S72_101 hM, vd_S72_104 hM, vd_I_toInt, c, if_true, vd_I_mul, vd_I_add, ei, ef, vd_P289, vd_rs_v, vd_rs_n]
    rw [show ((x + n : Nat) : Int) + 1 = ((x + (n + 1) : Nat) : Int) by omega, show n + (q + 1) = n + 1 + q by omega]
    exact e
end VDUO
