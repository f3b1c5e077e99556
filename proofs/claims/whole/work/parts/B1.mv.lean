/-! ===== moved ===== -/
section VDMV
variable {N : vd_M} {q pl : Nat} {w h : Int}
theorem vd_r7 (hN : vd_SR N) {v : Int} (v0 : -1000000000 ≤ v) (v1 : v ≤ 1000000000) (g : Nat → Nat → Int32) (d : Nat) (Q : vd_M → (Option Value ⊕ Nat) → Prop) : vd_wp d 231 0 [.int (vd_I v), .int (vd_I 7)] [] (vd_mf N g) Q = Q (vd_mf N g) (.inl (some (.int (vd_I ((64 + v) / 128))))) := by
  have e : vd_I 1 <<< ((vd_I 7 - vd_I 1) &&& 31) = vd_I 64 := by decide
  simp (disch := omega) only [vd_S231_0 hN, e, vd_I_add, vd_shr7, Int.add_comm v 64]
theorem vd_r1 (hN : vd_SR N) {v : Int} (v0 : -1000000000 ≤ v) (v1 : v ≤ 1000000000) (g : Nat → Nat → Int32) (d : Nat) (Q : vd_M → (Option Value ⊕ Nat) → Prop) : vd_wp d 231 0 [.int (vd_I v), .int (vd_I 1)] [] (vd_mf N g) Q = Q (vd_mf N g) (.inl (some (.int (vd_I ((v + 1) / 2))))) := by
  have e : vd_I 1 <<< ((vd_I 1 - vd_I 1) &&& 31) = vd_I 1 := by decide
  simp (disch := omega) only [vd_S231_0 hN, e, vd_I_add, vd_shr1]
theorem vd_L224i (hN : vd_SR N) (hq : vd_PD N q) {g : Nat → Nat → Int32} {wd hd kern j : Nat} {u v : Int} {P : Nat → Nat → Int} (hpl : pl < 3) (hw : g q 0 = vd_I w) (w0 : 1 ≤ w) (w1 : w ≤ 192) (hh : g q 1 = vd_I h) (h0 : 1 ≤ h) (h1 : h ≤ 192) (hwd : (wd : Int) = vd_pd pl w) (hhd : (hd : Int) = vd_pd pl h) (hk : g 63 109 = vd_I (kern : Int)) (hk2 : kern < 2) (hT : ∀ n, n < 72 → g 7 n = vd_I (vd_tapL.getD n 0)) (hS : ∀ a b, a < wd → b < hd → g (q + 2 + pl) (b * vd_ws pl w + a) &&& vd_I 255 = vd_I (P a b)) (hu : -50000 ≤ u ∧ u ≤ 50000) (hv : -50000 ≤ v ∧ v ≤ 50000) (hj : j < 8) (x3 x4 x5 x6 x9 x11 : Int32) (d : Nat) (Q : vd_M → (Option Value ⊕ Nat) → Prop) : ∀ (m i : Nat), i + m = 8 → vd_wp (d + 3) 224 92 [.ref 63, .ref q, .int (vd_I (pl : Int)), .int x3, .int x4, .int x5, .int x6, .int (vd_I u), .int (vd_I v), .int x9, .int (vd_I (j : Int)), .int x11, .int (vd_I (vd_sum (fun t => vd_tap kern (u % 16).toNat t * vd_ln P wd hd (u / 16) (v / 16) j (0 + t)) i)), .int (vd_I (i : Int))] [] (vd_mf N g) Q = vd_wp (d + 3) 224 145 [.ref 63, .ref q, .int (vd_I (pl : Int)), .int x3, .int x4, .int x5, .int x6, .int (vd_I u), .int (vd_I v), .int x9, .int (vd_I (j : Int)), .int x11, .int (vd_I (vd_sum (fun t => vd_tap kern (u % 16).toNat t * vd_ln P wd hd (u / 16) (v / 16) j (0 + t)) 8)), .int (vd_I 8)] [] (vd_mf N g) Q := by
  have hk13 := hq.1.1
  have bw : 1 ≤ vd_pd pl w ∧ vd_pd pl w ≤ 192 := by unfold vd_pd; split <;> omega
  have bh : 1 ≤ vd_pd pl h ∧ vd_pd pl h ≤ 192 := by unfold vd_pd; split <;> omega
  intro m
  induction m with
  | zero =>
    intro i hi
    have e : i = 8 := by omega
    subst e
    rw [vd_S224_92 hN]
    simp (disch := omega) only [vd_I_toInt, show ((8 : Nat) : Int) = 8 from rfl, Int.lt_irrefl, if_false]
  | succ m ih =>
    intro i hi
    have c : (i : Int) < 8 := by omega
    have e1 : (i : Int) + 1 = ((i + 1 : Nat) : Int) := by omega
    have e2 : vd_sum (fun t => vd_tap kern (u % 16).toNat t * vd_ln P wd hd (u / 16) (v / 16) j (0 + t)) i + vd_tap kern (u % 16).toNat i * vd_ln P wd hd (u / 16) (v / 16) j (0 + i) = vd_sum (fun t => vd_tap kern (u % 16).toNat t * vd_ln P wd hd (u / 16) (v / 16) j (0 + t)) (i + 1) := rfl
    have em : u % 16 = (((u % 16).toNat : Nat) : Int) := by omega
    have P225 := fun (d : Nat) (Q : vd_M → (Option Value ⊕ Nat) → Prop) => vd_P225 (g := g) (d := d) (Q := Q) (t := (u % 16).toNat) (i := i) hN hk hk2 (by omega) (by omega) hT
    rw [← em] at P225
    have ea : ((0 + i : Nat) : Int) = (i : Int) := by omega
    have eln : vd_ln P wd hd (u / 16) (v / 16) j (0 + i) = P (vd_wn (u / 16 + (i : Int) - 3) 0 (vd_pd pl w - 1)).toNat (vd_wn (v / 16 + (j : Int) - 3) 0 (vd_pd pl h - 1)).toNat := by
      unfold vd_ln
      rw [hwd, hhd, ea]
    have wa := vd_wn_b (v := u / 16 + (i : Int) - 3) (lo := 0) (hi := vd_pd pl w - 1) (by omega)
    have wb := vd_wn_b (v := v / 16 + (j : Int) - 3) (lo := 0) (hi := vd_pd pl h - 1) (by omega)
    have P226 := fun (d : Nat) (Q : vd_M → (Option Value ⊕ Nat) → Prop) => vd_P226 (g := g) (d := d) (Q := Q) (a := u / 16 + (i : Int) - 3) (b := v / 16 + (j : Int) - 3) hN hq hw w0 w1 hh h0 h1 hpl (by omega) (by omega) (hS _ _ (by omega) (by omega))
    rw [← eln] at P226
    rw [← ih (i + 1) (by omega), vd_S224_92 hN]
    simp (disch := first | assumption | omega) only [vd_S224_99 hN, vd_S224_109 hN, vd_S224_112 hN, vd_S224_132 hN, vd_S224_135 hN, vd_I_toInt, c, if_true, vd_and15, vd_shr4, vd_I_add, vd_I_sub, vd_I_mul, P225, P226, e1, e2, vd_rs_v, vd_rs_n]
theorem vd_L224j (hN : vd_SR N) (hq : vd_PD N q) {g : Nat → Nat → Int32} {wd hd kern : Nat} {u v : Int} {P : Nat → Nat → Int} (hpl : pl < 3) (hw : g q 0 = vd_I w) (w0 : 1 ≤ w) (w1 : w ≤ 192) (hh : g q 1 = vd_I h) (h0 : 1 ≤ h) (h1 : h ≤ 192) (hwd : (wd : Int) = vd_pd pl w) (hhd : (hd : Int) = vd_pd pl h) (hk : g 63 109 = vd_I (kern : Int)) (hk2 : kern < 2) (hT : ∀ n, n < 72 → g 7 n = vd_I (vd_tapL.getD n 0)) (hS : ∀ a b, a < wd → b < hd → g (q + 2 + pl) (b * vd_ws pl w + a) &&& vd_I 255 = vd_I (P a b)) (hPb : ∀ a b, 0 ≤ P a b ∧ P a b ≤ 255) (hu : -50000 ≤ u ∧ u ≤ 50000) (hv : -50000 ≤ v ∧ v ≤ 50000) (x3 x4 x5 x6 : Int32) (d : Nat) (Q : vd_M → (Option Value ⊕ Nat) → Prop) : ∀ (m j : Nat) (a11 a12 a13 : Value), j + m = 8 → vd_wp (d + 3) 224 58 [.ref 63, .ref q, .int (vd_I (pl : Int)), .int x3, .int x4, .int x5, .int x6, .int (vd_I u), .int (vd_I v), .int (vd_I (vd_sum (fun t => vd_tap kern (v % 16).toNat t * vd_hr (vd_tap kern (u % 16).toNat) (vd_ln P wd hd (u / 16) (v / 16) (0 + t)) 0) j)), .int (vd_I (j : Int)), a11, a12, a13] [] (vd_mf N g) Q = Q (vd_mf N g) (.inl (some (.int (vd_I (vd_mp P wd hd kern u v))))) := by
  have sbv : ∀ n, n ≤ 8 → -400000 ≤ vd_sum (fun t => vd_tap kern (v % 16).toNat t * vd_hr (vd_tap kern (u % 16).toNat) (vd_ln P wd hd (u / 16) (v / 16) (0 + t)) 0) n ∧ vd_sum (fun t => vd_tap kern (v % 16).toNat t * vd_hr (vd_tap kern (u % 16).toNat) (vd_ln P wd hd (u / 16) (v / 16) (0 + t)) 0) n ≤ 400000 := by
    intro n hn
    have := vd_sum_b (F := fun t => vd_tap kern (v % 16).toNat t * vd_hr (vd_tap kern (u % 16).toNat) (vd_ln P wd hd (u / 16) (v / 16) (0 + t)) 0) (fun t => vd_mulb (vd_tap_b (by omega) t).1 (vd_tap_b (by omega) t).2 (vd_hr_b _ _ _).1 (vd_hr_b _ _ _).2) n
    omega
  intro m
  induction m with
  | zero =>
    intro j a11 a12 a13 hj
    have e : j = 8 := by omega
    subst e
    have sb := sbv 8 (Nat.le_refl _)
    have emp : vd_mp P wd hd kern u v = vd_wn ((64 + vd_sum (fun t => vd_tap kern (v % 16).toNat t * vd_hr (vd_tap kern (u % 16).toNat) (vd_ln P wd hd (u / 16) (v / 16) (0 + t)) 0) 8) / 128) 0 255 := rfl
    rw [emp]
    generalize vd_sum (fun t => vd_tap kern (v % 16).toNat t * vd_hr (vd_tap kern (u % 16).toNat) (vd_ln P wd hd (u / 16) (v / 16) (0 + t)) 0) 8 = S at *
    have P231 := vd_r7 hN (v := S) (by omega) (by omega)
    have P232 := fun (d : Nat) (Q : vd_M → (Option Value ⊕ Nat) → Prop) => vd_P232 (a := (64 + S) / 128) (f := g) (d := d) (Q := Q) hN (by omega) (by omega)
    rw [vd_S224_58 hN]
    simp (disch := omega) only [vd_S224_169 hN, vd_S224_173 hN, vd_S224_176 hN, vd_S224_179 hN, P231, P232, vd_I_toInt, show ((8 : Nat) : Int) = 8 from rfl, Int.lt_irrefl, if_false, vd_rs_v, vd_rs_n]
  | succ m ih =>
    intro j a11 a12 a13 hj
    have c : (j : Int) < 8 := by omega
    have e1 : (j : Int) + 1 = ((j + 1 : Nat) : Int) := by omega
    have em : v % 16 = (((v % 16).toNat : Nat) : Int) := by omega
    have P225 := fun (d : Nat) (Q : vd_M → (Option Value ⊕ Nat) → Prop) => vd_P225 (g := g) (d := d) (Q := Q) (t := (v % 16).toNat) (i := j) hN hk hk2 (by omega) (by omega) hT
    rw [← em] at P225
    have tb := vd_tap_b (k := kern) (f := (v % 16).toNat) (by omega) j
    have e2 : vd_sum (fun t => vd_tap kern (v % 16).toNat t * vd_hr (vd_tap kern (u % 16).toNat) (vd_ln P wd hd (u / 16) (v / 16) (0 + t)) 0) (j + 1) = vd_sum (fun t => vd_tap kern (v % 16).toNat t * vd_hr (vd_tap kern (u % 16).toNat) (vd_ln P wd hd (u / 16) (v / 16) (0 + t)) 0) j + vd_tap kern (v % 16).toNat j * vd_hr (vd_tap kern (u % 16).toNat) (vd_ln P wd hd (u / 16) (v / 16) (0 + j)) 0 := rfl
    have nx := fun a11 a12 a13 => ih (j + 1) a11 a12 a13 (by omega)
    rw [e2] at nx
    generalize vd_sum (fun t => vd_tap kern (v % 16).toNat t * vd_hr (vd_tap kern (u % 16).toNat) (vd_ln P wd hd (u / 16) (v / 16) (0 + t)) 0) j = S at *
    by_cases ck : vd_tap kern (v % 16).toNat j = 0
    · rw [ck, Int.zero_mul, Int.add_zero] at nx
      rw [vd_S224_58 hN]
      simp (disch := first | assumption | omega) only [vd_S224_65 hN, vd_S224_73 hN, vd_S224_76 hN, vd_S224_83 hN, vd_S224_163 hN, vd_I_toInt, c, if_true, vd_and15, P225, ck, eq_self, vd_I_add, e1, nx, vd_rs_v, vd_rs_n]
    · have il := fun x9 x11 d Q => vd_L224i (g := g) (j := j) (u := u) (v := v) hN hq hpl hw w0 w1 hh h0 h1 hwd hhd hk hk2 hT hS hu hv (by omega) x3 x4 x5 x6 x9 x11 d Q 8 0 rfl
      have s0 : vd_sum (fun t => vd_tap kern (u % 16).toNat t * vd_ln P wd hd (u / 16) (v / 16) j (0 + t)) 0 = 0 := rfl
      have z0 : ((0 : Nat) : Int) = 0 := rfl
      simp only [s0, z0] at il
      have sb2 := vd_sum_b (F := fun t => vd_tap kern (u % 16).toNat t * vd_ln P wd hd (u / 16) (v / 16) j (0 + t)) (fun t => vd_mulb (vd_tap_b (by omega) t).1 (vd_tap_b (by omega) t).2 (hPb _ _).1 (hPb _ _).2) 8
      have z8 : ((8 : Nat) : Int) = 8 := rfl
      rw [z8] at sb2
      have ehr : vd_hr (vd_tap kern (u % 16).toNat) (vd_ln P wd hd (u / 16) (v / 16) (0 + j)) 0 = vd_wn ((64 + vd_sum (fun t => vd_tap kern (u % 16).toNat t * vd_ln P wd hd (u / 16) (v / 16) j (0 + t)) 8) / 128) 0 255 := by
        rw [Nat.zero_add]
        rfl
      rw [ehr] at nx
      generalize vd_sum (fun t => vd_tap kern (u % 16).toNat t * vd_ln P wd hd (u / 16) (v / 16) j (0 + t)) 8 = R at *
      have P231 := vd_r7 hN (v := R) (by omega) (by omega)
      have P232 := fun (d : Nat) (Q : vd_M → (Option Value ⊕ Nat) → Prop) => vd_P232 (a := (64 + R) / 128) (f := g) (d := d) (Q := Q) hN (by omega) (by omega)
      rw [vd_S224_58 hN]
      simp (disch := first | assumption | omega) only [vd_S224_65 hN, vd_S224_73 hN, vd_S224_76 hN, vd_S224_86 hN, il, vd_S224_145 hN, vd_S224_153 hN, vd_S224_156 hN, vd_S224_159 hN, vd_S224_163 hN, vd_I_toInt, c, if_true, if_false, vd_and15, P225, P231, P232, ck, vd_I_mul, vd_I_add, e1, nx, vd_rs_v, vd_rs_n]
theorem vd_P224 (hN : vd_SR N) (hq : vd_PD N q) {g : Nat → Nat → Int32} {wd hd kern x y : Nat} {dx dy : Int} {P : Nat → Nat → Int} (hpl : pl < 3) (hw : g q 0 = vd_I w) (w0 : 1 ≤ w) (w1 : w ≤ 192) (hh : g q 1 = vd_I h) (h0 : 1 ≤ h) (h1 : h ≤ 192) (hwd : (wd : Int) = vd_pd pl w) (hhd : (hd : Int) = vd_pd pl h) (hk : g 63 109 = vd_I (kern : Int)) (hk2 : kern < 2) (hT : ∀ n, n < 72 → g 7 n = vd_I (vd_tapL.getD n 0)) (hS : ∀ a b, a < wd → b < hd → g (q + 2 + pl) (b * vd_ws pl w + a) &&& vd_I 255 = vd_I (P a b)) (hPb : ∀ a b, 0 ≤ P a b ∧ P a b ≤ 255) (hx : x < 192) (hy : y < 192) (hdx : -10000 ≤ dx ∧ dx ≤ 10000) (hdy : -10000 ≤ dy ∧ dy ≤ 10000) (d : Nat) (Q : vd_M → (Option Value ⊕ Nat) → Prop) : vd_wp (d + 3) 224 0 [.ref 63, .ref q, .int (vd_I (pl : Int)), .int (vd_I (x : Int)), .int (vd_I (y : Int)), .int (vd_I dx), .int (vd_I dy), vd_U, vd_U, vd_U, vd_U, vd_U, vd_U, vd_U] [] (vd_mf N g) Q = Q (vd_mf N g) (.inl (some (.int (vd_I (vd_mp P wd hd kern (16 * (x : Int) + vd_sc pl * dx) (16 * (y : Int) + vd_sc pl * dy)))))) := by
  have z0 : ((0 : Nat) : Int) = 0 := rfl
  by_cases c : pl = 0
  · have es : vd_sc pl = 2 := by unfold vd_sc; rw [if_pos c]
    have c' : ((pl : Nat) : Int) = 0 := by omega
    have L := vd_L224j (P := P) (u := 16 * (x : Int) + 2 * dx) (v := 16 * (y : Int) + 2 * dy) hN hq hpl hw w0 w1 hh h0 h1 hwd hhd hk hk2 hT hS hPb (by omega) (by omega) (vd_I (x : Int)) (vd_I (y : Int)) (vd_I dx) (vd_I dy) d Q 8 0 vd_U vd_U vd_U rfl
    have s0 : vd_sum (fun t => vd_tap kern ((16 * (y : Int) + 2 * dy) % 16).toNat t * vd_hr (vd_tap kern ((16 * (x : Int) + 2 * dx) % 16).toNat) (vd_ln P wd hd ((16 * (x : Int) + 2 * dx) / 16) ((16 * (y : Int) + 2 * dy) / 16) (0 + t)) 0) 0 = 0 := rfl
    rw [s0, z0, c'] at L
    rw [es, c']
    simp (disch := omega) only [vd_S224_0 hN, vd_S224_4 hN, vd_S224_23 hN, vd_S224_29 hN, vd_S224_50 hN, vd_I_toInt, eq_self, if_true, vd_I_mul, vd_I_add, L]
  · have es : vd_sc pl = 1 := by unfold vd_sc; rw [if_neg c]
    have c' : ¬ (((pl : Nat) : Int) = 0) := by omega
    have L := vd_L224j (P := P) (u := 16 * (x : Int) + 1 * dx) (v := 16 * (y : Int) + 1 * dy) hN hq hpl hw w0 w1 hh h0 h1 hwd hhd hk hk2 hT hS hPb (by omega) (by omega) (vd_I (x : Int)) (vd_I (y : Int)) (vd_I dx) (vd_I dy) d Q 8 0 vd_U vd_U vd_U rfl
    have s0 : vd_sum (fun t => vd_tap kern ((16 * (y : Int) + 1 * dy) % 16).toNat t * vd_hr (vd_tap kern ((16 * (x : Int) + 1 * dx) % 16).toNat) (vd_ln P wd hd ((16 * (x : Int) + 1 * dx) / 16) ((16 * (y : Int) + 1 * dy) / 16) (0 + t)) 0) 0 = 0 := rfl
    rw [s0, z0] at L
    rw [es]
    rw [Int.one_mul, Int.one_mul] at L ⊢
    simp (disch := omega) only [vd_S224_0 hN, vd_S224_16 hN, vd_S224_23 hN, vd_S224_42 hN, vd_S224_50 hN, vd_I_toInt, c', if_false, vd_I_mul, vd_I_add, L]
end VDMV
