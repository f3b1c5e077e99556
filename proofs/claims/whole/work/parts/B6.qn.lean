/-! ===== quantisers ===== -/
def vd_qi (X : Nat → Nat → Int) (s : Nat) : Int := if vd_ft X s 0 = 1 then vd_wn (if X 0 8 = 0 then X 0 9 + X 5 (4 * s) else X 5 (4 * s)) 0 255 else X 0 9
def vd_qx (X : Nat → Nat → Int) (s j : Nat) : Int := if j = 0 then vd_wn (vd_qi X s + X 6 0) 0 255 else if j = 1 then vd_qi X s else if j = 2 then vd_wn (vd_qi X s + X 6 1) 0 255 else vd_wn (vd_qi X s + X 6 2) 0 255
/-- the quantiser j: the first of luma, the others, the first of chroma, the others -/
def vd_qn (X : Nat → Nat → Int) (s j : Nat) : Int := if X 0 13 = 1 then 1 else 4 + vd_qx X s j + vd_qx X s j * vd_qx X s j / (if j = 0 ∨ j = 2 then 128 else 64)
theorem vd_qi_b {X : Nat → Nat → Int} (hX : vd_XV X) (s : Nat) : 0 ≤ vd_qi X s ∧ vd_qi X s ≤ 255 := by
  unfold vd_qi
  split
  · exact vd_wn_b (by decide)
  · exact hX.2.1.1
theorem vd_qx_b {X : Nat → Nat → Int} (hX : vd_XV X) (s j : Nat) : 0 ≤ vd_qx X s j ∧ vd_qx X s j ≤ 255 := by
  unfold vd_qx
  split
  · exact vd_wn_b (by decide)
  · split
    · exact vd_qi_b hX s
    · split
      · exact vd_wn_b (by decide)
      · exact vd_wn_b (by decide)
theorem vd_sq {a : Int} (h0 : 0 ≤ a) (h1 : a ≤ 255) : 0 ≤ a * a ∧ a * a ≤ 65025 := by
  have h2 : a * a ≤ 255 * a := Int.mul_le_mul_of_nonneg_right h1 h0
  exact ⟨Int.mul_nonneg h0 h0, by omega⟩
theorem vd_qn_b {X : Nat → Nat → Int} (hX : vd_XV X) (s j : Nat) : 1 ≤ vd_qn X s j ∧ vd_qn X s j ≤ 1300 := by
  have h1 := vd_qx_b hX s j
  have h2 := vd_sq h1.1 h1.2
  unfold vd_qn
  generalize vd_qx X s j = a at *
  generalize a * a = b at *
  split
  · omega
  · split <;> omega
section VDQN
variable {M N : vd_M} {ow fa lo lf : Nat} {X : Nat → Nat → Int} {f g : Nat → Nat → Int32} {s : Nat}
theorem vd_P52 (hM : vd_SC M ow fa lo lf) (hX : vd_XV X) (h : vd_CA X f) (d : Nat) (Q : vd_M → (Option Value ⊕ Nat) → Prop) : vd_wp d 52 0 [.ref 20] [] (vd_mf M f) Q = Q (vd_mf M f) (.inl (some (.int (vd_I (X 0 13))))) := by
  have hl := hX.2.2.2.2.2.2.2.2.2.2.1
  have h13 := hX.2.1.2.2.2.2
  have b9 := hX.2.1.1
  have d0 := hX.2.2.2.2.2.2.2.2.1 0 (by decide)
  have d1 := hX.2.2.2.2.2.2.2.2.1 1 (by decide)
  have d2 := hX.2.2.2.2.2.2.2.2.1 2 (by decide)
  have f9 : f 20 4 = vd_I (X 0 9) := h.2.2.1.2.2.2.2
  have f60 : f 22 0 = vd_I (X 6 0) := h.2.2.2.2.2.2.2.2.2.1 0 (by decide)
  have f61 : f 22 1 = vd_I (X 6 1) := h.2.2.2.2.2.2.2.2.2.1 1 (by decide)
  have f62 : f 22 2 = vd_I (X 6 2) := h.2.2.2.2.2.2.2.2.2.1 2 (by decide)
  have i0 : (0 : Int).toNat = 0 := rfl
  have i1 : (1 : Int).toNat = 1 := rfl
  have i2 : (2 : Int).toNat = 2 := rfl
  by_cases c9 : X 0 9 = 0
  · by_cases c0 : X 6 0 = 0
    · by_cases c1 : X 6 1 = 0
      · by_cases c2 : X 6 2 = 0
        · have e : X 0 13 = 1 := hl.mpr ⟨c9, c0, c1, c2⟩
          rw [e]
          simp (disch := first | decide | omega) only [vd_S52_0 hM, vd_S52_7 hM, vd_S52_12 hM, vd_S52_16 hM, vd_S52_21 hM, vd_S52_25 hM, vd_S52_30 hM, vd_S52_34 hM, vd_S52_39 hM, f9, f60, f61, f62, i0, i1, i2, c9, c0, c1, c2, vd_I_toInt, eq_self, if_true]
        · have e : X 0 13 = 0 := by omega
          rw [e]
          simp (disch := first | decide | omega) only [vd_S52_0 hM, vd_S52_7 hM, vd_S52_12 hM, vd_S52_16 hM, vd_S52_21 hM, vd_S52_25 hM, vd_S52_30 hM, vd_S52_38 hM, vd_S52_39 hM, f9, f60, f61, f62, i0, i1, i2, c9, c0, c1, c2, vd_I_toInt, eq_self, if_true, if_false]
      · have e : X 0 13 = 0 := by omega
        rw [e]
        simp (disch := first | decide | omega) only [vd_S52_0 hM, vd_S52_7 hM, vd_S52_12 hM, vd_S52_16 hM, vd_S52_21 hM, vd_S52_38 hM, vd_S52_39 hM, f9, f60, f61, i0, i1, c9, c0, c1, vd_I_toInt, eq_self, if_true, if_false]
    · have e : X 0 13 = 0 := by omega
      rw [e]
      simp (disch := first | decide | omega) only [vd_S52_0 hM, vd_S52_7 hM, vd_S52_12 hM, vd_S52_38 hM, vd_S52_39 hM, f9, f60, i0, c9, c0, vd_I_toInt, eq_self, if_true, if_false]
  · have e : X 0 13 = 0 := by omega
    rw [e]
    simp (disch := first | decide | omega) only [vd_S52_0 hM, vd_S52_38 hM, vd_S52_39 hM, f9, c9, vd_I_toInt, if_false]
theorem vd_P102 (hM : vd_SC M ow fa lo lf) (hX : vd_XV X) (h : vd_CA X f) (hs : s < 8) : ∃ (f' : Nat → Nat → Int32), (∀ d Q, vd_wp (d + 1) 102 0 [.ref 45, .int (vd_I (s : Int)), vd_U, vd_U, vd_U, vd_U] [] (vd_mf M f) Q = Q (vd_mf M f') (.inl none)) ∧ (∀ j, j < 4 → f' 51 j = vd_I (vd_qn X s j)) ∧ f' 45 10 = vd_I (X 0 13) ∧ (∀ c i, ¬ (c = 45 ∧ i = 10) → c ≠ 51 → f' c i = f c i) := by
  have h13 := hX.2.1.2.2.2.2
  have h08 := hX.1.2.2.2.2.2.2.2.2
  have b9 := hX.2.1.1
  have d0 := hX.2.2.2.2.2.2.2.2.1 0 (by decide)
  have d1 := hX.2.2.2.2.2.2.2.2.1 1 (by decide)
  have d2 := hX.2.2.2.2.2.2.2.2.1 2 (by decide)
  have v5 := hX.2.2.2.2.2.2.1 (4 * s) (by omega)
  have qib := vd_qi_b hX s
  generalize hf1 : vd_up f 45 10 (vd_I (X 0 13)) = f1
  have F1 : ∀ c i, ¬ (c = 45 ∧ i = 10) → f1 c i = f c i := fun c i a => by rw [← hf1, vd_up_ne a]
  have hA1 : vd_CA X f1 := h.keep fun c i a b => F1 c i (by omega)
  have f1l : f1 45 10 = vd_I (X 0 13) := by rw [← hf1, vd_up_eq]
  have fok : vd_fok .boolean (vd_I (X 0 13)) = true := by rcases h13 with e | e <;> rw [e] <;> decide
  have P52 := vd_P52 hM hX h
  have P78 := fun (d : Nat) (Q : vd_M → (Option Value ⊕ Nat) → Prop) => vd_P78 (q := 0) (d := d) (Q := Q) hM hX hA1 hs (by decide)
  have P81 := fun (d : Nat) (Q : vd_M → (Option Value ⊕ Nat) → Prop) => vd_P81 (q := 0) (d := d) (Q := Q) hM hA1 hs (by decide)
  have z0 : ((0 : Nat) : Int) = 0 := rfl
  rw [z0] at P78 P81
  rw [Nat.add_zero] at P81
  have f9 : f1 20 4 = vd_I (X 0 9) := hA1.2.2.1.2.2.2.2
  have f8 : f1 20 11 = vd_I (X 0 8) := hA1.2.2.1.2.2.2.1
  have f9' : f 20 4 = vd_I (X 0 9) := h.2.2.1.2.2.2.2
  have f60 : f1 22 0 = vd_I (X 6 0) := hA1.2.2.2.2.2.2.2.2.2.1 0 (by decide)
  have f61 : f1 22 1 = vd_I (X 6 1) := hA1.2.2.2.2.2.2.2.2.2.1 1 (by decide)
  have f62 : f1 22 2 = vd_I (X 6 2) := hA1.2.2.2.2.2.2.2.2.2.1 2 (by decide)
  have st1 : ∃ a3 : Value, vd_long a3 = false ∧ ∀ d Q, vd_wp (d + 1) 102 0 [.ref 45, .int (vd_I (s : Int)), vd_U, vd_U, vd_U, vd_U] [] (vd_mf M f) Q = vd_wp (d + 1) 102 62 [.ref 45, .int (vd_I (s : Int)), .int (vd_I (vd_qi X s)), a3, vd_U, vd_U] [] (vd_mf M f1) Q := by
    rcases vd_ft_b X s 0 with c | c
    · refine ⟨vd_U, rfl, fun d Q => ?_⟩
      have e : vd_qi X s = X 0 9 := by unfold vd_qi; rw [if_neg (by omega)]
      rw [e]
      simp (disch := first | assumption | omega) only [vd_S102_0 hM, vd_S102_5 hM, P52, vd_S102_8 hM, f9', hf1, vd_S102_25 hM, P78, vd_S102_28 hM, c, vd_I_toInt, eq_self, if_true, vd_rs_v, vd_rs_n]
    · refine ⟨.int (vd_I (X 5 (4 * s))), rfl, fun d Q => ?_⟩
      rcases h08 with c8 | c8
      · have e : vd_wn (X 0 9 + X 5 (4 * s)) 0 255 = vd_qi X s := by unfold vd_qi; rw [if_pos c, if_pos c8]
        have P103 := fun (f : Nat → Nat → Int32) (d : Nat) (Q : vd_M → (Option Value ⊕ Nat) → Prop) => vd_P103 (a := X 0 9 + X 5 (4 * s)) (f := f) (d := d) (Q := Q) hM (by omega) (by omega)
        rw [e] at P103
        simp (disch := first | assumption | omega) only [vd_S102_0 hM, vd_S102_5 hM, P52, vd_S102_8 hM, f9', hf1, vd_S102_25 hM, P78, vd_S102_28 hM, vd_S102_31 hM, vd_S102_37 hM, P81, vd_S102_40 hM, vd_S102_55 hM, vd_S102_58 hM, vd_S102_61 hM, P103, f8, c8, c, vd_I_toInt, vd_I_add, eq_self, if_true, if_false, show ¬ ((1 : Int) = 0) by decide, vd_rs_v, vd_rs_n]
      · have e : vd_wn (X 5 (4 * s)) 0 255 = vd_qi X s := by unfold vd_qi; rw [if_pos c, if_neg (by omega)]
        have P103 := fun (f : Nat → Nat → Int32) (d : Nat) (Q : vd_M → (Option Value ⊕ Nat) → Prop) => vd_P103 (a := X 5 (4 * s)) (f := f) (d := d) (Q := Q) hM (by omega) (by omega)
        rw [e] at P103
        simp (disch := first | assumption | omega) only [vd_S102_0 hM, vd_S102_5 hM, P52, vd_S102_8 hM, f9', hf1, vd_S102_25 hM, P78, vd_S102_28 hM, vd_S102_31 hM, vd_S102_37 hM, P81, vd_S102_40 hM, vd_S102_51 hM, vd_S102_58 hM, vd_S102_61 hM, P103, f8, c8, c, vd_I_toInt, eq_self, if_true, if_false, show ¬ ((1 : Int) = 0) by decide, vd_rs_v, vd_rs_n]
  obtain ⟨a3, ha3, st1⟩ := st1
  have x0 := vd_qx_b hX s 0
  have x2 := vd_qx_b hX s 2
  have x3 := vd_qx_b hX s 3
  have e0 : vd_wn (vd_qi X s + X 6 0) 0 255 = vd_qx X s 0 := rfl
  have e1 : vd_qi X s = vd_qx X s 1 := rfl
  have e2 : vd_wn (vd_qi X s + X 6 1) 0 255 = vd_qx X s 2 := rfl
  have e3 : vd_wn (vd_qi X s + X 6 2) 0 255 = vd_qx X s 3 := rfl
  have PA := fun (f : Nat → Nat → Int32) (d : Nat) (Q : vd_M → (Option Value ⊕ Nat) → Prop) => vd_P103 (a := vd_qi X s + X 6 0) (f := f) (d := d) (Q := Q) hM (by omega) (by omega)
  have PB := fun (f : Nat → Nat → Int32) (d : Nat) (Q : vd_M → (Option Value ⊕ Nat) → Prop) => vd_P103 (a := vd_qi X s + X 6 1) (f := f) (d := d) (Q := Q) hM (by omega) (by omega)
  have PC := fun (f : Nat → Nat → Int32) (d : Nat) (Q : vd_M → (Option Value ⊕ Nat) → Prop) => vd_P103 (a := vd_qi X s + X 6 2) (f := f) (d := d) (Q := Q) hM (by omega) (by omega)
  rw [e0] at PA
  rw [e2] at PB
  rw [e3] at PC
  have q0 : vd_qn X s 0 = if X 0 13 = 1 then 1 else 4 + vd_qx X s 0 + vd_qx X s 0 * vd_qx X s 0 / 128 := rfl
  have q1 : vd_qn X s 1 = if X 0 13 = 1 then 1 else 4 + vd_qi X s + vd_qi X s * vd_qi X s / 64 := rfl
  have q2 : vd_qn X s 2 = if X 0 13 = 1 then 1 else 4 + vd_qx X s 2 + vd_qx X s 2 * vd_qx X s 2 / 128 := rfl
  have q3 : vd_qn X s 3 = if X 0 13 = 1 then 1 else 4 + vd_qx X s 3 + vd_qx X s 3 * vd_qx X s 3 / 64 := rfl
  have s0 := vd_sq x0.1 x0.2
  have s1 := vd_sq qib.1 qib.2
  have s2 := vd_sq x2.1 x2.2
  have s3 := vd_sq x3.1 x3.2
  have i0 : (0 : Int).toNat = 0 := rfl
  have i1 : (1 : Int).toNat = 1 := rfl
  have i2 : (2 : Int).toNat = 2 := rfl
  have i3 : (3 : Int).toNat = 3 := rfl
  generalize vd_qx X s 0 = xa at *
  generalize vd_qx X s 2 = xc at *
  generalize vd_qx X s 3 = xd at *
  generalize hqi : vd_qi X s = xb at *
  generalize hya : vd_qn X s 0 = ya at *
  generalize hyb : vd_qn X s 1 = yb at *
  generalize hyc : vd_qn X s 2 = yc at *
  generalize hyd : vd_qn X s 3 = yd at *
  refine ⟨vd_up (vd_up (vd_up (vd_up f1 51 0 (vd_I ya)) 51 1 (vd_I yb)) 51 2 (vd_I yc)) 51 3 (vd_I yd), fun d Q => ?_, fun j hj => ?_, ?_, fun c i a b => ?_⟩
  · rw [st1]
    have U : ∀ (f : Nat → Nat → Int32) (i : Nat) (v : Int32), vd_up f 51 i v 45 10 = f 45 10 := fun f i v => vd_up_ne (by omega)
    rcases h13 with c | c
    · have c' : ¬ (X 0 13 = 1) := by omega
      rw [if_neg c'] at q0 q1 q2 q3
      rw [q0, q1, q2, q3]
      simp (disch := first | assumption | omega) only [vd_S102_62 hM, vd_S102_71 hM, vd_S102_73 hM, vd_S102_76 hM, vd_S102_86 hM, vd_S102_88 hM, vd_S102_91 hM, vd_S102_102 hM, vd_S102_104 hM, vd_S102_107 hM, vd_S102_125 hM, vd_S102_136 hM, vd_S102_153 hM, vd_S102_163 hM, vd_S102_180 hM, vd_S102_194 hM, vd_S102_211 hM, vd_S102_224 hM, i0, i1, i2, i3, f60, f61, f62, PA, PB, PC, f1l, U, c, vd_I_toInt, vd_I_add, vd_I_mul, vd_I_div, eq_self, if_true, vd_rs_v, vd_rs_n]
    · rw [if_pos c] at q0 q1 q2 q3
      rw [q0, q1, q2, q3]
      simp (disch := first | assumption | omega) only [vd_S102_62 hM, vd_S102_71 hM, vd_S102_73 hM, vd_S102_76 hM, vd_S102_86 hM, vd_S102_88 hM, vd_S102_91 hM, vd_S102_102 hM, vd_S102_104 hM, vd_S102_107 hM, vd_S102_121 hM, vd_S102_136 hM, vd_S102_149 hM, vd_S102_163 hM, vd_S102_176 hM, vd_S102_194 hM, vd_S102_207 hM, vd_S102_224 hM, i0, i1, i2, i3, f60, f61, f62, PA, PB, PC, f1l, U, c, vd_I_toInt, vd_I_add, eq_self, if_false, show ¬ ((1 : Int) = 0) by decide, vd_rs_v, vd_rs_n]
  · have : j = 0 ∨ j = 1 ∨ j = 2 ∨ j = 3 := by omega
    rcases this with rfl | rfl | rfl | rfl
    · rw [hya, vd_up_ne (by omega), vd_up_ne (by omega), vd_up_ne (by omega), vd_up_eq]
    · rw [hyb, vd_up_ne (by omega), vd_up_ne (by omega), vd_up_eq]
    · rw [hyc, vd_up_ne (by omega), vd_up_eq]
    · rw [hyd, vd_up_eq]
  · rw [vd_up_ne (by omega), vd_up_ne (by omega), vd_up_ne (by omega), vd_up_ne (by omega)]
    exact f1l
  · rw [vd_up_ne (by omega), vd_up_ne (by omega), vd_up_ne (by omega), vd_up_ne (by omega)]
    exact F1 c i a
/-- the reference's quantum -/
theorem vd_P245 (hN : vd_SR N) (hX : vd_XV X) (h : vd_CB X g) (hg : g 63 103 = vd_I (s : Int)) (hs : s < 8) {pl : Nat} {fi : Int} (hpl : pl < 3) (hfi : fi = 0 ∨ fi = 1) (d : Nat) (Q : vd_M → (Option Value ⊕ Nat) → Prop) : vd_wp (d + 1) 245 0 [.ref 63, .int (vd_I (pl : Int)), .int (vd_I fi), vd_U] [] (vd_mf N g) Q = Q (vd_mf N g) (.inl (some (.int (vd_I (vd_qn X s (if pl = 0 then (if fi = 1 then 0 else 1) else (if fi = 1 then 2 else 3))))))) := by
  have h13 := hX.2.1.2.2.2.2
  have h08 := hX.1.2.2.2.2.2.2.2.2
  have b9 := hX.2.1.1
  have d0 := hX.2.2.2.2.2.2.2.2.1 0 (by decide)
  have d1 := hX.2.2.2.2.2.2.2.2.1 1 (by decide)
  have d2 := hX.2.2.2.2.2.2.2.2.1 2 (by decide)
  have v5 := hX.2.2.2.2.2.2.1 (4 * s) (by omega)
  have qib := vd_qi_b hX s
  have g13 : g 63 35 = vd_I (X 0 13) := h.2.2.1.2.2.2
  have g9 : g 63 43 = vd_I (X 0 9) := h.2.1.2.2.2.2
  have g8 : g 63 13 = vd_I (X 0 8) := h.2.1.2.2.2.1
  have g60 : g 85 0 = vd_I (X 6 0) := h.2.2.2.2.2.2.2.2.1 0 (by decide)
  have g61 : g 85 1 = vd_I (X 6 1) := h.2.2.2.2.2.2.2.2.1 1 (by decide)
  have g62 : g 85 2 = vd_I (X 6 2) := h.2.2.2.2.2.2.2.2.1 2 (by decide)
  have g5 : g 75 (4 * s) = vd_I (X 5 (4 * s)) := h.2.2.2.2.2.2.2.1 (4 * s) (by omega) (by omega)
  have n5 : (4 * (s : Int)).toNat = 4 * s := by omega
  rcases h13 with c13 | c13
  · have P201 := fun (d : Nat) (Q : vd_M → (Option Value ⊕ Nat) → Prop) => vd_P201 (q := 0) (d := d) (Q := Q) hN hX h hg hs (by decide)
    have z0 : ((0 : Nat) : Int) = 0 := rfl
    rw [z0] at P201
    have st1 : ∀ d Q, vd_wp (d + 1) 245 0 [.ref 63, .int (vd_I (pl : Int)), .int (vd_I fi), vd_U] [] (vd_mf N g) Q = vd_wp (d + 1) 245 67 [.ref 63, .int (vd_I (pl : Int)), .int (vd_I fi), .int (vd_I (vd_qi X s))] [] (vd_mf N g) Q := fun d Q => by
      rcases vd_ft_b X s 0 with c | c
      · have e : vd_qi X s = X 0 9 := by unfold vd_qi; rw [if_neg (by omega)]
        rw [e]
        simp (disch := first | assumption | omega) only [vd_S245_0 hN, vd_S245_9 hN, vd_S245_16 hN, vd_S245_19 hN, P201, g13, g9, c13, c, vd_I_toInt, eq_self, if_true, vd_rs_v, vd_rs_n]
      · rcases h08 with c8 | c8
        · have e : vd_wn (X 0 9 + X 5 (4 * s)) 0 255 = vd_qi X s := by unfold vd_qi; rw [if_pos c, if_pos c8]
          have P194 := fun (d : Nat) (Q : vd_M → (Option Value ⊕ Nat) → Prop) => vd_P194 (a := X 0 9 + X 5 (4 * s)) (b := 0) (c := 255) (f := g) (d := d) (Q := Q) hN (by omega) (by omega) (by omega) (by omega) (by omega) (by omega)
          rw [e] at P194
          simp (disch := first | assumption | omega) only [vd_S245_0 hN, vd_S245_9 hN, vd_S245_16 hN, vd_S245_19 hN, vd_S245_22 hN, vd_S245_43 hN, vd_S245_57 hN, vd_S245_59 hN, vd_S245_63 hN, vd_S245_66 hN, P201, P194, g13, g9, g8, hg, g5, n5, c13, c8, c, vd_I_toInt, vd_I_mul, vd_I_add, eq_self, if_true, if_false, show ¬ ((1 : Int) = 0) by decide, vd_rs_v, vd_rs_n]
        · have e : vd_wn (X 5 (4 * s)) 0 255 = vd_qi X s := by unfold vd_qi; rw [if_pos c, if_neg (by omega)]
          have P194 := fun (d : Nat) (Q : vd_M → (Option Value ⊕ Nat) → Prop) => vd_P194 (a := X 5 (4 * s)) (b := 0) (c := 255) (f := g) (d := d) (Q := Q) hN (by omega) (by omega) (by omega) (by omega) (by omega) (by omega)
          rw [e] at P194
          simp (disch := first | assumption | omega) only [vd_S245_0 hN, vd_S245_9 hN, vd_S245_16 hN, vd_S245_19 hN, vd_S245_22 hN, vd_S245_29 hN, vd_S245_39 hN, vd_S245_59 hN, vd_S245_63 hN, vd_S245_66 hN, P201, P194, g13, g9, g8, hg, g5, n5, c13, c8, c, vd_I_toInt, vd_I_mul, eq_self, if_true, if_false, show ¬ ((1 : Int) = 0) by decide, vd_rs_v, vd_rs_n]
    rw [st1]
    have c13' : ¬ (X 0 13 = 1) := by omega
    have fin : ∀ (xx dv : Int), 0 ≤ xx → xx ≤ 255 → (dv = if fi = 1 then 128 else 64) → vd_wp (d + 1) 245 118 [.ref 63, .int (vd_I (pl : Int)), .int (vd_I fi), .int (vd_I xx)] [] (vd_mf N g) Q = Q (vd_mf N g) (.inl (some (.int (vd_I (4 + xx + xx * xx / dv))))) := fun xx dv a b c => by
      have sq := vd_sq a b
      rcases hfi with cf | cf
      · rw [if_neg (by omega)] at c
        subst c
        simp (disch := first | assumption | omega) only [vd_S245_118 hN, vd_S245_134 hN, vd_S245_136 hN, cf, vd_I_toInt, eq_self, if_true, vd_I_add, vd_I_mul, vd_I_div]
      · rw [if_pos cf] at c
        subst c
        simp (disch := first | assumption | omega) only [vd_S245_118 hN, vd_S245_128 hN, vd_S245_136 hN, cf, vd_I_toInt, show ¬ ((1 : Int) = 0) by decide, if_false, vd_I_add, vd_I_mul, vd_I_div]
    have i0 : (0 : Int).toNat = 0 := rfl
    have i1 : (1 : Int).toNat = 1 := rfl
    have i2 : (2 : Int).toNat = 2 := rfl
    have wn := fun (a : Int) (h1 : -100000 ≤ a) (h2 : a ≤ 100000) (d : Nat) (Q : vd_M → (Option Value ⊕ Nat) → Prop) => vd_P194 (a := a) (b := 0) (c := 255) (f := g) (d := d) (Q := Q) hN (by omega) (by omega) (by omega) (by omega) (by omega) (by omega)
    by_cases cp : pl = 0
    · have cp' : ¬ (0 < (pl : Int)) := by omega
      rw [if_pos cp]
      rcases hfi with cf | cf
      · have ej : vd_qn X s (if fi = 1 then 0 else 1) = 4 + vd_qi X s + vd_qi X s * vd_qi X s / 64 := by
          rw [if_neg (by omega)]
          unfold vd_qn
          rw [if_neg c13', if_neg (by decide)]
          rfl
        rw [ej, ← fin _ 64 qib.1 qib.2 (by rw [if_neg (by omega)])]
        simp (disch := first | assumption | omega) only [vd_S245_67 hN, vd_S245_98 hN, cp', cf, vd_I_toInt, eq_self, if_true, if_false]
      · have ej : vd_qn X s (if fi = 1 then 0 else 1) = 4 + vd_qx X s 0 + vd_qx X s 0 * vd_qx X s 0 / 128 := by
          rw [if_pos cf]
          unfold vd_qn
          rw [if_neg c13', if_pos (by decide)]
        have xb := vd_qx_b hX s 0
        have e0 : vd_wn (vd_qi X s + X 6 0) 0 255 = vd_qx X s 0 := rfl
        have P194 := wn (vd_qi X s + X 6 0) (by omega) (by omega)
        rw [e0] at P194
        rw [ej, ← fin _ 128 xb.1 xb.2 (by rw [if_pos cf])]
        simp (disch := first | assumption | omega) only [vd_S245_67 hN, vd_S245_98 hN, vd_S245_102 hN, vd_S245_108 hN, vd_S245_114 hN, vd_S245_117 hN, i0, g60, P194, cp', cf, vd_I_toInt, vd_I_add, show ¬ ((1 : Int) = 0) by decide, if_false, vd_rs_v, vd_rs_n]
    · have cp' : 0 < (pl : Int) := by omega
      rw [if_neg cp]
      rcases hfi with cf | cf
      · have ej : vd_qn X s (if fi = 1 then 2 else 3) = 4 + vd_qx X s 3 + vd_qx X s 3 * vd_qx X s 3 / 64 := by
          rw [if_neg (by omega)]
          unfold vd_qn
          rw [if_neg c13', if_neg (by decide)]
        have xb := vd_qx_b hX s 3
        have e0 : vd_wn (vd_qi X s + X 6 2) 0 255 = vd_qx X s 3 := rfl
        have P194 := wn (vd_qi X s + X 6 2) (by omega) (by omega)
        rw [e0] at P194
        rw [ej, ← fin _ 64 xb.1 xb.2 (by rw [if_neg (by omega)])]
        simp (disch := first | assumption | omega) only [vd_S245_67 hN, vd_S245_71 hN, vd_S245_84 hN, vd_S245_85 hN, vd_S245_91 hN, vd_S245_94 hN, i2, g62, P194, cp', cf, vd_I_toInt, vd_I_add, eq_self, if_true, vd_rs_v, vd_rs_n]
      · have ej : vd_qn X s (if fi = 1 then 2 else 3) = 4 + vd_qx X s 2 + vd_qx X s 2 * vd_qx X s 2 / 128 := by
          rw [if_pos cf]
          unfold vd_qn
          rw [if_neg c13', if_pos (by decide)]
        have xb := vd_qx_b hX s 2
        have e0 : vd_wn (vd_qi X s + X 6 1) 0 255 = vd_qx X s 2 := rfl
        have P194 := wn (vd_qi X s + X 6 1) (by omega) (by omega)
        rw [e0] at P194
        rw [ej, ← fin _ 128 xb.1 xb.2 (by rw [if_pos cf])]
        simp (disch := first | assumption | omega) only [vd_S245_67 hN, vd_S245_71 hN, vd_S245_80 hN, vd_S245_85 hN, vd_S245_91 hN, vd_S245_94 hN, i1, g61, P194, cp', cf, vd_I_toInt, vd_I_add, show ¬ ((1 : Int) = 0) by decide, if_true, if_false, vd_rs_v, vd_rs_n]
  · have ej : ∀ j, vd_qn X s j = 1 := fun j => by unfold vd_qn; rw [if_pos c13]
    rw [ej]
    simp (disch := first | assumption | omega) only [vd_S245_0 hN, vd_S245_7 hN, g13, c13, vd_I_toInt, show ¬ ((1 : Int) = 0) by decide, if_false]
end VDQN
