/-! ===== the filter: a line, by the reference ===== -/
def vd_lx (vt x i : Int) : Int := if vt = 1 then x else x + i
def vd_ly (vt y i : Int) : Int := if vt = 1 then y + i else y
def vd_lix (pl : Nat) (pw vt x y i : Int) : Nat := (vd_ly vt y i).toNat * vd_ws pl pw + (vd_lx vt x i).toNat
def vd_LR (q pl : Nat) (pw vt x y m : Int) (v : Int → Int) (g : Nat → Nat → Int32) : Prop := ((vt = 0 ∨ vt = 1) ∧ (-1000 ≤ x ∧ x ≤ 1000) ∧ (-1000 ≤ y ∧ y ≤ 1000) ∧ m ≤ 8) ∧ (g 63 130 = vd_I (pl : Int) ∧ g 63 131 = vd_I x ∧ g 63 132 = vd_I y ∧ g 63 133 = vd_I vt) ∧ g q 0 = vd_I pw ∧ ∀ i : Int, -m ≤ i → i < m → (0 ≤ vd_lx vt x i ∧ vd_lx vt x i < (vd_ws pl pw : Int)) ∧ (0 ≤ vd_ly vt y i ∧ vd_ly vt y i < (vd_sd pl : Int)) ∧ g (q + 2 + pl) (vd_lix pl pw vt x y i) &&& vd_I 255 = vd_I (v i)
def vd_L8 (m : Int) (v : Int → Int) (g : Nat → Nat → Int32) : Prop := ∀ i : Int, -m ≤ i → i < m → g 128 (8 + i).toNat = vd_I (v i)
section VDLR
variable {N : vd_M} {q pl : Nat} {pw vt x y m : Int} {v : Int → Int} {g : Nat → Nat → Int32}
theorem vd_P268 (hN : vd_SR N) (hq : vd_PD N q) (hnow : vd_r N 63 23 = some q) (hpl : pl < 3) (p0 : 1 ≤ pw ∧ pw ≤ 192) (lr : vd_LR q pl pw vt x y m v g) {i : Int} (i0 : -m ≤ i) (i1 : i < m) (d : Nat) (Q : vd_M → (Option Value ⊕ Nat) → Prop) : vd_wp (d + 2) 268 0 [.ref 63, .int (vd_I i)] [] (vd_mf N g) Q = Q (vd_mf N g) (.inl (some (.int (vd_I (v i))))) := by
  have hk := hq.1.1
  obtain ⟨⟨vtv, xb, yb, m8⟩, ⟨g130, g131, g132, g133⟩, gq, l⟩ := id lr
  obtain ⟨⟨a0, a1⟩, ⟨b0, b1⟩, lv⟩ := l i i0 i1
  have ax : vd_lx vt x i = (((vd_lx vt x i).toNat : Nat) : Int) := by omega
  have ay : vd_ly vt y i = (((vd_ly vt y i).toNat : Nat) : Int) := by omega
  have P229 := fun (d : Nat) (Q : vd_M → (Option Value ⊕ Nat) → Prop) => vd_P229 (d := d) (Q := Q) hN hq gq p0.1 p0.2 hpl (x := (vd_lx vt x i).toNat) (y := (vd_ly vt y i).toNat) (by omega) (by omega) lv
  rw [← ax, ← ay] at P229
  rcases vtv with rfl | rfl
  · have ex : vd_lx 0 x i = x + i := if_neg (by decide)
    have ey : vd_ly 0 y i = y := if_neg (by decide)
    rw [ex, ey] at P229
    simp (disch := first | assumption | omega) only [vd_S268_0 hN, g133, vd_I_toInt, eq_self, if_true, g130, hnow, vd_vr_some, vd_S268_22 hN, g131, vd_I_add, vd_S268_28 hN, vd_S268_44 hN, g132, vd_S268_48 hN, P229, vd_S268_51 hN, vd_rs_v, vd_rs_n]
  · have ex : vd_lx 1 x i = x := if_pos rfl
    have ey : vd_ly 1 y i = y + i := if_pos rfl
    rw [ex, ey] at P229
    simp (disch := first | assumption | omega) only [vd_S268_0 hN, g133, vd_I_toInt, show ¬ ((1 : Int) = 0) by decide, if_false, g130, hnow, vd_vr_some, vd_S268_15 hN, g131, vd_S268_28 hN, vd_S268_35 hN, g132, vd_I_add, vd_S268_48 hN, P229, vd_S268_51 hN, vd_rs_v, vd_rs_n]
theorem vd_P273 (hN : vd_SR N) (hq : vd_PD N q) (hnow : vd_r N 63 23 = some q) (hpl : pl < 3) (p0 : 1 ≤ pw ∧ pw ≤ 192) (lr : vd_LR q pl pw vt x y m v g) {i w : Int} (i0 : -m ≤ i) (i1 : i < m) (hw : 0 ≤ w ∧ w ≤ 255) : ∃ g' : Nat → Nat → Int32, (∀ d Q, vd_wp (d + 2) 273 0 [.ref 63, .int (vd_I i), .int (vd_I w)] [] (vd_mf N g) Q = Q (vd_mf N g') (.inl none)) ∧ vd_LR q pl pw vt x y m (vd_ui v i w) g' ∧ (∀ c k, c ≠ q + 2 + pl → g' c k = g c k) ∧ (∀ k, k ≠ vd_lix pl pw vt x y i → g' (q + 2 + pl) k = g (q + 2 + pl) k) := by
  have hk := hq.1.1
  have hqb := hq.2.2.2
  obtain ⟨⟨vtv, xb, yb, m8⟩, ⟨g130, g131, g132, g133⟩, gq, l⟩ := id lr
  obtain ⟨⟨a0, a1⟩, ⟨b0, b1⟩, lv⟩ := l i i0 i1
  have ax : vd_lx vt x i = (((vd_lx vt x i).toNat : Nat) : Int) := by omega
  have ay : vd_ly vt y i = (((vd_ly vt y i).toNat : Nat) : Int) := by omega
  have P234 := fun (d : Nat) (Q : vd_M → (Option Value ⊕ Nat) → Prop) => vd_P234 (d := d) (Q := Q) (v := w) hN hq gq p0.1 p0.2 hpl (x := (vd_lx vt x i).toNat) (y := (vd_ly vt y i).toNat) (by omega) (by omega)
  rw [← ax, ← ay] at P234
  refine ⟨vd_up g (q + 2 + pl) (vd_lix pl pw vt x y i) (vd_I w).toInt8.toInt32.toInt8.toInt32, fun d Q => ?_, ⟨⟨vtv, xb, yb, m8⟩, ⟨by rw [vd_up_ne (by omega)]; exact g130, by rw [vd_up_ne (by omega)]; exact g131, by rw [vd_up_ne (by omega)]; exact g132, by rw [vd_up_ne (by omega)]; exact g133⟩, by rw [vd_up_ne (by omega)]; exact gq, fun j j0 j1 => ?_⟩, fun c k h => vd_up_ne (fun e => h e.1), fun k h => vd_up_ne (fun e => h e.2)⟩
  · rcases vtv with rfl | rfl
    · have ex : vd_lx 0 x i = x + i := if_neg (by decide)
      have ey : vd_ly 0 y i = y := if_neg (by decide)
      unfold vd_lix
      rw [ex, ey] at P234 ⊢
      simp (disch := first | assumption | omega) only [vd_S273_0 hN, g133, vd_I_toInt, eq_self, if_true, g130, hnow, vd_vr_some, vd_S273_22 hN, g131, vd_I_add, vd_S273_28 hN, vd_S273_44 hN, g132, vd_S273_48 hN, vd_S273_49 hN, P234, vd_S273_52 hN, vd_rs_v, vd_rs_n]
    · have ex : vd_lx 1 x i = x := if_pos rfl
      have ey : vd_ly 1 y i = y + i := if_pos rfl
      unfold vd_lix
      rw [ex, ey] at P234 ⊢
      simp (disch := first | assumption | omega) only [vd_S273_0 hN, g133, vd_I_toInt, show ¬ ((1 : Int) = 0) by decide, if_false, g130, hnow, vd_vr_some, vd_S273_15 hN, g131, vd_S273_28 hN, vd_S273_35 hN, g132, vd_I_add, vd_S273_48 hN, vd_S273_49 hN, P234, vd_S273_52 hN, vd_rs_v, vd_rs_n]
  · obtain ⟨⟨c0, c1⟩, ⟨d0, d1⟩, jv⟩ := l j j0 j1
    refine ⟨⟨c0, c1⟩, ⟨d0, d1⟩, ?_⟩
    by_cases e : j = i
    · rw [e, vd_up_eq, vd_ui_eq]
      exact vd_b8 hw.1 hw.2
    · have ne : vd_lix pl pw vt x y j ≠ vd_lix pl pw vt x y i := fun h => by
        have := vd_rowi (ws := vd_ws pl pw) (by omega) (by omega) h
        unfold vd_lx vd_ly at *
        rcases vtv with rfl | rfl
        · rw [if_neg (by decide)] at *
          simp only [if_neg (show ¬ ((0 : Int) = 1) by decide)] at *
          omega
        · simp only [if_true] at *
          omega
      rw [vd_up_ne (fun h => ne h.2), vd_ui_ne e]
      exact jv
theorem vd_P269 (hN : vd_SR N) (h8 : vd_L8 m v g) {k : Int} (k0 : 0 ≤ k) (k1 : k < m) (m8 : m ≤ 8) (d : Nat) (Q : vd_M → (Option Value ⊕ Nat) → Prop) : vd_wp d 269 0 [.ref 63, .int (vd_I k)] [] (vd_mf N g) Q = Q (vd_mf N g) (.inl (some (.int (vd_I (v (-1 - k)))))) := by
  have e := h8 (-1 - k) (by omega) (by omega)
  rw [show 8 + (-1 - k) = 7 - k by omega] at e
  simp (disch := omega) only [vd_S269_0 hN, vd_I_sub, vd_S269_8 hN, e]
theorem vd_P270 (hN : vd_SR N) (h8 : vd_L8 m v g) {k : Int} (k0 : 0 ≤ k) (k1 : k < m) (m8 : m ≤ 8) (d : Nat) (Q : vd_M → (Option Value ⊕ Nat) → Prop) : vd_wp d 270 0 [.ref 63, .int (vd_I k)] [] (vd_mf N g) Q = Q (vd_mf N g) (.inl (some (.int (vd_I (v k))))) := by
  have e := h8 k (by omega) (by omega)
  simp (disch := omega) only [vd_S270_0 hN, vd_I_add, vd_S270_8 hN, e]
theorem vd_L271 (hN : vd_SR N) (hv : vd_vb v) (h8 : vd_L8 m v g) (m8 : m ≤ 8) {a e : Int} (a0 : 1 ≤ a) (e0 : e < m) (d : Nat) (Q : vd_M → (Option Value ⊕ Nat) → Prop) : ∀ (n : Nat) (k : Int), k + n = e + 1 → a ≤ k → vd_wp (d + 1) 271 2 [.ref 63, .int (vd_I a), .int (vd_I e), .int (vd_I k)] [] (vd_mf N g) Q = Q (vd_mf N g) (.inl (some (.int (vd_I (vd_eq3 v n k))))) := by
  intro n
  induction n with
  | zero =>
    intro k hk ak
    have c : e < k := by omega
    rw [vd_S271_2 hN]
    simp (disch := omega) only [vd_I_toInt, c, if_true, vd_S271_51 hN]
    rfl
  | succ n ih =>
    intro k hk ak
    have c : ¬ (e < k) := by omega
    have A := fun (z : Int) (h : -100000 ≤ z ∧ z ≤ 100000) => vd_abP (M := N) (f := g) h
    have P := fun (k : Int) (k0 : 0 ≤ k) (k1 : k < m) => vd_P269 hN h8 k0 k1 m8
    have Q' := fun (k : Int) (k0 : 0 ≤ k) (k1 : k < m) => vd_P270 hN h8 k0 k1 m8
    have h1 := hv (-1 - k)
    have h2 := hv (-1)
    have h3 := hv k
    have h4 := hv 0
    have q1 := vd_av_b (z := v (-1 - k) - v (-1)) (c := 255) (by omega) (by omega)
    have q2 := vd_av_b (z := v k - v 0) (c := 255) (by omega) (by omega)
    rw [vd_S271_2 hN]
    have f1 : vd_wp (d + 1) 271 7 [.ref 63, .int (vd_I a), .int (vd_I e), .int (vd_I k)] [] (vd_mf N g) Q = vd_wp (d + 1) 271 21 [.ref 63, .int (vd_I a), .int (vd_I e), .int (vd_I k)] [.int (vd_I (vd_av (v (-1 - k) - v (-1))))] (vd_mf N g) Q := by
      simp (disch := omega) only [vd_S271_7 hN, vd_S271_9 hN, P, vd_S271_12 hN, vd_S271_14 hN, show (-1 - 0 : Int) = -1 from rfl, vd_S271_17 hN, vd_I_sub, vd_S271_18 hN, A, vd_rs_v, vd_rs_n]
    have f2 : vd_wp (d + 1) 271 25 [.ref 63, .int (vd_I a), .int (vd_I e), .int (vd_I k)] [] (vd_mf N g) Q = vd_wp (d + 1) 271 39 [.ref 63, .int (vd_I a), .int (vd_I e), .int (vd_I k)] [.int (vd_I (vd_av (v k - v 0)))] (vd_mf N g) Q := by
      simp (disch := omega) only [vd_S271_25 hN, vd_S271_27 hN, Q', vd_S271_30 hN, vd_S271_32 hN, vd_S271_35 hN, vd_I_sub, vd_S271_36 hN, A, vd_rs_v, vd_rs_n]
    by_cases c1 : 1 < vd_av (v (-1 - k) - v (-1))
    · have eo : vd_eq3 v (n + 1) k = 0 := by simp only [vd_eq3]; exact if_pos (Or.inl c1)
      rw [eo]
      simp (disch := omega) only [vd_I_toInt, c, if_false, f1, vd_S271_21 hN, c1, if_true, vd_S271_43 hN]
    · by_cases c2 : 1 < vd_av (v k - v 0)
      · have eo : vd_eq3 v (n + 1) k = 0 := by simp only [vd_eq3]; exact if_pos (Or.inr c2)
        rw [eo]
        simp (disch := omega) only [vd_I_toInt, c, if_false, f1, vd_S271_21 hN, c1, f2, vd_S271_39 hN, c2, if_true, vd_S271_43 hN]
      · have eo : vd_eq3 v (n + 1) k = vd_eq3 v n (k + 1) := by simp only [vd_eq3]; exact if_neg (by omega)
        rw [eo, ← ih (k + 1) (by omega) (by omega)]
        simp (disch := omega) only [vd_I_toInt, c, if_false, f1, vd_S271_21 hN, c1, f2, vd_S271_39 hN, c2, vd_S271_45 hN, vd_I_add]
end VDLR
