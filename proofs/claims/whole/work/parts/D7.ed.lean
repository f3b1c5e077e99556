/-! ===== what stands round a square, gathered by the reference ===== -/
def vd_bz (v : Int) : Int := if v = 0 then 0 else 1
theorem vd_bz_v (v : Int) : vd_bz v = 0 ∨ vd_bz v = 1 := by
  unfold vd_bz
  split
  · exact Or.inl rfl
  · exact Or.inr rfl
theorem vd_mk_4x (K : Nat → Nat → Nat → Int) (pl x j : Nat) (Y : Int) (hx4 : x % 4 = 0) : vd_mk K pl ((x + j : Nat) : Int) Y = vd_mk K pl ((x + 4 * (j / 4) : Nat) : Int) Y := by
  unfold vd_mk
  have e : ((x + j : Nat) : Int).toNat / 4 = ((x + 4 * (j / 4) : Nat) : Int).toNat / 4 := by omega
  rw [e]
  by_cases c : 0 ≤ ((x + j : Nat) : Int) ∧ 0 ≤ Y ∧ ((x + j : Nat) : Int) < 192 ∧ Y < 192
  · rw [if_pos c, if_pos (by omega)]
  · rw [if_neg c, if_neg (by omega)]
theorem vd_mk_4y (K : Nat → Nat → Nat → Int) (pl y j : Nat) (X : Int) (hy4 : y % 4 = 0) : vd_mk K pl X ((y + j : Nat) : Int) = vd_mk K pl X ((y + 4 * (j / 4) : Nat) : Int) := by
  unfold vd_mk
  have e : ((y + j : Nat) : Int).toNat / 4 = ((y + 4 * (j / 4) : Nat) : Int).toNat / 4 := by omega
  rw [e]
  by_cases c : 0 ≤ X ∧ 0 ≤ ((y + j : Nat) : Int) ∧ X < 192 ∧ ((y + j : Nat) : Int) < 192
  · rw [if_pos c, if_pos (by omega)]
  · rw [if_neg c, if_neg (by omega)]
def vd_on (k j : Nat) : Int := if j < k then 1 else 0
theorem vd_on_1 {k j : Nat} (h : j < k) : vd_on k j = 1 := if_pos h
theorem vd_on_0 {k j : Nat} (h : ¬ j < k) : vd_on k j = 0 := if_neg h
theorem vd_ka_s {K : Nat → Nat → Nat → Int} {pl x y n j : Nat} (hn : vd_nn4 n) (hx4 : x % 4 = 0) (hj : j < 2 * n) (h : j - 1 < vd_ka K pl x y n) : vd_bz (vd_mk K pl ((x + j : Nat) : Int) ((y : Int) - 1)) = vd_on (vd_ka K pl x y n) j := by
  rw [vd_mk_4x K pl x j _ hx4]
  have n32 : 4 ≤ n ∧ n ≤ 32 ∧ n % 4 = 0 := by unfold vd_nn4 at hn; omega
  have eF : vd_Fa K pl x y (j / 4) = vd_mk K pl ((x + 4 * (j / 4) : Nat) : Int) ((y : Int) - 1) := rfl
  rw [← eF]
  by_cases c : j < vd_ka K pl x y n
  · have l := vd_lead_in (vd_Fa K pl x y) (n / 2) 0 (j / 4) (by omega) (by unfold vd_ka at c; omega)
    rw [vd_on_1 c]
    unfold vd_bz
    rw [if_neg l]
  · have ek : vd_ka K pl x y n = 4 * vd_lead (vd_Fa K pl x y) (n / 2) 0 := rfl
    have l := vd_lead_end (vd_Fa K pl x y) (n / 2) 0 (by omega)
    rw [vd_on_0 c, show j / 4 = vd_lead (vd_Fa K pl x y) (n / 2) 0 by omega, l]
    rfl
theorem vd_kb_s {K : Nat → Nat → Nat → Int} {pl x y n j : Nat} (hn : vd_nn4 n) (hy4 : y % 4 = 0) (hj : j < n) (h : j - 1 < vd_kb K pl x y n) : vd_bz (vd_mk K pl ((x : Int) - 1) ((y + j : Nat) : Int)) = vd_on (vd_kb K pl x y n) j := by
  rw [vd_mk_4y K pl y j _ hy4]
  have n32 : 4 ≤ n ∧ n ≤ 32 ∧ n % 4 = 0 := by unfold vd_nn4 at hn; omega
  have eF : vd_Fl K pl x y (j / 4) = vd_mk K pl ((x : Int) - 1) ((y + 4 * (j / 4) : Nat) : Int) := rfl
  rw [← eF]
  by_cases c : j < vd_kb K pl x y n
  · have l := vd_lead_in (vd_Fl K pl x y) (n / 4) 0 (j / 4) (by omega) (by unfold vd_kb at c; omega)
    rw [vd_on_1 c]
    unfold vd_bz
    rw [if_neg l]
  · have ek : vd_kb K pl x y n = 4 * vd_lead (vd_Fl K pl x y) (n / 4) 0 := rfl
    have l := vd_lead_end (vd_Fl K pl x y) (n / 4) 0 (by omega)
    rw [vd_on_0 c, show j / 4 = vd_lead (vd_Fl K pl x y) (n / 4) 0 by omega, l]
    rfl
theorem vd_ka_0 {K : Nat → Nat → Nat → Int} {pl x y n : Nat} (hn : vd_nn4 n) : vd_bz (vd_mk K pl (x : Int) ((y : Int) - 1)) = vd_on (vd_ka K pl x y n) 0 := by
  have n32 : 4 ≤ n ∧ n ≤ 32 ∧ n % 4 = 0 := by unfold vd_nn4 at hn; omega
  have eF : vd_Fa K pl x y 0 = vd_mk K pl (x : Int) ((y : Int) - 1) := rfl
  rw [← eF]
  by_cases c : vd_Fa K pl x y 0 = 0
  · have e : vd_ka K pl x y n = 0 := by
      unfold vd_ka
      obtain ⟨m, hm⟩ : ∃ m, n / 2 = m + 1 := ⟨n / 2 - 1, by omega⟩
      rw [hm]
      simp only [vd_lead]
      rw [if_pos c]
    rw [e, c]
    rfl
  · have e : 0 < vd_ka K pl x y n := by
      unfold vd_ka
      obtain ⟨m, hm⟩ : ∃ m, n / 2 = m + 1 := ⟨n / 2 - 1, by omega⟩
      rw [hm]
      simp only [vd_lead]
      rw [if_neg c]
      have := (vd_lead_b (vd_Fa K pl x y) m (0 + 1)).1
      omega
    rw [vd_on_1 e]
    unfold vd_bz
    rw [if_neg c]
theorem vd_kb_0 {K : Nat → Nat → Nat → Int} {pl x y n : Nat} (hn : vd_nn4 n) : vd_bz (vd_mk K pl ((x : Int) - 1) (y : Int)) = vd_on (vd_kb K pl x y n) 0 := by
  have n32 : 4 ≤ n ∧ n ≤ 32 ∧ n % 4 = 0 := by unfold vd_nn4 at hn; omega
  have eF : vd_Fl K pl x y 0 = vd_mk K pl ((x : Int) - 1) (y : Int) := rfl
  rw [← eF]
  by_cases c : vd_Fl K pl x y 0 = 0
  · have e : vd_kb K pl x y n = 0 := by
      unfold vd_kb
      obtain ⟨m, hm⟩ : ∃ m, n / 4 = m + 1 := ⟨n / 4 - 1, by omega⟩
      rw [hm]
      simp only [vd_lead]
      rw [if_pos c]
    rw [e, c]
    rfl
  · have e : 0 < vd_kb K pl x y n := by
      unfold vd_kb
      obtain ⟨m, hm⟩ : ∃ m, n / 4 = m + 1 := ⟨n / 4 - 1, by omega⟩
      rw [hm]
      simp only [vd_lead]
      rw [if_neg c]
      have := (vd_lead_b (vd_Fl K pl x y) m (0 + 1)).1
      omega
    rw [vd_on_1 e]
    unfold vd_bz
    rw [if_neg c]
section VDED
variable {N : vd_M} {W H q pl n : Nat} {pw ph : Int} {O : Nat → Nat → Option Nat} {P K : Nat → Nat → Nat → Int}
theorem vd_P249 (hN : vd_SR N) (hk : vd_k N q = 13) {g : Nat → Nat → Int32} {w : Int} (hw : g q 1 = vd_I w) (w0 : 1 ≤ w) (w1 : w ≤ 192) (hpl : pl < 3) (d : Nat) (Q : vd_M → (Option Value ⊕ Nat) → Prop) : vd_wp d 249 0 [.ref q, .int (vd_I (pl : Int))] [] (vd_mf N g) Q = Q (vd_mf N g) (.inl (some (.int (vd_I ((vd_ws pl w : Nat) : Int))))) := by
  by_cases c : pl = 0
  · have e : (w + 63) / 64 * 64 = ((vd_ws pl w : Nat) : Int) := by unfold vd_ws; rw [if_pos c]; omega
    have c' : ((pl : Nat) : Int) = 0 := by omega
    simp (disch := first | assumption | omega) only [vd_S249_0 hN, vd_S249_4 hN, vd_S249_33 hN, vd_I_toInt, c', if_true, hw, vd_I_add, vd_I_div, vd_I_mul, e]
  · have e : (w + 63) / 64 * 32 = ((vd_ws pl w : Nat) : Int) := by unfold vd_ws; rw [if_neg c]; omega
    have c' : ¬ ((pl : Nat) : Int) = 0 := by omega
    simp (disch := first | assumption | omega) only [vd_S249_0 hN, vd_S249_20 hN, vd_S249_33 hN, vd_I_toInt, c', if_false, hw, vd_I_add, vd_I_div, vd_I_mul, e]
theorem vd_P248 (hN : vd_SR N) (hq : vd_PD N q) (hn : vd_r N 63 23 = some q) {g : Nat → Nat → Int32} (kw : vd_KWr pw ph K g) (kv : vd_PKV W H pw ph O P K) (hw : g q 0 = vd_I pw) (hh : g q 1 = vd_I ph) (p0 : 1 ≤ pw ∧ pw ≤ 192) (q0 : 1 ≤ ph ∧ ph ≤ 192) (hpl : pl < 3) {X Y : Int} (x0 : -1000 ≤ X) (x1 : X ≤ 1000) (y0 : -1000 ≤ Y) (y1 : Y ≤ 1000) (d : Nat) (Q : vd_M → (Option Value ⊕ Nat) → Prop) : vd_wp (d + 1) 248 0 [.ref 63, .int (vd_I (pl : Int)), .int (vd_I X), .int (vd_I Y)] [] (vd_mf N g) Q = Q (vd_mf N g) (.inl (some (.int (vd_I (vd_bz (vd_mk K pl X Y)))))) := by
  have hk := hq.1.1
  have wsb := (vd_ws_b (pl := pl) p0.1 p0.2).1
  have hsb := (vd_ws_b (pl := pl) q0.1 q0.2).1
  have sd : vd_sd pl ≤ 192 := by unfold vd_sd; split <;> omega
  obtain ⟨hr3, hk3, hl3⟩ := vd_WR hN hpl
  have b0 : vd_rok (some .boolean) (vd_I 0) = true := by decide
  have b1 : vd_rok (some .boolean) (vd_I 1) = true := by decide
  have P230 := fun (d : Nat) (Q : vd_M → (Option Value ⊕ Nat) → Prop) => vd_P230 (g := g) (d := d) (Q := Q) hN hk hw p0.1 p0.2 hpl
  have P249 := vd_P249 hN hk hh q0.1 q0.2 hpl
  have z := fun (h : ¬ (0 ≤ X ∧ 0 ≤ Y ∧ X < (vd_ws pl pw : Int) ∧ Y < (vd_ws pl ph : Int))) => (Classical.byContradiction fun hc => h (by have := vd_mk_in kv p0 q0 hc; omega) : vd_mk K pl X Y = 0)
  have e0 : vd_bz 0 = 0 := rfl
  by_cases c1 : X < 0
  · simp (disch := first | assumption | omega) only [vd_S248_0 hN, vd_S248_58 hN, vd_S248_59 hN, vd_I_toInt, c1, if_true, z (by omega), e0]
  by_cases c2 : Y < 0
  · simp (disch := first | assumption | omega) only [vd_S248_0 hN, vd_S248_4 hN, vd_S248_58 hN, vd_S248_59 hN, vd_I_toInt, c1, c2, if_true, if_false, z (by omega), e0]
  by_cases c3 : ¬ (X < (vd_ws pl pw : Int))
  · simp (disch := first | assumption | omega) only [vd_S248_0 hN, vd_S248_4 hN, vd_S248_8 hN, hn, vd_vr_some, vd_S248_14 hN, P230, vd_S248_17 hN, vd_S248_58 hN, vd_S248_59 hN, vd_I_toInt, c1, c2, c3, if_true, if_false, z (by omega), e0, vd_rs_v, vd_rs_n]
  have c3 : X < (vd_ws pl pw : Int) := by omega
  by_cases c4 : ¬ (Y < (vd_ws pl ph : Int))
  · simp (disch := first | assumption | omega) only [vd_S248_0 hN, vd_S248_4 hN, vd_S248_8 hN, hn, vd_vr_some, vd_S248_14 hN, P230, vd_S248_17 hN, vd_S248_20 hN, vd_S248_26 hN, P249, vd_S248_29 hN, vd_S248_58 hN, vd_S248_59 hN, vd_I_toInt, c1, c2, c3, c4, if_true, if_false, z (by omega), e0, vd_rs_v, vd_rs_n]
  have c4 : Y < (vd_ws pl ph : Int) := by omega
  obtain ⟨x, rfl⟩ : ∃ x : Nat, X = (x : Int) := ⟨X.toNat, by omega⟩
  obtain ⟨y, rfl⟩ : ∃ y : Nat, Y = (y : Int) := ⟨Y.toNat, by omega⟩
  have hi := vd_rx (y := y) p0.1 p0.2 (show x < vd_ws pl pw by omega) (show y < vd_sd pl by omega)
  have rm : vd_rm pl ≤ 36864 := by unfold vd_rm; split <;> omega
  have kk := kw pl x y hpl (by omega) (by omega)
  have em : vd_mk K pl (x : Int) (y : Int) = K pl (x / 4) (y / 4) := by unfold vd_mk; rw [if_pos (by omega)]; rfl
  have ei : (y : Int) * ((vd_ws pl pw : Nat) : Int) + (x : Int) = ((y * vd_ws pl pw + x : Nat) : Int) := by rw [Int.natCast_add, Int.natCast_mul]
  have n1 : ((y * vd_ws pl pw + x : Nat) : Int).toNat = y * vd_ws pl pw + x := Int.toNat_natCast _
  have n2 : ((pl : Nat) : Int).toNat = pl := Int.toNat_natCast _
  generalize hI : y * vd_ws pl pw + x = I at *
  have kq : vd_k N (106 + pl) = 33 ∨ vd_k N (106 + pl) = 34 := Or.inr hk3
  have cs : vd_cs [Value.int (vd_I (y : Int)), .ref (106 + pl)] ≤ 8 := (by decide : 2 ≤ 8)
  have zl : ((I : Nat) : Int) < ((vd_l N (106 + pl) : Nat) : Int) := by rw [hl3]; omega
  rw [em]
  by_cases cz : K pl (x / 4) (y / 4) = 0
  · rw [if_pos cz] at kk
    simp (disch := first | assumption | omega) only [vd_S248_0 hN, vd_S248_4 hN, vd_S248_8 hN, hn, vd_vr_some, vd_S248_14 hN, P230, vd_S248_17 hN, vd_S248_20 hN, vd_S248_26 hN, P249, vd_S248_29 hN, vd_S248_32 hN, vd_S248_37 hN, n2, hr3, vd_S248_44 hN, vd_S248_47 hN, vd_I_mul, vd_I_add, ei, vd_S248_50 hN, n1, kk, vd_S248_54 hN, vd_S248_58 hN, vd_S248_59 hN, vd_I_toInt, c1, c2, c3, c4, if_true, if_false, cz, e0, vd_rs_v, vd_rs_n]
  · rw [if_neg cz] at kk
    have e1 : vd_bz (K pl (x / 4) (y / 4)) = 1 := if_neg cz
    simp (disch := first | assumption | omega) only [vd_S248_0 hN, vd_S248_4 hN, vd_S248_8 hN, hn, vd_vr_some, vd_S248_14 hN, P230, vd_S248_17 hN, vd_S248_20 hN, vd_S248_26 hN, P249, vd_S248_29 hN, vd_S248_32 hN, vd_S248_37 hN, n2, hr3, vd_S248_44 hN, vd_S248_47 hN, vd_I_mul, vd_I_add, ei, vd_S248_50 hN, n1, kk, vd_S248_54 hN, vd_S248_58 hN, vd_S248_59 hN, vd_I_toInt, c1, c2, c3, c4, if_true, if_false, show ¬ ((1 : Int) = 0) by decide, e1, vd_rs_v, vd_rs_n]
end VDED
