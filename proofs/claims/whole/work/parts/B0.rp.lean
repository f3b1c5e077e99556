/-! ===== pictures of the reference ===== -/
def vd_rm (pl : Nat) : Nat := if pl = 0 then 36864 else 9216
def vd_PD (N : vd_M) (q : Nat) : Prop := (vd_k N q = 13 ∧ vd_r N q 2 = some (q + 1)) ∧ (vd_k N (q + 1) = 39 ∧ vd_l N (q + 1) = 3) ∧ (∀ pl, pl < 3 → vd_r N (q + 1) pl = some (q + 2 + pl) ∧ vd_k N (q + 2 + pl) = 33 ∧ vd_l N (q + 2 + pl) = vd_rm pl) ∧ (129 ≤ q ∧ q ≤ 179 ∧ q % 5 = 4)
/-- the width of a plane in samples, made up to squares of 64 -/
def vd_ws (pl : Nat) (w : Int) : Nat := if pl = 0 then ((w + 63) / 64 * 64).toNat else ((w + 63) / 64 * 32).toNat
theorem vd_ws_b {pl : Nat} {w : Int} (w0 : 1 ≤ w) (w1 : w ≤ 192) : vd_ws pl w ≤ vd_sd pl ∧ vd_pd pl w ≤ (vd_ws pl w : Int) := by
  unfold vd_ws vd_sd vd_pd
  split <;> omega
theorem vd_rx {pl x y : Nat} {w : Int} (w0 : 1 ≤ w) (w1 : w ≤ 192) (hx : x < vd_ws pl w) (hy : y < vd_sd pl) : y * vd_ws pl w + x < vd_rm pl := by
  have h1 := (vd_ws_b (pl := pl) w0 w1).1
  have h2 : y * vd_ws pl w + vd_ws pl w ≤ vd_sd pl * vd_sd pl := by
    have : (y + 1) * vd_ws pl w ≤ vd_sd pl * vd_sd pl := Nat.mul_le_mul hy h1
    rw [Nat.add_mul, Nat.one_mul] at this
    exact this
  have h3 : vd_sd pl * vd_sd pl = vd_rm pl := by
    unfold vd_sd vd_rm
    split <;> rfl
  omega
section VDRP
variable {N : vd_M} {g : Nat → Nat → Int32} {d : Nat} {Q : vd_M → (Option Value ⊕ Nat) → Prop} {q pl : Nat} {w h : Int}
theorem vd_PD_of (hN : vd_SR N) {j : Nat} (hj : j < 11) : vd_PD N (129 + 5 * j) := by
  have : j = 0 ∨ j = 1 ∨ j = 2 ∨ j = 3 ∨ j = 4 ∨ j = 5 ∨ j = 6 ∨ j = 7 ∨ j = 8 ∨ j = 9 ∨ j = 10 := by omega
  rcases this with rfl | rfl | rfl | rfl | rfl | rfl | rfl | rfl | rfl | rfl | rfl
  · refine ⟨⟨hN.k129, hN.r129_2⟩, ⟨hN.k130, hN.l130⟩, fun pl hpl => ?_, by decide, by decide, by decide⟩
    have : pl = 0 ∨ pl = 1 ∨ pl = 2 := by omega
    rcases this with rfl | rfl | rfl
    · exact ⟨hN.r130_0, hN.k131, hN.l131⟩
    · exact ⟨hN.r130_1, hN.k132, hN.l132⟩
    · exact ⟨hN.r130_2, hN.k133, hN.l133⟩
  · refine ⟨⟨hN.k134, hN.r134_2⟩, ⟨hN.k135, hN.l135⟩, fun pl hpl => ?_, by decide, by decide, by decide⟩
    have : pl = 0 ∨ pl = 1 ∨ pl = 2 := by omega
    rcases this with rfl | rfl | rfl
    · exact ⟨hN.r135_0, hN.k136, hN.l136⟩
    · exact ⟨hN.r135_1, hN.k137, hN.l137⟩
    · exact ⟨hN.r135_2, hN.k138, hN.l138⟩
  · refine ⟨⟨hN.k139, hN.r139_2⟩, ⟨hN.k140, hN.l140⟩, fun pl hpl => ?_, by decide, by decide, by decide⟩
    have : pl = 0 ∨ pl = 1 ∨ pl = 2 := by omega
    rcases this with rfl | rfl | rfl
    · exact ⟨hN.r140_0, hN.k141, hN.l141⟩
    · exact ⟨hN.r140_1, hN.k142, hN.l142⟩
    · exact ⟨hN.r140_2, hN.k143, hN.l143⟩
  · refine ⟨⟨hN.k144, hN.r144_2⟩, ⟨hN.k145, hN.l145⟩, fun pl hpl => ?_, by decide, by decide, by decide⟩
    have : pl = 0 ∨ pl = 1 ∨ pl = 2 := by omega
    rcases this with rfl | rfl | rfl
    · exact ⟨hN.r145_0, hN.k146, hN.l146⟩
    · exact ⟨hN.r145_1, hN.k147, hN.l147⟩
    · exact ⟨hN.r145_2, hN.k148, hN.l148⟩
  · refine ⟨⟨hN.k149, hN.r149_2⟩, ⟨hN.k150, hN.l150⟩, fun pl hpl => ?_, by decide, by decide, by decide⟩
    have : pl = 0 ∨ pl = 1 ∨ pl = 2 := by omega
    rcases this with rfl | rfl | rfl
    · exact ⟨hN.r150_0, hN.k151, hN.l151⟩
    · exact ⟨hN.r150_1, hN.k152, hN.l152⟩
    · exact ⟨hN.r150_2, hN.k153, hN.l153⟩
  · refine ⟨⟨hN.k154, hN.r154_2⟩, ⟨hN.k155, hN.l155⟩, fun pl hpl => ?_, by decide, by decide, by decide⟩
    have : pl = 0 ∨ pl = 1 ∨ pl = 2 := by omega
    rcases this with rfl | rfl | rfl
    · exact ⟨hN.r155_0, hN.k156, hN.l156⟩
    · exact ⟨hN.r155_1, hN.k157, hN.l157⟩
    · exact ⟨hN.r155_2, hN.k158, hN.l158⟩
  · refine ⟨⟨hN.k159, hN.r159_2⟩, ⟨hN.k160, hN.l160⟩, fun pl hpl => ?_, by decide, by decide, by decide⟩
    have : pl = 0 ∨ pl = 1 ∨ pl = 2 := by omega
    rcases this with rfl | rfl | rfl
    · exact ⟨hN.r160_0, hN.k161, hN.l161⟩
    · exact ⟨hN.r160_1, hN.k162, hN.l162⟩
    · exact ⟨hN.r160_2, hN.k163, hN.l163⟩
  · refine ⟨⟨hN.k164, hN.r164_2⟩, ⟨hN.k165, hN.l165⟩, fun pl hpl => ?_, by decide, by decide, by decide⟩
    have : pl = 0 ∨ pl = 1 ∨ pl = 2 := by omega
    rcases this with rfl | rfl | rfl
    · exact ⟨hN.r165_0, hN.k166, hN.l166⟩
    · exact ⟨hN.r165_1, hN.k167, hN.l167⟩
    · exact ⟨hN.r165_2, hN.k168, hN.l168⟩
  · refine ⟨⟨hN.k169, hN.r169_2⟩, ⟨hN.k170, hN.l170⟩, fun pl hpl => ?_, by decide, by decide, by decide⟩
    have : pl = 0 ∨ pl = 1 ∨ pl = 2 := by omega
    rcases this with rfl | rfl | rfl
    · exact ⟨hN.r170_0, hN.k171, hN.l171⟩
    · exact ⟨hN.r170_1, hN.k172, hN.l172⟩
    · exact ⟨hN.r170_2, hN.k173, hN.l173⟩
  · refine ⟨⟨hN.k174, hN.r174_2⟩, ⟨hN.k175, hN.l175⟩, fun pl hpl => ?_, by decide, by decide, by decide⟩
    have : pl = 0 ∨ pl = 1 ∨ pl = 2 := by omega
    rcases this with rfl | rfl | rfl
    · exact ⟨hN.r175_0, hN.k176, hN.l176⟩
    · exact ⟨hN.r175_1, hN.k177, hN.l177⟩
    · exact ⟨hN.r175_2, hN.k178, hN.l178⟩
  · refine ⟨⟨hN.k179, hN.r179_2⟩, ⟨hN.k180, hN.l180⟩, fun pl hpl => ?_, by decide, by decide, by decide⟩
    have : pl = 0 ∨ pl = 1 ∨ pl = 2 := by omega
    rcases this with rfl | rfl | rfl
    · exact ⟨hN.r180_0, hN.k181, hN.l181⟩
    · exact ⟨hN.r180_1, hN.k182, hN.l182⟩
    · exact ⟨hN.r180_2, hN.k183, hN.l183⟩
theorem vd_P223 (hN : vd_SR N) (hpl : pl < 3) : vd_wp d 223 0 [.ref 63, .int (vd_I (pl : Int))] [] (vd_mf N g) Q = Q (vd_mf N g) (.inl (some (.int (vd_I (if pl = 0 then 8 else 4))))) := by
  by_cases c : pl = 0
  · have c' : ((pl : Nat) : Int) = 0 := by omega
    rw [if_pos c]
    simp (disch := omega) only [vd_S223_0 hN, vd_S223_4 hN, vd_S223_10 hN, c', vd_I_toInt, eq_self, if_true]
  · have c' : ¬ (((pl : Nat) : Int) = 0) := by omega
    rw [if_neg c]
    simp (disch := omega) only [vd_S223_0 hN, vd_S223_9 hN, vd_S223_10 hN, c', vd_I_toInt, if_false]
theorem vd_P227 (hN : vd_SR N) (hk : vd_k N q = 13) (hw : g q 0 = vd_I w) (w0 : 0 ≤ w) (w1 : w ≤ 192) (hpl : pl < 3) : vd_wp d 227 0 [.ref q, .int (vd_I (pl : Int))] [] (vd_mf N g) Q = Q (vd_mf N g) (.inl (some (.int (vd_I (vd_pd pl w))))) := by
  by_cases c : pl = 0
  · have e : vd_pd pl w = w := by unfold vd_pd; rw [if_pos c]
    have c' : ((pl : Nat) : Int) = 0 := by omega
    simp (disch := first | assumption | omega) only [vd_S227_0 hN, vd_S227_4 hN, vd_S227_19 hN, hw, vd_I_toInt, c', eq_self, if_true, e]
  · have e : (w + 1) / 2 = vd_pd pl w := by unfold vd_pd; rw [if_neg c]
    have c' : ¬ (((pl : Nat) : Int) = 0) := by omega
    simp (disch := first | assumption | omega) only [vd_S227_0 hN, vd_S227_11 hN, vd_S227_19 hN, hw, vd_I_toInt, c', if_false, vd_I_add, vd_I_div, e]
theorem vd_P228 (hN : vd_SR N) (hk : vd_k N q = 13) (hw : g q 1 = vd_I w) (w0 : 0 ≤ w) (w1 : w ≤ 192) (hpl : pl < 3) : vd_wp d 228 0 [.ref q, .int (vd_I (pl : Int))] [] (vd_mf N g) Q = Q (vd_mf N g) (.inl (some (.int (vd_I (vd_pd pl w))))) := by
  by_cases c : pl = 0
  · have e : vd_pd pl w = w := by unfold vd_pd; rw [if_pos c]
    have c' : ((pl : Nat) : Int) = 0 := by omega
    simp (disch := first | assumption | omega) only [vd_S228_0 hN, vd_S228_4 hN, vd_S228_19 hN, hw, vd_I_toInt, c', eq_self, if_true, e]
  · have e : (w + 1) / 2 = vd_pd pl w := by unfold vd_pd; rw [if_neg c]
    have c' : ¬ (((pl : Nat) : Int) = 0) := by omega
    simp (disch := first | assumption | omega) only [vd_S228_0 hN, vd_S228_11 hN, vd_S228_19 hN, hw, vd_I_toInt, c', if_false, vd_I_add, vd_I_div, e]
theorem vd_P230 (hN : vd_SR N) (hk : vd_k N q = 13) (hw : g q 0 = vd_I w) (w0 : 1 ≤ w) (w1 : w ≤ 192) (hpl : pl < 3) : vd_wp d 230 0 [.ref q, .int (vd_I (pl : Int))] [] (vd_mf N g) Q = Q (vd_mf N g) (.inl (some (.int (vd_I ((vd_ws pl w : Nat) : Int))))) := by
  by_cases c : pl = 0
  · have e : (w + 63) / 64 * 64 = ((vd_ws pl w : Nat) : Int) := by unfold vd_ws; rw [if_pos c]; omega
    have c' : ((pl : Nat) : Int) = 0 := by omega
    simp (disch := first | assumption | omega) only [vd_S230_0 hN, vd_S230_4 hN, vd_S230_33 hN, hw, vd_I_toInt, c', eq_self, if_true, vd_I_add, vd_I_div, vd_I_mul, e]
  · have e : (w + 63) / 64 * 32 = ((vd_ws pl w : Nat) : Int) := by unfold vd_ws; rw [if_neg c]; omega
    have c' : ¬ (((pl : Nat) : Int) = 0) := by omega
    simp (disch := first | assumption | omega) only [vd_S230_0 hN, vd_S230_20 hN, vd_S230_33 hN, hw, vd_I_toInt, c', if_false, vd_I_add, vd_I_div, vd_I_mul, e]
theorem vd_P229 (hN : vd_SR N) (hq : vd_PD N q) {x y : Nat} {v : Int} (hw : g q 0 = vd_I w) (w0 : 1 ≤ w) (w1 : w ≤ 192) (hpl : pl < 3) (hx : x < vd_ws pl w) (hy : y < vd_sd pl) (hv : g (q + 2 + pl) (y * vd_ws pl w + x) &&& vd_I 255 = vd_I v) : vd_wp (d + 1) 229 0 [.ref q, .int (vd_I (pl : Int)), .int (vd_I (x : Int)), .int (vd_I (y : Int))] [] (vd_mf N g) Q = Q (vd_mf N g) (.inl (some (.int (vd_I v)))) := by
  obtain ⟨⟨hk, hr⟩, ⟨hk1, hl1⟩, ha, hq1, hq2⟩ := hq
  obtain ⟨hr3, hk3, hl3⟩ := ha pl hpl
  have hi := vd_rx w0 w1 hx hy
  have hrm : vd_rm pl ≤ 36864 := by unfold vd_rm; split <;> omega
  have P230 := fun (d : Nat) (Q : vd_M → (Option Value ⊕ Nat) → Prop) => vd_P230 (pl := pl) (d := d) (Q := Q) hN hk hw w0 w1 hpl
  have hcs : ∀ a, vd_cs [.int a, .ref (q + 2 + pl)] ≤ 8 := fun _ => of_decide_eq_true rfl
  have np : ((pl : Nat) : Int).toNat = pl := Int.toNat_natCast pl
  have ei : (y : Int) * ((vd_ws pl w : Nat) : Int) + (x : Int) = ((y * vd_ws pl w + x : Nat) : Int) := by rw [Int.natCast_add, Int.natCast_mul]
  have o33 : vd_k N (q + 2 + pl) = 33 ∨ vd_k N (q + 2 + pl) = 34 := Or.inl hk3
  simp (disch := first | assumption | omega | exact hcs _) only [vd_S229_0 hN, vd_S229_5 hN, vd_S229_9 hN, vd_S229_12 hN, vd_S229_15 hN, hr, vd_vr_some, np, hr3, P230, vd_I_mul, vd_I_add, ei, Int.toNat_natCast, hv, vd_rs_v, vd_rs_n]
theorem vd_P226 (hN : vd_SR N) (hq : vd_PD N q) {a b v : Int} (hw : g q 0 = vd_I w) (w0 : 1 ≤ w) (w1 : w ≤ 192) (hh : g q 1 = vd_I h) (h0 : 1 ≤ h) (h1 : h ≤ 192) (hpl : pl < 3) (ha : -100000 ≤ a ∧ a ≤ 100000) (hb : -100000 ≤ b ∧ b ≤ 100000) (hv : g (q + 2 + pl) ((vd_wn b 0 (vd_pd pl h - 1)).toNat * vd_ws pl w + (vd_wn a 0 (vd_pd pl w - 1)).toNat) &&& vd_I 255 = vd_I v) : vd_wp (d + 2) 226 0 [.ref q, .int (vd_I (pl : Int)), .int (vd_I a), .int (vd_I b)] [] (vd_mf N g) Q = Q (vd_mf N g) (.inl (some (.int (vd_I v)))) := by
  have hk := hq.1.1
  have bw : 1 ≤ vd_pd pl w ∧ vd_pd pl w ≤ 192 := by unfold vd_pd; split <;> omega
  have bh : 1 ≤ vd_pd pl h ∧ vd_pd pl h ≤ (vd_sd pl : Int) ∧ vd_sd pl ≤ 192 := by unfold vd_pd vd_sd; split <;> omega
  have wsb := vd_ws_b (pl := pl) w0 w1
  have wa := vd_wn_b (v := a) (lo := 0) (hi := vd_pd pl w - 1) (by omega)
  have wb := vd_wn_b (v := b) (lo := 0) (hi := vd_pd pl h - 1) (by omega)
  have P227 := fun (d : Nat) (Q : vd_M → (Option Value ⊕ Nat) → Prop) => vd_P227 (pl := pl) (d := d) (Q := Q) hN hk hw (by omega) w1 hpl
  have P228 := fun (d : Nat) (Q : vd_M → (Option Value ⊕ Nat) → Prop) => vd_P228 (pl := pl) (d := d) (Q := Q) hN hk hh (by omega) h1 hpl
  have Pa := fun (d : Nat) (Q : vd_M → (Option Value ⊕ Nat) → Prop) => vd_P194 (a := a) (b := 0) (c := vd_pd pl w - 1) (f := g) (d := d) (Q := Q) hN (by omega) (by omega) (by omega) (by omega) (by omega) (by omega)
  have Pb := fun (d : Nat) (Q : vd_M → (Option Value ⊕ Nat) → Prop) => vd_P194 (a := b) (b := 0) (c := vd_pd pl h - 1) (f := g) (d := d) (Q := Q) hN (by omega) (by omega) (by omega) (by omega) (by omega) (by omega)
  generalize vd_wn a 0 (vd_pd pl w - 1) = a' at *
  generalize vd_wn b 0 (vd_pd pl h - 1) = b' at *
  obtain ⟨x, rfl⟩ := Int.eq_ofNat_of_zero_le wa.1
  obtain ⟨y, rfl⟩ := Int.eq_ofNat_of_zero_le wb.1
  rw [Int.toNat_natCast, Int.toNat_natCast] at hv
  have P229 := fun (d : Nat) (Q : vd_M → (Option Value ⊕ Nat) → Prop) => vd_P229 (d := d) (Q := Q) hN hq hw w0 w1 hpl (show x < vd_ws pl w by omega) (show y < vd_sd pl by omega) hv
  simp (disch := first | assumption | omega) only [vd_S226_0 hN, vd_S226_6 hN, vd_S226_9 hN, vd_S226_11 hN, vd_S226_14 hN, vd_S226_18 hN, vd_S226_21 hN, vd_S226_23 hN, vd_S226_26 hN, vd_S226_29 hN, P227, P228, Pa, Pb, P229, vd_I_sub, vd_rs_v, vd_rs_n]
/-- the reference's taps -/
theorem vd_P225 (hN : vd_SR N) {kern t i : Nat} (hk : g 63 109 = vd_I (kern : Int)) (hk2 : kern < 2) (ht : t < 16) (hi : i < 8) (hT : ∀ n, n < 72 → g 7 n = vd_I (vd_tapL.getD n 0)) : vd_wp d 225 0 [.ref 63, .int (vd_I (t : Int)), .int (vd_I (i : Int))] [] (vd_mf N g) Q = Q (vd_mf N g) (.inl (some (.int (vd_I (vd_tap kern t i))))) := by
  unfold vd_tap
  by_cases c : kern = 1
  · subst c
    have z1 : ((1 : Nat) : Int) = 1 := rfl
    rw [z1] at hk
    by_cases c3 : i = 3
    · subst c3
      simp (disch := omega) only [vd_S225_0 hN, vd_S225_8 hN, vd_S225_13 hN, vd_S225_37 hN, hk, vd_I_toInt, show ((3 : Nat) : Int) = 3 from rfl, eq_self, if_true, vd_I_mul, vd_I_sub]
    · have c3' : ¬ ((i : Int) = 3) := by omega
      by_cases c4 : i = 4
      · subst c4
        simp (disch := omega) only [vd_S225_0 hN, vd_S225_8 hN, vd_S225_24 hN, vd_S225_29 hN, vd_S225_37 hN, hk, vd_I_toInt, show ((4 : Nat) : Int) = 4 from rfl, show ¬ ((4 : Int) = 3) by decide, show ¬ ((4 : Nat) = 3) by decide, eq_self, if_true, if_false, vd_I_mul]
      · have c4' : ¬ ((i : Int) = 4) := by omega
        simp (disch := omega) only [vd_S225_0 hN, vd_S225_8 hN, vd_S225_24 hN, vd_S225_36 hN, vd_S225_37 hN, hk, vd_I_toInt, c3, c3', c4, c4', eq_self, if_true, if_false]
  · have c' : ¬ ((kern : Int) = 1) := by omega
    rw [if_neg c]
    by_cases c8 : t ≤ 8
    · have c8' : ¬ ((8 : Int) < (t : Int)) := by omega
      have n1 : (8 * (t : Int) + (i : Int)).toNat = 8 * t + i := by omega
      have h := hT (8 * t + i) (by omega)
      rw [if_pos c8]
      simp (disch := omega) only [vd_S225_0 hN, vd_S225_38 hN, vd_S225_44 hN, vd_S225_53 hN, vd_S225_73 hN, hk, vd_I_toInt, c', c8', if_false, vd_I_mul, vd_I_add, n1, h]
    · have c8' : (8 : Int) < (t : Int) := by omega
      have n1 : (8 * (16 - (t : Int)) + 7 - (i : Int)).toNat = 8 * (16 - t) + 7 - i := by omega
      have h := hT (8 * (16 - t) + 7 - i) (by omega)
      rw [if_neg c8]
      simp (disch := omega) only [vd_S225_0 hN, vd_S225_38 hN, vd_S225_57 hN, vd_S225_72 hN, vd_S225_73 hN, hk, vd_I_toInt, c', c8', if_true, if_false, vd_I_mul, vd_I_add, vd_I_sub, n1, h]
end VDRP
