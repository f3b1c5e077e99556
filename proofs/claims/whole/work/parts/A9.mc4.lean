/-! ===== taps; fetch; markWritten ===== -/
def vd_tapL : List Int := [0, 0, 0, 128, 0, 0, 0, 0, 0, 1, -5, 126, 8, -3, 1, 0, -1, 3, -10, 122, 18, -6, 2, 0, -1, 4, -13, 118, 27, -9, 3, -1, -1, 4, -16, 112, 37, -11, 4, -1, -1, 5, -18, 105, 48, -14, 4, -1, -1, 5, -19, 97, 58, -16, 5, -1, -1, 6, -19, 88, 68, -18, 5, -1, -1, 6, -19, 78, 78, -19, 6, -1]
def vd_tap (k f i : Nat) : Int := if k = 1 then (if i = 3 then 128 - 8 * (f : Int) else if i = 4 then 8 * (f : Int) else 0) else if f ≤ 8 then vd_tapL.getD (8 * f + i) 0 else vd_tapL.getD (8 * (16 - f) + 7 - i) 0
theorem vd_tapL_b (n : Nat) : -128 ≤ vd_tapL.getD n 0 ∧ vd_tapL.getD n 0 ≤ 128 := by
  by_cases h : n < 72
  · have : ∀ m, m < 72 → -128 ≤ vd_tapL.getD m 0 ∧ vd_tapL.getD m 0 ≤ 128 := by decide +kernel
    exact this n h
  · have : vd_tapL.getD n 0 = 0 := by
      rw [List.getD_eq_getElem?_getD, List.getElem?_eq_none (show vd_tapL.length ≤ n from Nat.le_of_not_lt h)]
      rfl
    omega
theorem vd_tap_b {k f : Nat} (hf : f < 16) (i : Nat) : -128 ≤ vd_tap k f i ∧ vd_tap k f i ≤ 128 := by
  unfold vd_tap
  split
  · split
    · omega
    · split <;> omega
  · split
    · exact vd_tapL_b _
    · exact vd_tapL_b _
/-- the class's table -/
def vd_TB (f : Nat → Nat → Int32) : Prop := ∀ k t i, k < 2 → t < 16 → i < 8 → f 57 (8 * (16 * k + t) + i) = vd_I (vd_tap k t i)
/-- a sample from elsewhere, by sixteenths -/
def vd_mp (P : Nat → Nat → Int) (wd hd kern : Nat) (u v : Int) : Int := vd_hr (vd_tap kern (v % 16).toNat) (fun q => vd_hr (vd_tap kern (u % 16).toNat) (vd_ln P wd hd (u / 16) (v / 16) q) 0) 0
theorem vd_mp_eq (P : Nat → Nat → Int) (wd hd kern : Nat) (u v : Int) (i j : Nat) : vd_hr (vd_tap kern (v % 16).toNat) (fun q => vd_hr (vd_tap kern (u % 16).toNat) (vd_ln P wd hd (u / 16) (v / 16) q) i) j = vd_mp P wd hd kern (u + 16 * (i : Int)) (v + 16 * (j : Int)) := by
  have a : (u + 16 * (i : Int)) / 16 = u / 16 + (i : Int) := by omega
  have b : (u + 16 * (i : Int)) % 16 = u % 16 := by omega
  have c : (v + 16 * (j : Int)) / 16 = v / 16 + (j : Int) := by omega
  have d : (v + 16 * (j : Int)) % 16 = v % 16 := by omega
  unfold vd_mp
  rw [a, b, c, d]
  have key : ∀ t s, vd_ln P wd hd (u / 16) (v / 16) (j + t) (i + s) = vd_ln P wd hd (u / 16 + (i : Int)) (v / 16 + (j : Int)) (0 + t) (0 + s) := by
    intro t s
    unfold vd_ln
    rw [show u / 16 + ((i + s : Nat) : Int) - 3 = u / 16 + (i : Int) + ((0 + s : Nat) : Int) - 3 by omega, show v / 16 + ((j + t : Nat) : Int) - 3 = v / 16 + (j : Int) + ((0 + t : Nat) : Int) - 3 by omega]
  simp only [vd_hr, key]
theorem vd_mp_b (P : Nat → Nat → Int) (wd hd kern : Nat) (u v : Int) : 0 ≤ vd_mp P wd hd kern u v ∧ vd_mp P wd hd kern u v ≤ 255 := vd_hr_b _ _ _
def vd_sc (pl : Nat) : Int := if pl = 0 then 2 else 1
section VDMF
variable {M : vd_M} {ow fa lo lf : Nat} {pl : Nat}
theorem vd_P105 (hM : vd_SC M ow fa lo lf) {pt st pr sr : Nat} (hpt : vd_PC M pt st) (hpr : vd_PC M pr sr) {wide high left top wd hd kern vi r : Nat} {w h dx dy mix : Int} {P Ov : Nat → Nat → Int} {f : Nat → Nat → Int32} (hr : vd_r M 55 r = some pr) (hr3 : r < 3) (hpl : pl < 3) (h2 : wide ≤ 64) (h3 : high ≤ 64) (hrow : left + wide ≤ vd_sd pl) (hcol : top + high ≤ vd_sd pl) (hw : f pr 0 = vd_I w) (w0 : 1 ≤ w ∧ w ≤ 192) (hh : f pr 1 = vd_I h) (h0 : 1 ≤ h ∧ h ≤ 192) (hwd : (wd : Int) = vd_pd pl w) (hhd : (hd : Int) = vd_pd pl h) (hPb : ∀ a b, 0 ≤ P a b ∧ P a b ≤ 255) (hS : ∀ a b, a < wd → b < hd → f sr (vd_ax pl a b) = vd_I (P a b)) (hT : vd_TB f) (hk : kern < 2) (hvi : vi + 1 < 10368) (hdx : f fa vi = vd_I dx) (hdy : f fa (vi + 1) = vd_I dy) (bx : -10000 ≤ dx ∧ dx ≤ 10000) (by' : -10000 ≤ dy ∧ dy ≤ 10000) (hm : mix = 0 ∨ mix = 1) (hOb : ∀ i j, 0 ≤ Ov i j ∧ Ov i j ≤ 255) (hO : ∀ i j', mix = 1 → i < wide → j' < high → f st (vd_ax pl (left + i) (top + j')) = vd_I (Ov i j')) (hf : f 54 8 = vd_I (pl : Int) ∧ f 54 9 = vd_I (left : Int) ∧ f 54 10 = vd_I (top : Int) ∧ f 54 11 = vd_I (wide : Int) ∧ f 54 12 = vd_I (high : Int)) : ∃ (f' : Nat → Nat → Int32), (∀ d Q, vd_wp (d + 2) 105 0 [.ref 54, .ref pt, .int (vd_I (r : Int)), .int (vd_I (vi : Int)), .int (vd_I (kern : Int)), .int (vd_I mix), vd_U, vd_U, vd_U, vd_U] [] (vd_mf M f) Q = Q (vd_mf M f') (.inl none)) ∧ (∀ i j, i < wide → j < high → f' st (vd_ax pl (left + i) (top + j)) = vd_I (vd_mxv mix (Ov i j) (vd_mp P wd hd kern (16 * ((left + i : Nat) : Int) + vd_sc pl * dx) (16 * ((top + j : Nat) : Int) + vd_sc pl * dy)))) ∧ (∀ c q, c ≠ 58 → c ≠ 59 → (c = st → ∀ i j', i < wide → j' < high → q ≠ vd_ax pl (left + i) (top + j')) → f' c q = f c q) := by
  have hsd : vd_sd pl ≤ 192 := by unfold vd_sd; split <;> omega
  have sc01 : vd_sc pl = 2 ∨ vd_sc pl = 1 := by
    unfold vd_sc
    split
    · exact Or.inl rfl
    · exact Or.inr rfl
  have ub : -24000 ≤ 16 * (left : Int) + vd_sc pl * dx ∧ 16 * (left : Int) + vd_sc pl * dx ≤ 24000 := by
    rcases sc01 with c | c <;> rw [c] <;> omega
  have vb : -24000 ≤ 16 * (top : Int) + vd_sc pl * dy ∧ 16 * (top : Int) + vd_sc pl * dy ≤ 24000 := by
    rcases sc01 with c | c <;> rw [c] <;> omega
  obtain ⟨f8, f9, f10, f11, f12⟩ := id hf
  have hcs : ∀ x, vd_long (.ref x) = false := fun _ => rfl
  have start : ∀ d Q, vd_wp (d + 2) 105 0 [.ref 54, .ref pt, .int (vd_I (r : Int)), .int (vd_I (vi : Int)), .int (vd_I (kern : Int)), .int (vd_I mix), vd_U, vd_U, vd_U, vd_U] [] (vd_mf M f) Q = vd_wp (d + 2) 105 75 [.ref 54, .ref pt, .int (vd_I (r : Int)), .int (vd_I (vi : Int)), .int (vd_I (kern : Int)), .int (vd_I mix), .ref pr, .int (vd_I (vd_sc pl)), .int (vd_I (16 * (left : Int) + vd_sc pl * dx)), .int (vd_I (16 * (top : Int) + vd_sc pl * dy))] [.ref 54] (vd_mf M f) Q := fun d Q => by
    have nr : ((r : Nat) : Int).toNat = r := Int.toNat_natCast r
    have nv : ((vi : Nat) : Int).toNat = vi := Int.toNat_natCast vi
    have nv1 : ((vi : Int) + 1).toNat = vi + 1 := by omega
    by_cases c : pl = 0
    · have es : vd_sc pl = 2 := by unfold vd_sc; rw [if_pos c]
      have c' : ((pl : Nat) : Int) = 0 := by omega
      rw [c'] at f8
      rw [es]
      simp (disch := first | assumption | omega | exact hcs _) only [vd_S105_0 hM, vd_S105_5 hM, vd_S105_6 hM, vd_S105_10 hM, vd_S105_14 hM, vd_S105_21 hM, vd_S105_26 hM, vd_S105_45 hM, vd_S105_69 hM, nr, nv, nv1, hr, vd_vr_some, f8, f9, f10, hdx, hdy, vd_I_toInt, eq_self, if_true, vd_I_mul, vd_I_add]
    · have es : vd_sc pl = 1 := by unfold vd_sc; rw [if_neg c]
      have c' : ¬ (((pl : Nat) : Int) = 0) := by omega
      rw [es]
      simp (disch := first | assumption | omega | exact hcs _) only [vd_S105_0 hM, vd_S105_5 hM, vd_S105_6 hM, vd_S105_10 hM, vd_S105_14 hM, vd_S105_25 hM, vd_S105_26 hM, vd_S105_45 hM, vd_S105_69 hM, nr, nv, nv1, hr, vd_vr_some, f8, f9, f10, hdx, hdy, vd_I_toInt, c', if_false, vd_I_mul, vd_I_add]
  have eu : ∀ i : Nat, 16 * ((left + i : Nat) : Int) + vd_sc pl * dx = 16 * (left : Int) + vd_sc pl * dx + 16 * (i : Int) := fun i => by
    rcases sc01 with c | c <;> rw [c] <;> omega
  have ev : ∀ i : Nat, 16 * ((top + i : Nat) : Int) + vd_sc pl * dy = 16 * (top : Int) + vd_sc pl * dy + 16 * (i : Int) := fun i => by
    rcases sc01 with c | c <;> rw [c] <;> omega
  generalize 16 * (left : Int) + vd_sc pl * dx = u at *
  generalize 16 * (top : Int) + vd_sc pl * dy = v at *
  have hu16 : (u % 16).toNat < 16 := by omega
  have hv16 : (v % 16).toNat < 16 := by omega
  have e1 : (16 * (kern : Int) + u % 16) * 8 = ((8 * (16 * kern + (u % 16).toNat) : Nat) : Int) := by omega
  have e2 : (16 * (kern : Int) + v % 16) * 8 = ((8 * (16 * kern + (v % 16).toNat) : Nat) : Int) := by omega
  obtain ⟨f1, p1, p2, p3⟩ := vd_P106 (pl := pl) (T := vd_tap kern (u % 16).toNat) (P := P) (first := 8 * (16 * kern + (u % 16).toNat)) (x := u / 16) (y := v / 16) hM hpr hpl (by omega) (by omega) h2 h3 hw w0 hh h0 hwd hhd (by omega) (vd_tap_b hu16) hPb (fun t ht => hT kern _ t hk hu16 ht) hS f8 f11 f12
  have hpt' := hpt.2.2
  obtain ⟨f2, q1, q2, q3⟩ := vd_P110 (pl := pl) (V := vd_tap kern (v % 16).toNat) (R := fun i q => vd_hr (vd_tap kern (u % 16).toNat) (vd_ln P wd hd (u / 16) (v / 16) q) i) (Ov := Ov) (first := 8 * (16 * kern + (v % 16).toNat)) (mix := mix) (left := left) (top := top) (f := f1) hM hpt hpl (by omega) h2 h3 (vd_tap_b hv16) (fun i q => vd_hr_b _ _ _) hOb hm hrow hcol (fun t ht => by rw [p3 _ _ (by omega) (by omega)]; exact hT kern _ t hk hv16 ht) (fun c q hc hq => p2 q c hq hc) (fun i j' hx hi hj => by rw [p3 _ _ (by omega) (by omega)]; exact hO i j' hx hi hj) ⟨by rw [p3 _ _ (by omega) (by omega)]; exact f8, by rw [p3 _ _ (by omega) (by omega)]; exact f9, by rw [p3 _ _ (by omega) (by omega)]; exact f10, by rw [p3 _ _ (by omega) (by omega)]; exact f11, by rw [p3 _ _ (by omega) (by omega)]; exact f12⟩
  refine ⟨f2, fun d Q => ?_, fun i j hi hj => ?_, fun c q a b e => ?_⟩
  · rw [start]
    simp (disch := first | assumption | omega) only [vd_S105_75 hM, vd_S105_99 hM, vd_S105_102 hM, vd_S105_120 hM, vd_S105_123 hM, vd_and15, vd_shr4, vd_I_mul, vd_I_add, e1, e2, p1, q1, vd_rs_v, vd_rs_n]
  · rw [q2 i j hi hj, vd_mp_eq, eu, ev]
  · rw [q3 c q e, p3 c q a b]
theorem vd_L111 (hM : vd_SC M ow fa lo lf) {cx cy cw ch : Nat} {mk x6 : Int32} (hpl : pl < 3) (hx : cx + cw ≤ 48) (hy : cy + ch ≤ 48) (hmk : mk.toInt8.toInt32 = mk) : ∀ (m b : Nat) (f : Nat → Nat → Int32) (a9 : Value), b + m = cy + ch → ∃ (f' : Nat → Nat → Int32), (∀ d Q, vd_wp (d + 2) 111 18 [.ref 37, .int (vd_I (pl : Int)), .int (vd_I (4 * (cx : Int))), .int (vd_I (4 * (cy : Int))), .int (vd_I (4 * (cw : Int))), .int (vd_I (4 * (ch : Int))), .int x6, .int mk, .int (vd_I (b : Int)), a9] [] (vd_mf M f) Q = Q (vd_mf M f') (.inl none)) ∧ (∀ a b', cx ≤ a → a < cx + cw → b ≤ b' → b' < cy + ch → f' 43 (2304 * pl + 48 * b' + a) = mk) ∧ (∀ c q, (c = 43 → ∀ a b', cx ≤ a → a < cx + cw → b ≤ b' → b' < cy + ch → q ≠ 2304 * pl + 48 * b' + a) → f' c q = f c q) := by
  intro m
  induction m with
  | zero =>
    intro b f a9 hb
    refine ⟨f, fun d Q => ?_, fun a b' h1 h2 h3 h4 => by omega, fun _ _ _ => rfl⟩
    have c : ¬ ((b : Int) < (4 * (cy : Int) + 4 * (ch : Int)) / 4) := by omega
    rw [vd_S111_18 hM]
    simp (disch := omega) only [vd_I_add, vd_I_div, vd_I_toInt, c, if_false, vd_S111_69 hM]
  | succ m ih =>
    intro b f a9 hb
    have c : (b : Int) < (4 * (cy : Int) + 4 * (ch : Int)) / 4 := by omega
    have e1 : (b : Int) + 1 = ((b + 1 : Nat) : Int) := by omega
    have e2 : ((pl : Int) * 48 + (b : Int)) * 48 + 4 * (cx : Int) / 4 = ((2304 * pl + 48 * b + cx : Nat) : Int) := by omega
    have e3 : ((2304 * pl + 48 * b + cx : Nat) : Int) + 4 * (cw : Int) / 4 = ((2304 * pl + 48 * b + cx + cw : Nat) : Int) := by omega
    have F := fun (d : Nat) (Q : vd_M → (Option Value ⊕ Nat) → Prop) => vd_F293 (M := M) (f := f) (d := d) (Q := Q) (o := 43) (len := 6912) (a := 2304 * pl + 48 * b + cx) (b := 2304 * pl + 48 * b + cx + cw) (x := mk) (by decide) hM.k43 hM.l43 (by decide) (by omega) (by omega)
    rw [hmk] at F
    obtain ⟨f2, q1, q2, q3⟩ := ih (b + 1) (vd_uf f 43 (2304 * pl + 48 * b + cx) (2304 * pl + 48 * b + cx + cw) mk) (.int (vd_I ((2304 * pl + 48 * b + cx : Nat) : Int))) (by omega)
    refine ⟨f2, fun d Q => ?_, fun a b' h1 h2 h3 h4 => ?_, fun c q hq => ?_⟩
    · rw [← q1 d Q, vd_S111_18 hM]
      simp (disch := omega) only [vd_S111_29 hM, vd_S111_60 hM, vd_S111_63 hM, vd_I_add, vd_I_mul, vd_I_div, vd_I_toInt, c, if_true, e1, e2, e3, F, vd_rs_v, vd_rs_n]
    · by_cases cb : b' = b
      · subst cb
        rw [q3 _ _ (fun _ a2 b2 g1 g2 g3 g4 => by omega)]
        exact vd_uf_in (by omega) (by omega)
      · exact q2 a b' h1 h2 (by omega) h4
    · rw [q3 c q (fun e a b' h1 h2 h3 h4 => hq e a b' h1 h2 (by omega) h4)]
      refine vd_uf_ne fun ⟨e, h1, h2⟩ => hq e (q - (2304 * pl + 48 * b)) b (by omega) (by omega) (Nat.le_refl _) (by omega) (by omega)
theorem vd_P111 (hM : vd_SC M ow fa lo lf) {cx cy cw ch : Nat} {nm : Int} {f : Nat → Nat → Int32} (hpl : pl < 3) (hx : cx + cw ≤ 48) (hy : cy + ch ≤ 48) (hn : nm = 0 ∨ nm = 1) : ∃ (f' : Nat → Nat → Int32), (∀ d Q, vd_wp (d + 2) 111 0 [.ref 37, .int (vd_I (pl : Int)), .int (vd_I (4 * (cx : Int))), .int (vd_I (4 * (cy : Int))), .int (vd_I (4 * (cw : Int))), .int (vd_I (4 * (ch : Int))), .int (vd_I nm), vd_U, vd_U, vd_U] [] (vd_mf M f) Q = Q (vd_mf M f') (.inl none)) ∧ (∀ a b', cx ≤ a → a < cx + cw → cy ≤ b' → b' < cy + ch → f' 43 (2304 * pl + 48 * b' + a) = vd_I (1 + nm)) ∧ (∀ c q, (c = 43 → ∀ a b', cx ≤ a → a < cx + cw → cy ≤ b' → b' < cy + ch → q ≠ 2304 * pl + 48 * b' + a) → f' c q = f c q) := by
  have e4 : 4 * (cy : Int) / 4 = (cy : Int) := by omega
  have m1 : (vd_I 1).toInt8.toInt32 = vd_I 1 := by decide
  have m2 : (vd_I 2).toInt8.toInt32 = vd_I 2 := by decide
  rcases hn with c | c
  · subst c
    obtain ⟨f', p1, p2, p3⟩ := vd_L111 (x6 := vd_I 0) (mk := vd_I 1) (cx := cx) (cy := cy) (cw := cw) (ch := ch) hM hpl hx hy m1 ch cy f vd_U rfl
    refine ⟨f', fun d Q => ?_, p2, p3⟩
    simp (disch := omega) only [vd_S111_0 hM, vd_S111_9 hM, vd_S111_10 hM, vd_I_toInt, eq_self, if_true, m1, vd_I_div, e4, p1]
  · subst c
    obtain ⟨f', p1, p2, p3⟩ := vd_L111 (x6 := vd_I 1) (mk := vd_I 2) (cx := cx) (cy := cy) (cw := cw) (ch := ch) hM hpl hx hy m2 ch cy f vd_U rfl
    refine ⟨f', fun d Q => ?_, p2, p3⟩
    simp (disch := omega) only [vd_S111_0 hM, vd_S111_5 hM, vd_S111_10 hM, vd_I_toInt, show ¬ ((1 : Int) = 0) by decide, if_false, m2, vd_I_div, e4, p1]
end VDMF
