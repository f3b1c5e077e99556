/-! ===== the grid of a new frame, class ===== -/
def vd_swp (M : vd_M) (ow fa lo lf : Nat) : vd_M := vd_sr (vd_sr (vd_sr (vd_sr M 37 7 (some lo)) 37 9 (some ow)) 37 8 (some lf)) 37 10 (some fa)
theorem vd_SC.swp {M : vd_M} {ow fa lo lf : Nat} (h : vd_SC M ow fa lo lf) : vd_SC (vd_swp M ow fa lo lf) lo lf ow fa := ⟨⟨⟨⟨⟨⟨⟨h.k9, h.k10⟩, ⟨h.k11, ⟨h.l11, h.k12⟩⟩⟩, ⟨⟨h.l12, h.k13⟩, ⟨h.l13, ⟨h.k14, h.l14⟩⟩⟩⟩, ⟨⟨⟨h.k15, h.l15⟩, ⟨h.k16, ⟨h.k17, h.k18⟩⟩⟩, ⟨⟨h.l18, ⟨h.k19, h.l19⟩⟩, ⟨h.k20, ⟨h.k21, h.l21⟩⟩⟩⟩⟩, ⟨⟨⟨⟨h.k22, h.l22⟩, ⟨h.k23, ⟨h.l23, h.k24⟩⟩⟩, ⟨⟨h.l24, ⟨h.k25, h.l25⟩⟩, ⟨h.k26, ⟨h.l26, h.k27⟩⟩⟩⟩, ⟨⟨⟨h.k28, h.l28⟩, ⟨h.k29, ⟨h.l29, h.k30⟩⟩⟩, ⟨⟨h.l30, ⟨h.k31, h.l31⟩⟩, ⟨h.k32, ⟨h.l32, h.k33⟩⟩⟩⟩⟩⟩, ⟨⟨⟨⟨⟨h.l33, h.k34⟩, ⟨h.k35, ⟨h.l35, h.k36⟩⟩⟩, ⟨⟨h.l36, h.k37⟩, ⟨h.k42, ⟨h.l42, h.k43⟩⟩⟩⟩, ⟨⟨⟨h.l43, h.k44⟩, ⟨h.k45, ⟨h.k46, h.l46⟩⟩⟩, ⟨⟨h.k47, ⟨h.l47, h.k48⟩⟩, ⟨h.l48, ⟨h.k49, h.l49⟩⟩⟩⟩⟩, ⟨⟨⟨⟨h.k50, h.l50⟩, ⟨h.k51, ⟨h.l51, h.k52⟩⟩⟩, ⟨⟨h.k53, ⟨h.l53, h.k54⟩⟩, ⟨h.k55, ⟨h.l55, h.k56⟩⟩⟩⟩, ⟨⟨⟨h.l56, h.k57⟩, ⟨h.l57, ⟨h.k58, h.l58⟩⟩⟩, ⟨⟨h.k59, ⟨h.l59, h.k60⟩⟩, ⟨h.k61, ⟨h.l61, h.k62⟩⟩⟩⟩⟩⟩⟩, ⟨⟨⟨⟨⟨⟨h.l62, h.r10_0⟩, ⟨h.r10_7, ⟨h.r10_8, h.r10_10⟩⟩⟩, ⟨⟨h.r10_11, h.r10_12⟩, ⟨h.r10_13, ⟨h.r10_14, h.r10_15⟩⟩⟩⟩, ⟨⟨⟨h.r10_16, h.r10_17⟩, ⟨h.r10_18, ⟨h.r10_19, h.r16_0⟩⟩⟩, ⟨⟨h.r17_8, ⟨h.r17_9, h.r20_3⟩⟩, ⟨h.r20_5, ⟨h.r20_9, h.r20_10⟩⟩⟩⟩⟩, ⟨⟨⟨⟨h.r20_12, h.r20_13⟩, ⟨h.r27_3, ⟨h.r27_5, h.r27_9⟩⟩⟩, ⟨⟨h.r27_10, ⟨h.r27_12, h.r27_13⟩⟩, ⟨h.r34_0, ⟨h.r34_1, h.r34_2⟩⟩⟩⟩, ⟨⟨⟨h.r37_11, h.r37_12⟩, ⟨h.r44_0, ⟨h.r44_1, h.r44_2⟩⟩⟩, ⟨⟨h.r44_3, ⟨h.r44_4, h.r44_5⟩⟩, ⟨h.r44_6, ⟨h.r45_0, h.r45_1⟩⟩⟩⟩⟩⟩, ⟨⟨⟨⟨⟨h.r45_2, h.r45_4⟩, ⟨h.r45_5, ⟨h.r45_6, h.r45_7⟩⟩⟩, ⟨⟨h.r45_8, h.r45_9⟩, ⟨h.r52_0, ⟨h.r52_1, h.r54_0⟩⟩⟩⟩, ⟨⟨⟨h.r54_1, h.r54_2⟩, ⟨h.r54_3, ⟨h.r54_5, h.r54_6⟩⟩⟩, ⟨⟨h.r54_7, ⟨h.r60_0, h.r60_1⟩⟩, ⟨h.r60_3, ⟨h.r60_4, rfl⟩⟩⟩⟩⟩, ⟨⟨⟨⟨h.klo, h.llo⟩, ⟨rfl, ⟨h.klf, h.llf⟩⟩⟩, ⟨⟨rfl, ⟨h.kow, h.low⟩⟩, ⟨rfl, ⟨h.kfa, h.lfa⟩⟩⟩⟩, ⟨⟨⟨(by have := h.par; omega), h.k0⟩, ⟨h.l0, ⟨h.k1, h.l1⟩⟩⟩, ⟨⟨h.k2, ⟨h.l2, h.k3⟩⟩, ⟨h.l3, ⟨h.k4, h.l4⟩⟩⟩⟩⟩⟩⟩⟩
section VDGN
variable {M N : vd_M} {ow fa lo lf : Nat}
theorem vd_P49 (hM : vd_SC M ow fa lo lf) (f : Nat → Nat → Int32) (d : Nat) (Q : vd_M → (Option Value ⊕ Nat) → Prop) : vd_wp d 49 0 [.ref 37, vd_U, vd_U] [] (vd_mf M f) Q = Q (vd_mf (vd_swp M ow fa lo lf) f) (.inl none) := by
  rw [vd_S49_0 hM]
  have k1 : vd_k (vd_mf (vd_sr M 37 7 (some lo)) f) 37 = 4 := hM.k37
  have k2 : vd_k (vd_mf (vd_sr (vd_sr M 37 7 (some lo)) 37 9 (some ow)) f) 37 = 4 := hM.k37
  have k3 : vd_k (vd_mf (vd_sr (vd_sr (vd_sr M 37 7 (some lo)) 37 9 (some ow)) 37 8 (some lf)) f) 37 = 4 := hM.k37
  have r8 : vd_r (vd_mf (vd_sr (vd_sr M 37 7 (some lo)) 37 9 (some ow)) f) 37 8 = some fa := hM.r37_8
  have r10 : vd_r (vd_mf (vd_sr (vd_sr M 37 7 (some lo)) 37 9 (some ow)) f) 37 10 = some lf := hM.r37_10
  have e1 : vd_wp d 49 13 [.ref 37, .ref ow, vd_U] [] (vd_mf (vd_sr M 37 7 (some lo)) f) Q = vd_wp d 49 18 [.ref 37, .ref ow, vd_U] [] (vd_mf (vd_sr (vd_sr M 37 7 (some lo)) 37 9 (some ow)) f) Q := Eq.trans (vd_wp_alu rfl rfl) (Eq.trans (vd_wp_alu rfl rfl) (Eq.trans (vd_g_putR rfl rfl k1) (rfl)))
  have e2 : vd_wp d 49 18 [.ref 37, .ref ow, vd_U] [] (vd_mf (vd_sr (vd_sr M 37 7 (some lo)) 37 9 (some ow)) f) Q = vd_wp d 49 31 [.ref 37, .ref ow, .ref fa] [] (vd_mf (vd_sr (vd_sr (vd_sr M 37 7 (some lo)) 37 9 (some ow)) 37 8 (some lf)) f) Q := Eq.trans (vd_wp_alu rfl rfl) (Eq.trans (vd_g_getRc rfl rfl k2 r8) (Eq.trans (vd_g_astn rfl (vd_stS rfl rfl (of_decide_eq_true rfl))) (Eq.trans (vd_wp_alu rfl rfl) (Eq.trans (vd_wp_alu rfl rfl) (Eq.trans (vd_g_getRc rfl rfl k2 r10) (Eq.trans (vd_g_putR rfl rfl k2) (rfl)))))))
  have e3 : vd_wp d 49 31 [.ref 37, .ref ow, .ref fa] [] (vd_mf (vd_sr (vd_sr (vd_sr M 37 7 (some lo)) 37 9 (some ow)) 37 8 (some lf)) f) Q = vd_wp d 49 36 [.ref 37, .ref ow, .ref fa] [] (vd_mf (vd_swp M ow fa lo lf) f) Q := Eq.trans (vd_wp_alu rfl rfl) (Eq.trans (vd_wp_alu rfl rfl) (Eq.trans (vd_g_putR rfl rfl k3) (rfl)))
  rw [e1, e2, e3]
  exact Eq.trans (vd_g_ret rfl rfl) (rfl)
/-- grid.begin -/
theorem vd_P48 (hM : vd_SC M ow fa lo lf) {f : Nat → Nat → Int32} {w h sho rs kd ow0 oh0 lm : Int} (hw : f 17 5 = vd_I w) (hh : f 17 6 = vd_I h) (hs : f 17 2 = vd_I sho) (hr : f 17 3 = vd_I rs) (hk : f 17 4 = vd_I kd) (b : 1 ≤ w ∧ w ≤ 192 ∧ 1 ≤ h ∧ h ≤ 192) (s01 : sho = 0 ∨ sho = 1) (r01 : rs = 0 ∨ rs = 1) (k0 : 0 ≤ kd) (k1 : kd ≤ 2) (o0 : f 37 0 = vd_I ow0) (o1 : f 37 1 = vd_I oh0) (ob : 0 ≤ ow0 ∧ ow0 ≤ 192 ∧ 0 ≤ oh0 ∧ oh0 ≤ 192) (hl : f 37 5 = vd_I lm) (l01 : lm = 0 ∨ lm = 1) : ∃ f' : Nat → Nat → Int32, (∀ d Q, vd_wp (d + 2) 48 0 [.ref 37, .ref 17, vd_U] [] (vd_mf M f) Q = Q (vd_mf (vd_swp M ow fa lo lf) f') (.inl none)) ∧ (f' 37 0 = vd_I w ∧ f' 37 1 = vd_I h ∧ f' 37 2 = vd_I ((w + 7) / 8) ∧ f' 37 3 = vd_I ((h + 7) / 8) ∧ f' 37 4 = vd_I 0 ∧ f' 37 5 = vd_I sho ∧ f' 37 6 = vd_I (if ow0 = w ∧ oh0 = h ∧ lm = 1 ∧ rs = 0 then 1 else 0)) ∧ (∀ i, i < 576 → f' 42 i = if ow0 = w ∧ oh0 = h ∧ kd = 2 ∧ rs = 0 then f 42 i else vd_I 0) ∧ (∀ i, i < 576 → f' lo i = vd_I (-1)) ∧ (∀ i, i < 6912 → f' 43 i = vd_I 0) ∧ (∀ c i, c ≠ 37 → c ≠ 42 → c ≠ 43 → c ≠ lo → f' c i = f c i) := by
  have hpar := hM.par
  have hM' := hM.swp
  have ok2 : vd_fok .boolean (vd_I sho) = true := by rcases s01 with rfl | rfl <;> decide
  -- same size and last motion
  obtain ⟨ss, ss01, ssw, e1⟩ : ∃ ss : Int, (ss = 0 ∨ ss = 1) ∧ (ss = 1 ↔ ow0 = w ∧ oh0 = h) ∧ ∀ d Q, vd_wp (d + 2) 48 0 [.ref 37, .ref 17, vd_U] [] (vd_mf M f) Q = vd_wp (d + 2) 48 27 [.ref 37, .ref 17, vd_U] [.int (vd_I ss)] (vd_mf M f) Q := by
    by_cases c1 : ow0 = w
    · by_cases c2 : oh0 = h
      · refine ⟨1, Or.inr rfl, ⟨fun _ => ⟨c1, c2⟩, fun _ => rfl⟩, fun d Q => ?_⟩
        subst c1 c2
        simp (disch := omega) only [vd_S48_0 hM, vd_S48_11 hM, vd_S48_22 hM, o0, o1, hw, hh, vd_I_toInt, eq_self, if_true]
      · refine ⟨0, Or.inl rfl, ⟨fun q => absurd q (by decide), fun q => absurd q.2 c2⟩, fun d Q => ?_⟩
        subst c1
        simp (disch := omega) only [vd_S48_0 hM, vd_S48_11 hM, vd_S48_26 hM, o0, o1, hw, hh, vd_I_toInt, eq_self, if_true, c2, if_false]
    · refine ⟨0, Or.inl rfl, ⟨fun q => absurd q (by decide), fun q => absurd q.1 c1⟩, fun d Q => ?_⟩
      simp (disch := omega) only [vd_S48_0 hM, vd_S48_26 hM, o0, o1, hw, hh, vd_I_toInt, c1, if_false]
  obtain ⟨mo, mo01, mow, e2⟩ : ∃ mo : Int, (mo = 0 ∨ mo = 1) ∧ (mo = 1 ↔ ss = 1 ∧ lm = 1 ∧ rs = 0) ∧ ∀ d Q, vd_wp (d + 2) 48 27 [.ref 37, .ref 17, vd_U] [.int (vd_I ss)] (vd_mf M f) Q = vd_wp (d + 2) 48 52 [.ref 37, .ref 17, .int (vd_I ss)] [.int (vd_I mo), .ref 37] (vd_mf M f) Q := by
    rcases ss01 with rfl | rfl
    · refine ⟨0, Or.inl rfl, by omega, fun d Q => ?_⟩
      simp (disch := omega) only [vd_S48_27 hM, vd_S48_51 hM, vd_I_toInt, eq_self, if_true]
    · rcases l01 with rfl | rfl
      · refine ⟨0, Or.inl rfl, by omega, fun d Q => ?_⟩
        simp (disch := omega) only [vd_S48_27 hM, vd_S48_33 hM, vd_S48_51 hM, hl, vd_I_toInt, eq_self, if_true, show ¬ ((1 : Int) = 0) by decide, if_false]
      · rcases r01 with rfl | rfl
        · refine ⟨1, Or.inr rfl, by omega, fun d Q => ?_⟩
          simp (disch := omega) only [vd_S48_27 hM, vd_S48_33 hM, vd_S48_40 hM, vd_S48_47 hM, hl, hr, vd_I_toInt, eq_self, if_true, show ¬ ((1 : Int) = 0) by decide, if_false]
        · refine ⟨0, Or.inl rfl, by omega, fun d Q => ?_⟩
          simp (disch := omega) only [vd_S48_27 hM, vd_S48_33 hM, vd_S48_40 hM, vd_S48_51 hM, hl, hr, vd_I_toInt, show ¬ ((1 : Int) = 0) by decide, if_false]
  have ok1 : vd_fok .boolean (vd_I mo) = true := by rcases mo01 with rfl | rfl <;> decide
  obtain ⟨f1, hf1⟩ : ∃ f1, f1 = vd_up (vd_up f 37 6 (vd_I mo)) 37 5 (vd_I sho) := ⟨_, rfl⟩
  have F1 : ∀ c i, ¬ (c = 37 ∧ (i = 5 ∨ i = 6)) → f1 c i = f c i := fun c i q => by rw [hf1, vd_up_ne (by omega), vd_up_ne (by omega)]
  -- the map
  obtain ⟨f2, m1, m2, e3⟩ : ∃ f2 : Nat → Nat → Int32, (∀ i, i < 576 → f2 42 i = if ow0 = w ∧ oh0 = h ∧ kd = 2 ∧ rs = 0 then f 42 i else vd_I 0) ∧ (∀ c i, c ≠ 42 → f2 c i = f1 c i) ∧ ∀ d Q, vd_wp (d + 2) 48 52 [.ref 37, .ref 17, .int (vd_I ss)] [.int (vd_I mo), .ref 37] (vd_mf M f) Q = vd_wp (d + 2) 48 82 [.ref 37, .ref 17, .int (vd_I ss)] [] (vd_mf M f2) Q := by
    have z := fun d Q => vd_F286 (M := M) (d := d) (Q := Q) (f := f1) (o := 42) (len := 576) (x := vd_I 0) (by decide) hM.k42 hM.l42 (by decide)
    have sh : vd_fok .boolean (f 17 2) = true := by rw [hs]; exact ok2
    have P36 := fun d Q => vd_P36k (f := f1) (d := d) (Q := Q) hM (by rw [F1 17 4 (by omega)]; exact hk) k0 k1 (by rw [F1 17 3 (by omega)]; exact hr) r01
    rcases ss01 with hss | hss
    · refine ⟨vd_uf f1 42 0 576 (vd_I 0), fun i hi => ?_, fun c i q => vd_uf_ne (by omega), fun d Q => ?_⟩
      · rw [vd_uf_in (by omega) hi, if_neg (fun q => by have := ssw.mpr ⟨q.1, q.2.1⟩; omega)]
      · simp (disch := first | assumption | omega) only [vd_S48_52 hM, hs, ← hf1, vd_S48_74 hM, vd_S48_79 hM, z, vd_rs_v, vd_rs_n, hss, vd_I_toInt, eq_self, if_true]
    · have hw1 := ssw.mp hss
      by_cases ca : kd = 2 ∧ rs = 0
      · rw [if_pos ca] at P36
        refine ⟨f1, fun i hi => ?_, fun _ _ _ => rfl, fun d Q => ?_⟩
        · rw [if_pos ⟨hw1.1, hw1.2, ca.1, ca.2⟩, F1 42 i (by omega)]
        · simp (disch := first | assumption | omega) only [vd_S48_52 hM, hs, ← hf1, vd_S48_67 hM, vd_S48_68 hM, P36, vd_rs_v, vd_rs_n, vd_S48_71 hM, hss, vd_I_toInt, show ¬ ((1 : Int) = 0) by decide, if_false, eq_self, if_true]
      · rw [if_neg ca] at P36
        refine ⟨vd_uf f1 42 0 576 (vd_I 0), fun i hi => ?_, fun c i q => vd_uf_ne (by omega), fun d Q => ?_⟩
        · rw [vd_uf_in (by omega) hi, if_neg (fun q => ca ⟨q.2.2.1, q.2.2.2⟩)]
        · simp (disch := first | assumption | omega) only [vd_S48_52 hM, hs, ← hf1, vd_S48_67 hM, vd_S48_68 hM, P36, vd_rs_v, vd_rs_n, vd_S48_71 hM, vd_S48_74 hM, vd_S48_79 hM, z, hss, vd_I_toInt, show ¬ ((1 : Int) = 0) by decide, if_false]
  have g5 : f2 17 5 = vd_I w := by rw [m2 17 5 (by omega), F1 17 5 (by omega)]; exact hw
  have g6 : f2 17 6 = vd_I h := by rw [m2 17 6 (by omega), F1 17 6 (by omega)]; exact hh
  obtain ⟨f3, hf3⟩ : ∃ f3, f3 = vd_up (vd_up (vd_up (vd_up (vd_up f2 37 0 (vd_I w)) 37 1 (vd_I h)) 37 2 (vd_I ((w + 7) / 8))) 37 3 (vd_I ((h + 7) / 8))) 37 4 (vd_I 0) := ⟨_, rfl⟩
  have F3 : ∀ c i, ¬ (c = 37 ∧ i ≤ 4) → f3 c i = f2 c i := fun c i q => by rw [hf3, vd_up_ne (by omega), vd_up_ne (by omega), vd_up_ne (by omega), vd_up_ne (by omega), vd_up_ne (by omega)]
  have z1 := fun d Q => vd_F286 (M := vd_swp M ow fa lo lf) (d := d) (Q := Q) (f := f3) (o := lo) (len := 576) (x := vd_I (-1)) hM'.gow hM'.kow hM'.low (by decide)
  have z2 := fun d Q => vd_F288 (M := vd_swp M ow fa lo lf) (d := d) (Q := Q) (f := vd_uf f3 lo 0 576 (vd_I (-1))) (o := 43) (len := 6912) (x := vd_I 0) (by decide) hM'.k43 hM'.l43 (by decide)
  have zb : (vd_I 0).toInt8.toInt32 = vd_I 0 := by decide
  rw [zb] at z2
  have e4 : ∀ d Q, vd_wp (d + 2) 48 82 [.ref 37, .ref 17, .int (vd_I ss)] [] (vd_mf M f2) Q = Q (vd_mf (vd_swp M ow fa lo lf) (vd_uf (vd_uf f3 lo 0 576 (vd_I (-1))) 43 0 6912 (vd_I 0))) (.inl none) := fun d Q => by
    have d1 : (vd_I w + vd_I 7) / vd_I 8 = vd_I ((w + 7) / 8) := by rw [vd_I_add, vd_I_div (by omega) (by omega) (by omega) (by omega)]
    have d2 : (vd_I h + vd_I 7) / vd_I 8 = vd_I ((h + 7) / 8) := by rw [vd_I_add, vd_I_div (by omega) (by omega) (by omega) (by omega)]
    simp only [vd_S48_82 hM, g5, g6, d1, d2, ← hf3, vd_S48_132 hM, vd_P49 hM, vd_rs_v, vd_rs_n, vd_S48_135 hM', vd_S48_140 hM', z1, vd_S48_143 hM', vd_S48_148 hM', z2, vd_S48_151 hM']
  refine ⟨_, fun d Q => by rw [e1, e2, e3, e4], ⟨?_, ?_, ?_, ?_, ?_, ?_, ?_⟩, fun i hi => ?_, fun i hi => ?_, fun i hi => ?_, fun c i q1 q2 q3 q4 => ?_⟩
  · rw [vd_uf_ne (by omega), vd_uf_ne (by omega), hf3, vd_up_ne (by omega), vd_up_ne (by omega), vd_up_ne (by omega), vd_up_ne (by omega), vd_up_eq]
  · rw [vd_uf_ne (by omega), vd_uf_ne (by omega), hf3, vd_up_ne (by omega), vd_up_ne (by omega), vd_up_ne (by omega), vd_up_eq]
  · rw [vd_uf_ne (by omega), vd_uf_ne (by omega), hf3, vd_up_ne (by omega), vd_up_ne (by omega), vd_up_eq]
  · rw [vd_uf_ne (by omega), vd_uf_ne (by omega), hf3, vd_up_ne (by omega), vd_up_eq]
  · rw [vd_uf_ne (by omega), vd_uf_ne (by omega), hf3, vd_up_eq]
  · rw [vd_uf_ne (by omega), vd_uf_ne (by omega), F3 37 5 (by omega), m2 37 5 (by omega), hf1, vd_up_eq]
  · rw [vd_uf_ne (by omega), vd_uf_ne (by omega), F3 37 6 (by omega), m2 37 6 (by omega), hf1, vd_up_ne (by omega), vd_up_eq]
    congr 1
    split <;> omega
  · rw [vd_uf_ne (by omega), vd_uf_ne (by omega), F3 42 i (by omega), m1 i hi]
  · rw [vd_uf_ne (by omega), vd_uf_in (by omega) hi]
  · rw [vd_uf_in (by omega) hi]
  · rw [vd_uf_ne (by omega), vd_uf_ne (by omega), F3 c i (by omega), m2 c i q2, F1 c i (by omega)]
end VDGN
