/-! ===== models of a frame ===== -/
section VDMD
variable {M N : vd_M} {ow fa lo lf : Nat}
theorem vd_P52b (hM : vd_SC M ow fa lo lf) {f : Nat → Nat → Int32} {bs l : Int} {dl : Nat → Int} (h4 : f 20 4 = vd_I bs) (b0 : 0 ≤ bs ∧ bs ≤ 255) (hd : ∀ j, j < 3 → f 22 j = vd_I (dl j) ∧ -16 ≤ dl j ∧ dl j ≤ 16) (l01 : l = 0 ∨ l = 1) (hl : l = 1 ↔ bs = 0 ∧ ∀ j, j < 3 → dl j = 0) (d : Nat) (Q : vd_M → (Option Value ⊕ Nat) → Prop) : vd_wp d 52 0 [.ref 20] [] (vd_mf M f) Q = Q (vd_mf M f) (.inl (some (.int (vd_I l)))) := by
  obtain ⟨f60, x0⟩ := hd 0 (by decide)
  obtain ⟨f61, x1⟩ := hd 1 (by decide)
  obtain ⟨f62, x2⟩ := hd 2 (by decide)
  have i0 : (0 : Int).toNat = 0 := rfl
  have i1 : (1 : Int).toNat = 1 := rfl
  have i2 : (2 : Int).toNat = 2 := rfl
  have no : ∀ P : Prop, ¬ (bs = 0 ∧ ∀ j, j < 3 → dl j = 0) → l = 0 := fun _ q => by
    rcases l01 with h | h
    · exact h
    · exact absurd (hl.mp h) q
  by_cases c9 : bs = 0
  · by_cases c0 : dl 0 = 0
    · by_cases c1 : dl 1 = 0
      · by_cases c2 : dl 2 = 0
        · have e : l = 1 := hl.mpr ⟨c9, fun j hj => by
            have : j = 0 ∨ j = 1 ∨ j = 2 := by omega
            rcases this with rfl | rfl | rfl
            · exact c0
            · exact c1
            · exact c2⟩
          rw [e]
          simp (disch := first | decide | omega) only [vd_S52_0 hM, vd_S52_7 hM, vd_S52_12 hM, vd_S52_16 hM, vd_S52_21 hM, vd_S52_25 hM, vd_S52_30 hM, vd_S52_34 hM, vd_S52_39 hM, h4, f60, f61, f62, i0, i1, i2, c9, c0, c1, c2, vd_I_toInt, eq_self, if_true]
        · rw [no True (fun q => c2 (q.2 2 (by decide)))]
          simp (disch := first | decide | omega) only [vd_S52_0 hM, vd_S52_7 hM, vd_S52_12 hM, vd_S52_16 hM, vd_S52_21 hM, vd_S52_25 hM, vd_S52_30 hM, vd_S52_38 hM, vd_S52_39 hM, h4, f60, f61, f62, i0, i1, i2, c9, c0, c1, c2, vd_I_toInt, eq_self, if_true, if_false]
      · rw [no True (fun q => c1 (q.2 1 (by decide)))]
        simp (disch := first | decide | omega) only [vd_S52_0 hM, vd_S52_7 hM, vd_S52_12 hM, vd_S52_16 hM, vd_S52_21 hM, vd_S52_38 hM, vd_S52_39 hM, h4, f60, f61, f62, i0, i1, i2, c9, c0, c1, vd_I_toInt, eq_self, if_true, if_false]
    · rw [no True (fun q => c0 (q.2 0 (by decide)))]
      simp (disch := first | decide | omega) only [vd_S52_0 hM, vd_S52_7 hM, vd_S52_12 hM, vd_S52_38 hM, vd_S52_39 hM, h4, f60, f61, f62, i0, i1, i2, c9, c0, vd_I_toInt, eq_self, if_true, if_false]
  · rw [no True (fun q => c9 q.1)]
    simp (disch := first | decide | omega) only [vd_S52_0 hM, vd_S52_38 hM, vd_S52_39 hM, h4, c9, vd_I_toInt, if_false]
theorem vd_P59 (hM : vd_SC M ow fa lo lf) (f : Nat → Nat → Int32) (d : Nat) (Q : vd_M → (Option Value ⊕ Nat) → Prop) : vd_wp (d + 1) 59 0 [.ref 34] [] (vd_mf M f) Q = Q (vd_mf M (vd_up (vd_uf f 36 0 5882 (vd_I 0)) 34 3 (vd_I 0))) (.inl none) := by
  have z := fun d Q => vd_F286 (M := M) (d := d) (Q := Q) (f := f) (o := 36) (len := 5882) (x := vd_I 0) (by decide) hM.k36 hM.l36 (by decide)
  simp only [vd_S59_0 hM, vd_S59_5 hM, z, vd_rs_v, vd_rs_n, vd_S59_8 hM]
/-- contexts afresh or not, the frame's models taken -/
theorem vd_P50a (hM : vd_SC M ow fa lo lf) {f : Nat → Nat → Int32} {rs kd cx : Int} (x1 : Int32) (hr : f 17 3 = vd_I rs) (hk : f 17 4 = vd_I kd) (r01 : rs = 0 ∨ rs = 1) (k0 : 0 ≤ kd) (k1 : kd ≤ 2) (hc : f 17 14 = vd_I cx) (c0 : 0 ≤ cx) (c1 : cx ≤ 3) : ∃ f' : Nat → Nat → Int32, (∀ d Q, vd_wp (d + 4) 50 0 [.ref 10, .int x1] [] (vd_mf M f) Q = vd_wp (d + 4) 50 67 [.ref 10, .int x1] [.int (f' 17 16), .int (f' 17 15), .ref 34] (vd_mf M f') Q) ∧ (∀ i, i < 11764 → f' 14 i = if kd = 2 ∧ rs = 0 then f 14 i else vd_I 128) ∧ (∀ k, k < 2941 → f' 35 k = f' 14 (2941 * cx.toNat + k)) ∧ (∀ c i, c ≠ 14 → c ≠ 35 → f' c i = f c i) := by
  have P36 := fun d Q => vd_P36k (f := f) (d := d) (Q := Q) hM hk k0 k1 hr r01
  obtain ⟨f1, e1, a1, a2⟩ : ∃ f1 : Nat → Nat → Int32, (∀ d Q, vd_wp (d + 4) 50 0 [.ref 10, .int x1] [] (vd_mf M f) Q = vd_wp (d + 4) 50 20 [.ref 10, .int x1] [] (vd_mf M f1) Q) ∧ (∀ i, i < 11764 → f1 14 i = if kd = 2 ∧ rs = 0 then f 14 i else vd_I 128) ∧ (∀ c i, c ≠ 14 → f1 c i = f c i) := by
    by_cases ca : kd = 2 ∧ rs = 0
    · rw [if_pos ca] at P36
      refine ⟨f, fun d Q => ?_, fun i hi => by rw [if_pos ca], fun _ _ _ => rfl⟩
      simp (disch := omega) only [vd_S50_0 hM, vd_S50_4 hM, P36, vd_rs_v, vd_rs_n, vd_S50_7 hM, vd_I_toInt, eq_self, if_true]
    · rw [if_neg ca] at P36
      have z := fun d Q => vd_F286 (M := M) (d := d) (Q := Q) (f := f) (o := 14) (len := 11764) (x := vd_I 128) (by decide) hM.k14 hM.l14 (by decide)
      refine ⟨vd_uf f 14 0 11764 (vd_I 128), fun d Q => ?_, fun i hi => by rw [if_neg ca, vd_uf_in (by omega) hi], fun c i q => vd_uf_ne (by omega)⟩
      simp (disch := omega) only [vd_S50_0 hM, vd_S50_4 hM, P36, vd_rs_v, vd_rs_n, vd_S50_7 hM, vd_S50_10 hM, vd_S50_17 hM, z, vd_I_toInt, show ¬ ((1 : Int) = 0) by decide, if_false]
  have hc1 : f1 17 14 = vd_I cx := by rw [a2 17 14 (by omega)]; exact hc
  have ei : (cx * 2941).toNat = 2941 * cx.toNat := by omega
  have e2 := fun d Q => vd_S50_46 hM x1 2941 0 (cx * 2941) d f1 Q (by decide) (by rw [hM.k14, hM.k35]) (Or.inl hM.k35) (by decide) (by decide) (by omega) (by rw [hM.l14]; omega) (by rw [hM.l35]; decide) (by rw [hM.l14]; decide) (by rw [hM.l35]; decide)
  obtain ⟨f2, hf2⟩ : ∃ f2, f2 = vd_ua f1 35 (va_cpy (f1 14) (f1 35) (cx * 2941).toNat (0 : Int).toNat (2941 : Int).toNat) := ⟨_, rfl⟩
  have F2 : ∀ c i, c ≠ 35 → f2 c i = f1 c i := fun c i q => by rw [hf2, vd_ua_ne q]
  refine ⟨f2, fun d Q => ?_, fun i hi => by rw [F2 14 i (by omega), a1 i hi], fun k hk' => ?_, fun c i q1 q2 => by rw [F2 c i q2, a2 c i q1]⟩
  · rw [e1, vd_S50_20 hM, hc1, vd_I_mul, e2, ← hf2, F2 17 16 (by omega), F2 17 15 (by omega)]
  · rw [F2 14 _ (by omega), hf2, vd_ua_eq]
    unfold va_cpy
    rw [if_pos ⟨by simp, by simp; omega⟩, ei]
    congr 1
/-- the models' bits: from the class's start of the coder to the end of beginModels, from the reference's code to its loop of squares -/
theorem vd_models (hM : vd_SC M ow fa lo lf) (hN : vd_SR N) {f g : Nat → Nat → Int32} {kd bs l at_ ln to : Int} {dl : Nat → Int} (hT : vd_RT f g) (hRM : vd_RM f g) (h15 : f 17 15 = vd_I at_) (h16 : f 17 16 = vd_I (at_ + ln)) (at0 : 0 ≤ at_) (ln1 : 1 ≤ ln) (hto : at_ + ln < to) (to1 : to ≤ 65536) (h75 : g 63 75 = vd_I (8 * to)) (h4 : f 20 4 = vd_I bs) (b0 : 0 ≤ bs ∧ bs ≤ 255) (hd : ∀ j, j < 3 → f 22 j = vd_I (dl j) ∧ -16 ≤ dl j ∧ dl j ≤ 16) (l01 : l = 0 ∨ l = 1) (hl : l = 1 ↔ bs = 0 ∧ ∀ j, j < 3 → dl j = 0) (h35 : g 63 35 = vd_I l) (hk : f 17 4 = vd_I kd) (k0 : 0 ≤ kd) (k1 : kd ≤ 2) (h33 : g 63 33 = vd_I (if kd = 2 then 0 else 1)) (hsd : kd = 2 → ∀ j, j < 3 → ∃ sd : Int, (sd = 0 ∨ sd = 1) ∧ f 19 j = vd_I sd ∧ g 84 j = vd_I sd) (z81 : ∀ k, k < 2941 → g 81 k = vd_I 0) (z82 : ∀ k, k < 2941 → g 82 k = vd_I 0) (z46 : g 63 46 = vd_I 0) (x3 : Int32) (a4 a5 : Value) : ∃ (f' g' : Nat → Nat → Int32) (tm db : Int), (∀ d Q, vd_wp (d + 4) 50 67 [.ref 10, .int (vd_I to)] [.int (f 17 16), .int (f 17 15), .ref 34] (vd_mf M f) Q = Q (vd_mf M f') (.inl none)) ∧ (∀ x4 d Q, vd_wp (d + 3) 186 196 [.ref 63, .int (vd_I at_), .int (vd_I ln), .int x3, .int x4, a5] [] (vd_mf N g) Q = vd_wp (d + 3) 186 225 [.ref 63, .int (vd_I at_), .int (vd_I ln), .int x3, .int (vd_I 0), a5] [] (vd_mf N g') Q) ∧ (0 ≤ tm ∧ tm ≤ 4 ∧ (l = 1 → tm = 0)) ∧ (0 ≤ db ∧ db ≤ 2) ∧ (f' 17 17 = vd_I tm ∧ f' 17 18 = vd_I (if db = 0 then 0 else 1) ∧ f' 17 19 = vd_I (if db = 2 then 1 else 0)) ∧ (g' 63 44 = vd_I tm ∧ g' 63 45 = vd_I db) ∧ vd_RD 0 f' g' ∧ (∀ c i, ¬ (c = 34 ∧ 3 ≤ i) → ¬ (c = 17 ∧ 17 ≤ i) → c ≠ 35 → c ≠ 36 → f' c i = f c i) ∧ (∀ c i, ¬ (c = 63 ∧ (i = 44 ∨ i = 45 ∨ (91 ≤ i ∧ i ≤ 94))) → c ≠ 80 → g' c i = g c i) := by
  obtain ⟨f1, g1, p1, p2, p3, p4, p5⟩ := vd_cstart hM hN (a := at_) (e := at_ + ln) hT at0 (by omega) (by omega)
  have P52 := fun d Q => vd_P52b (f := f1) (d := d) (Q := Q) (bs := bs) (dl := dl) hM (by rw [p4 20 4 (by omega)]; exact h4) b0 (fun j hj => by rw [p4 22 j (by omega)]; exact hd j hj) l01 hl
  obtain ⟨f2, g2, tm, db, q1, q2, q3, q4, q5, q6, q7, q8, q9⟩ := vd_second hM hN (l := l) (kd := kd) p3 (by decide) l01 (by rw [p5 63 35 (by omega)]; exact h35) (by rw [p4 17 4 (by omega)]; exact hk) k0 k1 (by rw [p5 63 33 (by omega)]; exact h33) (fun q j hj => by
    obtain ⟨sd, x, y, z⟩ := hsd q j hj
    exact ⟨sd, x, by rw [p4 19 j (by omega)]; exact y, by rw [p5 84 j (by omega)]; exact z⟩)
  have RM2 : vd_RM f2 g2 := fun k hk' => by
    rw [q8 35 k (by omega) (by omega), q9 80 k (by omega), p4 35 k (by omega), p5 80 k (by omega)]
    exact hRM k hk'
  obtain ⟨f3, g3, r1, r2, r3, r4, r5, r6⟩ := vd_chgLoop hM hN 2941 (0 + 5) f2 g2 0 vd_U rfl (by decide) q7 RM2
  obtain ⟨f4, hf4⟩ : ∃ f4, f4 = vd_up (vd_uf f3 36 0 5882 (vd_I 0)) 34 3 (vd_I 0) := ⟨_, rfl⟩
  have F4 : ∀ c i, ¬ (c = 36 ∧ i < 5882) → ¬ (c = 34 ∧ i = 3) → f4 c i = f3 c i := fun c i a b => by rw [hf4, vd_up_ne (by omega), vd_uf_ne (by omega)]
  have T4 : vd_RT f4 g3 := fun i hi => by rw [F4 11 i (by omega) (by omega)]; exact r3.1 i hi
  obtain ⟨f5, g5, s1, s2, s3, s4, s5⟩ := vd_cstart hM hN (a := at_ + ln) (e := to) T4 (by omega) hto to1
  have FF : ∀ c i, ¬ (c = 34 ∧ 3 ≤ i) → ¬ (c = 17 ∧ 17 ≤ i) → c ≠ 35 → c ≠ 36 → f5 c i = f c i := fun c i a b x y => by rw [s4 c i (by omega), F4 c i (by omega) (by omega), r5 c i (by omega) x, q8 c i (by omega) b, p4 c i (by omega)]
  have GG : ∀ c i, ¬ (c = 63 ∧ (i = 44 ∨ i = 45 ∨ (91 ≤ i ∧ i ≤ 94))) → c ≠ 80 → g5 c i = g c i := fun c i a b => by rw [s5 c i (by omega), r6 c i (by omega) b, q9 c i a, p5 c i (by omega)]
  refine ⟨f5, g5, tm, db, fun d Q => ?_, fun x4 d Q => ?_, q3, q4, ⟨?_, ?_, ?_⟩, ⟨?_, ?_⟩, ⟨s3.1, s3.2, ?_, ?_, ?_⟩, FF, GG⟩
  · rw [h15, h16]
    have e16 : f4 17 16 = vd_I (at_ + ln) := by rw [F4 17 16 (by omega) (by omega), r5 17 16 (by omega) (by omega), q8 17 16 (by omega) (by omega), p4 17 16 (by omega)]; exact h16
    have c0 : vd_wp (d + 3) 56 0 [.ref 34, vd_U] [] (vd_mf M f2) = vd_wp (d + 3) 56 2 [.ref 34, .int (vd_I ((0 : Nat) : Int))] [] (vd_mf M f2) := by
      funext Q
      rw [vd_S56_0 hM]
      rfl
    simp only [vd_S50_67 hM, p1, vd_rs_v, vd_rs_n, vd_S50_70 hM, vd_S50_82 hM, P52, vd_S50_85 hM, q1, vd_S50_88 hM, vd_S50_92 hM, c0, r1, vd_S50_95 hM, vd_S50_99 hM, vd_P59 hM, ← hf4, vd_S50_102 hM, e16, vd_S50_114 hM, s1, vd_S50_117 hM]
  · have e75 : g3 63 75 / vd_I 8 = vd_I to := by
      rw [r6 63 75 (by omega) (by omega), q9 63 75 (by omega), p5 63 75 (by omega), h75, vd_I_div (by omega) (by omega) (by omega) (by omega)]
      congr 1
      omega
    have c0 : ∀ Q, vd_wp (d + 2) 191 111 [.ref 63, vd_U, vd_U] [] (vd_mf N g2) Q = Q (vd_mf N g3) (.inl none) := fun Q => by
      rw [vd_S191_111 hN]
      exact r2 d Q
    simp only [vd_S186_196 hN, vd_S186_201 hN, vd_I_add, p2, vd_rs_v, vd_rs_n, vd_S186_204 hN, vd_S186_205 hN, q2, c0, vd_S186_208 hN, e75, vd_S186_219 hN, s2, vd_S186_222 hN]
  · rw [s4 17 17 (by omega), F4 17 17 (by omega) (by omega), r5 17 17 (by omega) (by omega)]; exact q5.1
  · rw [s4 17 18 (by omega), F4 17 18 (by omega) (by omega), r5 17 18 (by omega) (by omega)]; exact q5.2.1
  · rw [s4 17 19 (by omega), F4 17 19 (by omega) (by omega), r5 17 19 (by omega) (by omega)]; exact q5.2.2
  · rw [s5 63 44 (by omega), r6 63 44 (by omega) (by omega)]; exact q6.1
  · rw [s5 63 45 (by omega), r6 63 45 (by omega) (by omega)]; exact q6.2
  · intro k hk'
    rw [s4 35 k (by omega), F4 35 k (by omega) (by omega), s5 80 k (by omega)]
    exact r4 k hk'
  · intro k hk'
    have a1 : f5 36 (2 * k) = vd_I 0 := by rw [s4 36 _ (by omega), hf4, vd_up_ne (by omega), vd_uf_in (by omega) (by omega)]
    have a2 : f5 36 (2 * k + 1) = vd_I 0 := by rw [s4 36 _ (by omega), hf4, vd_up_ne (by omega), vd_uf_in (by omega) (by omega)]
    have b1 : g5 81 k = vd_I 0 := by rw [GG 81 k (by omega) (by omega)]; exact z81 k hk'
    have b2 : g5 82 k = vd_I 0 := by rw [GG 82 k (by omega) (by omega)]; exact z82 k hk'
    exact ⟨by rw [a1, b1], by rw [a2, b2], 0, 0, a1, a2, by decide, by decide, by decide⟩
  · have a1 : f5 34 3 = vd_I 0 := by rw [s4 34 3 (by omega), hf4, vd_up_eq]
    have b1 : g5 63 46 = vd_I 0 := by rw [GG 63 46 (by omega) (by omega)]; exact z46
    exact ⟨by rw [a1, b1], 0, a1, by decide, by decide⟩
end VDMD
