/-! ===== settings copied ===== -/
theorem vd_ua_ne {f : Nat → Nat → Int32} {o : Nat} {g : Nat → Int32} {a b : Nat} (h : a ≠ o) : vd_ua f o g a b = f a b := by rw [vd_ua_at, if_neg h]
theorem vd_ua_eq (f : Nat → Nat → Int32) (o : Nat) (g : Nat → Int32) (b : Nat) : vd_ua f o g o b = g b := by rw [vd_ua_at, if_pos rfl]
theorem vd_cpy_in {f g : Nat → Int32} {n i : Nat} (h : i < n) : va_cpy f g (0 : Int).toNat (0 : Int).toNat n i = f i := by
  unfold va_cpy
  rw [if_pos ⟨Nat.zero_le i, by simp; omega⟩]
  congr 1
  simp
theorem vd_cpy_out {f g : Nat → Int32} {n i : Nat} (h : n ≤ i) : va_cpy f g (0 : Int).toNat (0 : Int).toNat n i = g i := by
  unfold va_cpy
  rw [if_neg (by simp; omega)]
section VDCP
variable {M N : vd_M} {ow fa lo lf : Nat}
theorem vd_P28_27 (hM : vd_SC M ow fa lo lf) {f : Nat → Nat → Int32} (h2 : vd_fok .boolean (f 20 2) = true) (h6 : vd_fok .boolean (f 20 6) = true) (h7 : vd_fok .boolean (f 20 7) = true) (h8 : vd_fok .boolean (f 20 8) = true) (h11 : vd_fok .boolean (f 20 11) = true) : ∃ f' : Nat → Nat → Int32, (∀ d Q, vd_wp d 28 0 [.ref 27, .ref 20] [] (vd_mf M f) Q = Q (vd_mf M f') (.inl none)) ∧ (∀ c i, ¬ (27 ≤ c ∧ c ≤ 33) → f' c i = f c i) ∧ (f' 27 0 = f 20 0 ∧ f' 27 1 = f 20 1 ∧ f' 27 2 = f 20 2 ∧ f' 27 4 = f 20 4 ∧ f' 27 6 = f 20 6 ∧ f' 27 7 = f 20 7 ∧ f' 27 8 = f 20 8 ∧ f' 27 11 = f 20 11) ∧ ((∀ i, i < 6 → f' 28 i = f 21 i) ∧ (∀ i, i < 3 → f' 29 i = f 22 i) ∧ (∀ i, i < 7 → f' 30 i = f 23 i) ∧ (∀ i, i < 3 → f' 31 i = f 24 i) ∧ (∀ i, i < 32 → f' 32 i = f 25 i) ∧ (∀ i, i < 32 → f' 33 i = f 26 i)) := by
  have z : ((0 : Nat) : Int) = 0 := rfl
  have k27 := hM.k27
  have k20 := hM.k20
  obtain ⟨f0, e0, A0, B0, B1, B2⟩ : ∃ f1 : Nat → Nat → Int32, (∀ d Q, vd_wp d 28 0 [.ref 27, .ref 20] [] (vd_mf M f) Q = vd_wp d 28 36 [.ref 27, .ref 20] [.int (vd_I 6), .int (vd_I 0), .ref 28, .int (vd_I 0), .ref 21] (vd_mf M f1) Q) ∧ (∀ c i, c ≠ 27 → f1 c i = f c i) ∧ f1 27 0 = f 20 0 ∧ f1 27 1 = f 20 1 ∧ f1 27 2 = f 20 2 := by
    have e := fun d Q => vd_S28_0 hM 27 20 d f Q k20 k27 (by rw [vd_up_ne (by omega), vd_up_ne (by omega)]; exact h2)
    rw [hM.r27_3, hM.r20_3, vd_vr_some, vd_vr_some] at e
    refine ⟨_, e, fun c i q => ?_, ?_, ?_, ?_⟩
    · rw [vd_up_ne (by omega), vd_up_ne (by omega), vd_up_ne (by omega)]
    · rw [vd_up_ne (by omega), vd_up_ne (by omega), vd_up_eq]
    · rw [vd_up_ne (by omega), vd_up_eq, vd_up_ne (by omega)]
    · rw [vd_up_eq, vd_up_ne (by omega), vd_up_ne (by omega)]
  obtain ⟨f1, e1, A1, C1, D1_4⟩ : ∃ fx : Nat → Nat → Int32, (∀ d Q, vd_wp d 28 36 [.ref 27, .ref 20] [.int (vd_I 6), .int (vd_I 0), .ref 28, .int (vd_I 0), .ref 21] (vd_mf M f0) Q = vd_wp d 28 58 [.ref 27, .ref 20] [.int (vd_I 3), .int (vd_I 0), .ref 29, .int (vd_I 0), .ref 22] (vd_mf M fx) Q) ∧ (∀ c i, c ≠ 28 → ¬ (c = 27 ∧ (i = 4)) → fx c i = f0 c i) ∧ (∀ i, i < 6 → fx 28 i = f0 21 i) ∧ fx 27 4 = f0 20 4 := by
    have e := fun d Q => vd_S28_36 hM 27 20 6 0 0 28 21 d f0 Q (by decide) (by rw [hM.k21, hM.k28]) (Or.inl hM.k28) (by decide) (by decide) (by decide) (by rw [hM.l21]; decide) (by rw [hM.l28]; decide) (by rw [hM.l21]; decide) (by rw [hM.l28]; decide) k20 k27
    rw [hM.r27_5, hM.r20_5, vd_vr_some, vd_vr_some] at e
    refine ⟨_, e, fun c i q1 q2 => ?_, fun i hi => ?_, ?_⟩
    · rw [vd_up_ne (by omega), vd_ua_ne q1]
    · rw [vd_up_ne (by omega), vd_ua_eq]
      exact vd_cpy_in hi
    · rw [vd_up_eq, vd_ua_ne (by omega)]
  obtain ⟨f2, e2, A2, C2, D2_6, D2_7, D2_8⟩ : ∃ fx : Nat → Nat → Int32, (∀ d Q, vd_wp d 28 58 [.ref 27, .ref 20] [.int (vd_I 3), .int (vd_I 0), .ref 29, .int (vd_I 0), .ref 22] (vd_mf M f1) Q = vd_wp d 28 97 [.ref 27, .ref 20] [.int (vd_I 7), .int (vd_I 0), .ref 30, .int (vd_I 0), .ref 23] (vd_mf M fx) Q) ∧ (∀ c i, c ≠ 29 → ¬ (c = 27 ∧ (i = 6 ∨ i = 7 ∨ i = 8)) → fx c i = f1 c i) ∧ (∀ i, i < 3 → fx 29 i = f1 22 i) ∧ fx 27 6 = f1 20 6 ∧ fx 27 7 = f1 20 7 ∧ fx 27 8 = f1 20 8 := by
    have e := fun d Q => vd_S28_58 hM 27 20 3 0 0 29 22 d f1 Q (by decide) (by rw [hM.k22, hM.k29]) (Or.inl hM.k29) (by decide) (by decide) (by decide) (by rw [hM.l22]; decide) (by rw [hM.l29]; decide) (by rw [hM.l22]; decide) (by rw [hM.l29]; decide) k20 k27 (by rw [vd_ua_ne (by omega), A1 20 6 (by omega) (by omega), A0 20 6 (by omega)]; exact h6) (by rw [vd_up_ne (by omega), vd_ua_ne (by omega), A1 20 7 (by omega) (by omega), A0 20 7 (by omega)]; exact h7) (by rw [vd_up_ne (by omega), vd_up_ne (by omega), vd_ua_ne (by omega), A1 20 8 (by omega) (by omega), A0 20 8 (by omega)]; exact h8)
    rw [hM.r27_9, hM.r20_9, vd_vr_some, vd_vr_some] at e
    refine ⟨_, e, fun c i q1 q2 => ?_, fun i hi => ?_, ?_, ?_, ?_⟩
    · rw [vd_up_ne (by omega), vd_up_ne (by omega), vd_up_ne (by omega), vd_ua_ne q1]
    · rw [vd_up_ne (by omega), vd_up_ne (by omega), vd_up_ne (by omega), vd_ua_eq]
      exact vd_cpy_in hi
    · rw [vd_up_ne (by omega), vd_up_ne (by omega), vd_up_eq, vd_ua_ne (by omega)]
    · rw [vd_up_ne (by omega), vd_up_eq, vd_up_ne (by omega), vd_ua_ne (by omega)]
    · rw [vd_up_eq, vd_up_ne (by omega), vd_up_ne (by omega), vd_ua_ne (by omega)]
  obtain ⟨f3, e3, A3, C3, D3⟩ : ∃ fx : Nat → Nat → Int32, (∀ d Q, vd_wp d 28 97 [.ref 27, .ref 20] [.int (vd_I 7), .int (vd_I 0), .ref 30, .int (vd_I 0), .ref 23] (vd_mf M f2) Q = vd_wp d 28 111 [.ref 27, .ref 20] [.int (vd_I 3), .int (vd_I 0), .ref 31, .int (vd_I 0), .ref 24] (vd_mf M fx) Q) ∧ (∀ c i, c ≠ 30 → True → fx c i = f2 c i) ∧ (∀ i, i < 7 → fx 30 i = f2 23 i) ∧ True := by
    have e := fun d Q => vd_S28_97 hM 27 20 7 0 0 30 23 d f2 Q (by decide) (by rw [hM.k23, hM.k30]) (Or.inl hM.k30) (by decide) (by decide) (by decide) (by rw [hM.l23]; decide) (by rw [hM.l30]; decide) (by rw [hM.l23]; decide) (by rw [hM.l30]; decide) k20 k27
    rw [hM.r27_10, hM.r20_10, vd_vr_some, vd_vr_some] at e
    refine ⟨_, e, fun c i q1 q2 => ?_, fun i hi => ?_, ?_⟩
    · rw [vd_ua_ne q1]
    · rw [vd_ua_eq]
      exact vd_cpy_in hi
    · trivial
  obtain ⟨f4, e4, A4, C4, D4_11⟩ : ∃ fx : Nat → Nat → Int32, (∀ d Q, vd_wp d 28 111 [.ref 27, .ref 20] [.int (vd_I 3), .int (vd_I 0), .ref 31, .int (vd_I 0), .ref 24] (vd_mf M f3) Q = vd_wp d 28 134 [.ref 27, .ref 20] [.int (vd_I 32), .int (vd_I 0), .ref 32, .int (vd_I 0), .ref 25] (vd_mf M fx) Q) ∧ (∀ c i, c ≠ 31 → ¬ (c = 27 ∧ (i = 11)) → fx c i = f3 c i) ∧ (∀ i, i < 3 → fx 31 i = f3 24 i) ∧ fx 27 11 = f3 20 11 := by
    have e := fun d Q => vd_S28_111 hM 27 20 3 0 0 31 24 d f3 Q (by decide) (by rw [hM.k24, hM.k31]) (Or.inl hM.k31) (by decide) (by decide) (by decide) (by rw [hM.l24]; decide) (by rw [hM.l31]; decide) (by rw [hM.l24]; decide) (by rw [hM.l31]; decide) k20 k27 (by rw [vd_ua_ne (by omega), A3 20 11 (by omega) (by omega), A2 20 11 (by omega) (by omega), A1 20 11 (by omega) (by omega), A0 20 11 (by omega)]; exact h11)
    rw [hM.r27_12, hM.r20_12, vd_vr_some, vd_vr_some] at e
    refine ⟨_, e, fun c i q1 q2 => ?_, fun i hi => ?_, ?_⟩
    · rw [vd_up_ne (by omega), vd_ua_ne q1]
    · rw [vd_up_ne (by omega), vd_ua_eq]
      exact vd_cpy_in hi
    · rw [vd_up_eq, vd_ua_ne (by omega)]
  obtain ⟨f5, e5, A5, C5, D5⟩ : ∃ fx : Nat → Nat → Int32, (∀ d Q, vd_wp d 28 134 [.ref 27, .ref 20] [.int (vd_I 32), .int (vd_I 0), .ref 32, .int (vd_I 0), .ref 25] (vd_mf M f4) Q = vd_wp d 28 149 [.ref 27, .ref 20] [.int (vd_I 32), .int (vd_I 0), .ref 33, .int (vd_I 0), .ref 26] (vd_mf M fx) Q) ∧ (∀ c i, c ≠ 32 → True → fx c i = f4 c i) ∧ (∀ i, i < 32 → fx 32 i = f4 25 i) ∧ True := by
    have e := fun d Q => vd_S28_134 hM 27 20 32 0 0 32 25 d f4 Q (by decide) (by rw [hM.k25, hM.k32]) (Or.inl hM.k32) (by decide) (by decide) (by decide) (by rw [hM.l25]; decide) (by rw [hM.l32]; decide) (by rw [hM.l25]; decide) (by rw [hM.l32]; decide) k20 k27
    rw [hM.r27_13, hM.r20_13, vd_vr_some, vd_vr_some] at e
    refine ⟨_, e, fun c i q1 q2 => ?_, fun i hi => ?_, ?_⟩
    · rw [vd_ua_ne q1]
    · rw [vd_ua_eq]
      exact vd_cpy_in hi
    · trivial
  obtain ⟨f6, e6, A6, C6, D6⟩ : ∃ fx : Nat → Nat → Int32, (∀ d Q, vd_wp d 28 149 [.ref 27, .ref 20] [.int (vd_I 32), .int (vd_I 0), .ref 33, .int (vd_I 0), .ref 26] (vd_mf M f5) Q = Q (vd_mf M fx) (.inl none)) ∧ (∀ c i, c ≠ 33 → True → fx c i = f5 c i) ∧ (∀ i, i < 32 → fx 33 i = f5 26 i) ∧ True := by
    have e := fun d Q => vd_S28_149 hM 27 20 32 0 0 33 26 d f5 Q (by decide) (by rw [hM.k26, hM.k33]) (Or.inl hM.k33) (by decide) (by decide) (by decide) (by rw [hM.l26]; decide) (by rw [hM.l33]; decide) (by rw [hM.l26]; decide) (by rw [hM.l33]; decide)
    refine ⟨_, e, fun c i q1 q2 => ?_, fun i hi => ?_, ?_⟩
    · rw [vd_ua_ne q1]
    · rw [vd_ua_eq]
      exact vd_cpy_in hi
    · trivial
  refine ⟨f6, fun d Q => by rw [e0, e1, e2, e3, e4, e5, e6], fun c i q => ?_, ⟨?_, ?_, ?_, ?_, ?_, ?_, ?_, ?_⟩, fun i hi => ?_, fun i hi => ?_, fun i hi => ?_, fun i hi => ?_, fun i hi => ?_, fun i hi => ?_⟩
  · rw [A6 c i (by omega) trivial, A5 c i (by omega) trivial, A4 c i (by omega) (by omega), A3 c i (by omega) trivial, A2 c i (by omega) (by omega), A1 c i (by omega) (by omega), A0 c i (by omega)]
  · rw [A6 27 0 (by omega) trivial, A5 27 0 (by omega) trivial, A4 27 0 (by omega) (by omega), A3 27 0 (by omega) trivial, A2 27 0 (by omega) (by omega), A1 27 0 (by omega) (by omega)]; exact B0
  · rw [A6 27 1 (by omega) trivial, A5 27 1 (by omega) trivial, A4 27 1 (by omega) (by omega), A3 27 1 (by omega) trivial, A2 27 1 (by omega) (by omega), A1 27 1 (by omega) (by omega)]; exact B1
  · rw [A6 27 2 (by omega) trivial, A5 27 2 (by omega) trivial, A4 27 2 (by omega) (by omega), A3 27 2 (by omega) trivial, A2 27 2 (by omega) (by omega), A1 27 2 (by omega) (by omega)]; exact B2
  · rw [A6 27 4 (by omega) trivial, A5 27 4 (by omega) trivial, A4 27 4 (by omega) (by omega), A3 27 4 (by omega) trivial, A2 27 4 (by omega) (by omega), D1_4, A0 20 4 (by omega)]
  · rw [A6 27 6 (by omega) trivial, A5 27 6 (by omega) trivial, A4 27 6 (by omega) (by omega), A3 27 6 (by omega) trivial, D2_6, A1 20 6 (by omega) (by omega), A0 20 6 (by omega)]
  · rw [A6 27 7 (by omega) trivial, A5 27 7 (by omega) trivial, A4 27 7 (by omega) (by omega), A3 27 7 (by omega) trivial, D2_7, A1 20 7 (by omega) (by omega), A0 20 7 (by omega)]
  · rw [A6 27 8 (by omega) trivial, A5 27 8 (by omega) trivial, A4 27 8 (by omega) (by omega), A3 27 8 (by omega) trivial, D2_8, A1 20 8 (by omega) (by omega), A0 20 8 (by omega)]
  · rw [A6 27 11 (by omega) trivial, A5 27 11 (by omega) trivial, D4_11, A3 20 11 (by omega) trivial, A2 20 11 (by omega) (by omega), A1 20 11 (by omega) (by omega), A0 20 11 (by omega)]
  · rw [A6 28 i (by omega) trivial, A5 28 i (by omega) trivial, A4 28 i (by omega) (by omega), A3 28 i (by omega) trivial, A2 28 i (by omega) (by omega), C1 i hi, A0 21 i (by omega)]
  · rw [A6 29 i (by omega) trivial, A5 29 i (by omega) trivial, A4 29 i (by omega) (by omega), A3 29 i (by omega) trivial, C2 i hi, A1 22 i (by omega) (by omega), A0 22 i (by omega)]
  · rw [A6 30 i (by omega) trivial, A5 30 i (by omega) trivial, A4 30 i (by omega) (by omega), C3 i hi, A2 23 i (by omega) (by omega), A1 23 i (by omega) (by omega), A0 23 i (by omega)]
  · rw [A6 31 i (by omega) trivial, A5 31 i (by omega) trivial, C4 i hi, A3 24 i (by omega) trivial, A2 24 i (by omega) (by omega), A1 24 i (by omega) (by omega), A0 24 i (by omega)]
  · rw [A6 32 i (by omega) trivial, C5 i hi, A4 25 i (by omega) (by omega), A3 25 i (by omega) trivial, A2 25 i (by omega) (by omega), A1 25 i (by omega) (by omega), A0 25 i (by omega)]
  · rw [C6 i hi, A5 26 i (by omega) trivial, A4 26 i (by omega) (by omega), A3 26 i (by omega) trivial, A2 26 i (by omega) (by omega), A1 26 i (by omega) (by omega), A0 26 i (by omega)]
theorem vd_P28_20 (hM : vd_SC M ow fa lo lf) {f : Nat → Nat → Int32} (h2 : vd_fok .boolean (f 27 2) = true) (h6 : vd_fok .boolean (f 27 6) = true) (h7 : vd_fok .boolean (f 27 7) = true) (h8 : vd_fok .boolean (f 27 8) = true) (h11 : vd_fok .boolean (f 27 11) = true) : ∃ f' : Nat → Nat → Int32, (∀ d Q, vd_wp d 28 0 [.ref 20, .ref 27] [] (vd_mf M f) Q = Q (vd_mf M f') (.inl none)) ∧ (∀ c i, ¬ (20 ≤ c ∧ c ≤ 26) → f' c i = f c i) ∧ (f' 20 0 = f 27 0 ∧ f' 20 1 = f 27 1 ∧ f' 20 2 = f 27 2 ∧ f' 20 4 = f 27 4 ∧ f' 20 6 = f 27 6 ∧ f' 20 7 = f 27 7 ∧ f' 20 8 = f 27 8 ∧ f' 20 11 = f 27 11) ∧ ((∀ i, i < 6 → f' 21 i = f 28 i) ∧ (∀ i, i < 3 → f' 22 i = f 29 i) ∧ (∀ i, i < 7 → f' 23 i = f 30 i) ∧ (∀ i, i < 3 → f' 24 i = f 31 i) ∧ (∀ i, i < 32 → f' 25 i = f 32 i) ∧ (∀ i, i < 32 → f' 26 i = f 33 i)) := by
  have z : ((0 : Nat) : Int) = 0 := rfl
  have k20 := hM.k20
  have k27 := hM.k27
  obtain ⟨f0, e0, A0, B0, B1, B2⟩ : ∃ f1 : Nat → Nat → Int32, (∀ d Q, vd_wp d 28 0 [.ref 20, .ref 27] [] (vd_mf M f) Q = vd_wp d 28 36 [.ref 20, .ref 27] [.int (vd_I 6), .int (vd_I 0), .ref 21, .int (vd_I 0), .ref 28] (vd_mf M f1) Q) ∧ (∀ c i, c ≠ 20 → f1 c i = f c i) ∧ f1 20 0 = f 27 0 ∧ f1 20 1 = f 27 1 ∧ f1 20 2 = f 27 2 := by
    have e := fun d Q => vd_S28_0 hM 20 27 d f Q k27 k20 (by rw [vd_up_ne (by omega), vd_up_ne (by omega)]; exact h2)
    rw [hM.r20_3, hM.r27_3, vd_vr_some, vd_vr_some] at e
    refine ⟨_, e, fun c i q => ?_, ?_, ?_, ?_⟩
    · rw [vd_up_ne (by omega), vd_up_ne (by omega), vd_up_ne (by omega)]
    · rw [vd_up_ne (by omega), vd_up_ne (by omega), vd_up_eq]
    · rw [vd_up_ne (by omega), vd_up_eq, vd_up_ne (by omega)]
    · rw [vd_up_eq, vd_up_ne (by omega), vd_up_ne (by omega)]
  obtain ⟨f1, e1, A1, C1, D1_4⟩ : ∃ fx : Nat → Nat → Int32, (∀ d Q, vd_wp d 28 36 [.ref 20, .ref 27] [.int (vd_I 6), .int (vd_I 0), .ref 21, .int (vd_I 0), .ref 28] (vd_mf M f0) Q = vd_wp d 28 58 [.ref 20, .ref 27] [.int (vd_I 3), .int (vd_I 0), .ref 22, .int (vd_I 0), .ref 29] (vd_mf M fx) Q) ∧ (∀ c i, c ≠ 21 → ¬ (c = 20 ∧ (i = 4)) → fx c i = f0 c i) ∧ (∀ i, i < 6 → fx 21 i = f0 28 i) ∧ fx 20 4 = f0 27 4 := by
    have e := fun d Q => vd_S28_36 hM 20 27 6 0 0 21 28 d f0 Q (by decide) (by rw [hM.k28, hM.k21]) (Or.inl hM.k21) (by decide) (by decide) (by decide) (by rw [hM.l28]; decide) (by rw [hM.l21]; decide) (by rw [hM.l28]; decide) (by rw [hM.l21]; decide) k27 k20
    rw [hM.r20_5, hM.r27_5, vd_vr_some, vd_vr_some] at e
    refine ⟨_, e, fun c i q1 q2 => ?_, fun i hi => ?_, ?_⟩
    · rw [vd_up_ne (by omega), vd_ua_ne q1]
    · rw [vd_up_ne (by omega), vd_ua_eq]
      exact vd_cpy_in hi
    · rw [vd_up_eq, vd_ua_ne (by omega)]
  obtain ⟨f2, e2, A2, C2, D2_6, D2_7, D2_8⟩ : ∃ fx : Nat → Nat → Int32, (∀ d Q, vd_wp d 28 58 [.ref 20, .ref 27] [.int (vd_I 3), .int (vd_I 0), .ref 22, .int (vd_I 0), .ref 29] (vd_mf M f1) Q = vd_wp d 28 97 [.ref 20, .ref 27] [.int (vd_I 7), .int (vd_I 0), .ref 23, .int (vd_I 0), .ref 30] (vd_mf M fx) Q) ∧ (∀ c i, c ≠ 22 → ¬ (c = 20 ∧ (i = 6 ∨ i = 7 ∨ i = 8)) → fx c i = f1 c i) ∧ (∀ i, i < 3 → fx 22 i = f1 29 i) ∧ fx 20 6 = f1 27 6 ∧ fx 20 7 = f1 27 7 ∧ fx 20 8 = f1 27 8 := by
    have e := fun d Q => vd_S28_58 hM 20 27 3 0 0 22 29 d f1 Q (by decide) (by rw [hM.k29, hM.k22]) (Or.inl hM.k22) (by decide) (by decide) (by decide) (by rw [hM.l29]; decide) (by rw [hM.l22]; decide) (by rw [hM.l29]; decide) (by rw [hM.l22]; decide) k27 k20 (by rw [vd_ua_ne (by omega), A1 27 6 (by omega) (by omega), A0 27 6 (by omega)]; exact h6) (by rw [vd_up_ne (by omega), vd_ua_ne (by omega), A1 27 7 (by omega) (by omega), A0 27 7 (by omega)]; exact h7) (by rw [vd_up_ne (by omega), vd_up_ne (by omega), vd_ua_ne (by omega), A1 27 8 (by omega) (by omega), A0 27 8 (by omega)]; exact h8)
    rw [hM.r20_9, hM.r27_9, vd_vr_some, vd_vr_some] at e
    refine ⟨_, e, fun c i q1 q2 => ?_, fun i hi => ?_, ?_, ?_, ?_⟩
    · rw [vd_up_ne (by omega), vd_up_ne (by omega), vd_up_ne (by omega), vd_ua_ne q1]
    · rw [vd_up_ne (by omega), vd_up_ne (by omega), vd_up_ne (by omega), vd_ua_eq]
      exact vd_cpy_in hi
    · rw [vd_up_ne (by omega), vd_up_ne (by omega), vd_up_eq, vd_ua_ne (by omega)]
    · rw [vd_up_ne (by omega), vd_up_eq, vd_up_ne (by omega), vd_ua_ne (by omega)]
    · rw [vd_up_eq, vd_up_ne (by omega), vd_up_ne (by omega), vd_ua_ne (by omega)]
  obtain ⟨f3, e3, A3, C3, D3⟩ : ∃ fx : Nat → Nat → Int32, (∀ d Q, vd_wp d 28 97 [.ref 20, .ref 27] [.int (vd_I 7), .int (vd_I 0), .ref 23, .int (vd_I 0), .ref 30] (vd_mf M f2) Q = vd_wp d 28 111 [.ref 20, .ref 27] [.int (vd_I 3), .int (vd_I 0), .ref 24, .int (vd_I 0), .ref 31] (vd_mf M fx) Q) ∧ (∀ c i, c ≠ 23 → True → fx c i = f2 c i) ∧ (∀ i, i < 7 → fx 23 i = f2 30 i) ∧ True := by
    have e := fun d Q => vd_S28_97 hM 20 27 7 0 0 23 30 d f2 Q (by decide) (by rw [hM.k30, hM.k23]) (Or.inl hM.k23) (by decide) (by decide) (by decide) (by rw [hM.l30]; decide) (by rw [hM.l23]; decide) (by rw [hM.l30]; decide) (by rw [hM.l23]; decide) k27 k20
    rw [hM.r20_10, hM.r27_10, vd_vr_some, vd_vr_some] at e
    refine ⟨_, e, fun c i q1 q2 => ?_, fun i hi => ?_, ?_⟩
    · rw [vd_ua_ne q1]
    · rw [vd_ua_eq]
      exact vd_cpy_in hi
    · trivial
  obtain ⟨f4, e4, A4, C4, D4_11⟩ : ∃ fx : Nat → Nat → Int32, (∀ d Q, vd_wp d 28 111 [.ref 20, .ref 27] [.int (vd_I 3), .int (vd_I 0), .ref 24, .int (vd_I 0), .ref 31] (vd_mf M f3) Q = vd_wp d 28 134 [.ref 20, .ref 27] [.int (vd_I 32), .int (vd_I 0), .ref 25, .int (vd_I 0), .ref 32] (vd_mf M fx) Q) ∧ (∀ c i, c ≠ 24 → ¬ (c = 20 ∧ (i = 11)) → fx c i = f3 c i) ∧ (∀ i, i < 3 → fx 24 i = f3 31 i) ∧ fx 20 11 = f3 27 11 := by
    have e := fun d Q => vd_S28_111 hM 20 27 3 0 0 24 31 d f3 Q (by decide) (by rw [hM.k31, hM.k24]) (Or.inl hM.k24) (by decide) (by decide) (by decide) (by rw [hM.l31]; decide) (by rw [hM.l24]; decide) (by rw [hM.l31]; decide) (by rw [hM.l24]; decide) k27 k20 (by rw [vd_ua_ne (by omega), A3 27 11 (by omega) (by omega), A2 27 11 (by omega) (by omega), A1 27 11 (by omega) (by omega), A0 27 11 (by omega)]; exact h11)
    rw [hM.r20_12, hM.r27_12, vd_vr_some, vd_vr_some] at e
    refine ⟨_, e, fun c i q1 q2 => ?_, fun i hi => ?_, ?_⟩
    · rw [vd_up_ne (by omega), vd_ua_ne q1]
    · rw [vd_up_ne (by omega), vd_ua_eq]
      exact vd_cpy_in hi
    · rw [vd_up_eq, vd_ua_ne (by omega)]
  obtain ⟨f5, e5, A5, C5, D5⟩ : ∃ fx : Nat → Nat → Int32, (∀ d Q, vd_wp d 28 134 [.ref 20, .ref 27] [.int (vd_I 32), .int (vd_I 0), .ref 25, .int (vd_I 0), .ref 32] (vd_mf M f4) Q = vd_wp d 28 149 [.ref 20, .ref 27] [.int (vd_I 32), .int (vd_I 0), .ref 26, .int (vd_I 0), .ref 33] (vd_mf M fx) Q) ∧ (∀ c i, c ≠ 25 → True → fx c i = f4 c i) ∧ (∀ i, i < 32 → fx 25 i = f4 32 i) ∧ True := by
    have e := fun d Q => vd_S28_134 hM 20 27 32 0 0 25 32 d f4 Q (by decide) (by rw [hM.k32, hM.k25]) (Or.inl hM.k25) (by decide) (by decide) (by decide) (by rw [hM.l32]; decide) (by rw [hM.l25]; decide) (by rw [hM.l32]; decide) (by rw [hM.l25]; decide) k27 k20
    rw [hM.r20_13, hM.r27_13, vd_vr_some, vd_vr_some] at e
    refine ⟨_, e, fun c i q1 q2 => ?_, fun i hi => ?_, ?_⟩
    · rw [vd_ua_ne q1]
    · rw [vd_ua_eq]
      exact vd_cpy_in hi
    · trivial
  obtain ⟨f6, e6, A6, C6, D6⟩ : ∃ fx : Nat → Nat → Int32, (∀ d Q, vd_wp d 28 149 [.ref 20, .ref 27] [.int (vd_I 32), .int (vd_I 0), .ref 26, .int (vd_I 0), .ref 33] (vd_mf M f5) Q = Q (vd_mf M fx) (.inl none)) ∧ (∀ c i, c ≠ 26 → True → fx c i = f5 c i) ∧ (∀ i, i < 32 → fx 26 i = f5 33 i) ∧ True := by
    have e := fun d Q => vd_S28_149 hM 20 27 32 0 0 26 33 d f5 Q (by decide) (by rw [hM.k33, hM.k26]) (Or.inl hM.k26) (by decide) (by decide) (by decide) (by rw [hM.l33]; decide) (by rw [hM.l26]; decide) (by rw [hM.l33]; decide) (by rw [hM.l26]; decide)
    refine ⟨_, e, fun c i q1 q2 => ?_, fun i hi => ?_, ?_⟩
    · rw [vd_ua_ne q1]
    · rw [vd_ua_eq]
      exact vd_cpy_in hi
    · trivial
  refine ⟨f6, fun d Q => by rw [e0, e1, e2, e3, e4, e5, e6], fun c i q => ?_, ⟨?_, ?_, ?_, ?_, ?_, ?_, ?_, ?_⟩, fun i hi => ?_, fun i hi => ?_, fun i hi => ?_, fun i hi => ?_, fun i hi => ?_, fun i hi => ?_⟩
  · rw [A6 c i (by omega) trivial, A5 c i (by omega) trivial, A4 c i (by omega) (by omega), A3 c i (by omega) trivial, A2 c i (by omega) (by omega), A1 c i (by omega) (by omega), A0 c i (by omega)]
  · rw [A6 20 0 (by omega) trivial, A5 20 0 (by omega) trivial, A4 20 0 (by omega) (by omega), A3 20 0 (by omega) trivial, A2 20 0 (by omega) (by omega), A1 20 0 (by omega) (by omega)]; exact B0
  · rw [A6 20 1 (by omega) trivial, A5 20 1 (by omega) trivial, A4 20 1 (by omega) (by omega), A3 20 1 (by omega) trivial, A2 20 1 (by omega) (by omega), A1 20 1 (by omega) (by omega)]; exact B1
  · rw [A6 20 2 (by omega) trivial, A5 20 2 (by omega) trivial, A4 20 2 (by omega) (by omega), A3 20 2 (by omega) trivial, A2 20 2 (by omega) (by omega), A1 20 2 (by omega) (by omega)]; exact B2
  · rw [A6 20 4 (by omega) trivial, A5 20 4 (by omega) trivial, A4 20 4 (by omega) (by omega), A3 20 4 (by omega) trivial, A2 20 4 (by omega) (by omega), D1_4, A0 27 4 (by omega)]
  · rw [A6 20 6 (by omega) trivial, A5 20 6 (by omega) trivial, A4 20 6 (by omega) (by omega), A3 20 6 (by omega) trivial, D2_6, A1 27 6 (by omega) (by omega), A0 27 6 (by omega)]
  · rw [A6 20 7 (by omega) trivial, A5 20 7 (by omega) trivial, A4 20 7 (by omega) (by omega), A3 20 7 (by omega) trivial, D2_7, A1 27 7 (by omega) (by omega), A0 27 7 (by omega)]
  · rw [A6 20 8 (by omega) trivial, A5 20 8 (by omega) trivial, A4 20 8 (by omega) (by omega), A3 20 8 (by omega) trivial, D2_8, A1 27 8 (by omega) (by omega), A0 27 8 (by omega)]
  · rw [A6 20 11 (by omega) trivial, A5 20 11 (by omega) trivial, D4_11, A3 27 11 (by omega) trivial, A2 27 11 (by omega) (by omega), A1 27 11 (by omega) (by omega), A0 27 11 (by omega)]
  · rw [A6 21 i (by omega) trivial, A5 21 i (by omega) trivial, A4 21 i (by omega) (by omega), A3 21 i (by omega) trivial, A2 21 i (by omega) (by omega), C1 i hi, A0 28 i (by omega)]
  · rw [A6 22 i (by omega) trivial, A5 22 i (by omega) trivial, A4 22 i (by omega) (by omega), A3 22 i (by omega) trivial, C2 i hi, A1 29 i (by omega) (by omega), A0 29 i (by omega)]
  · rw [A6 23 i (by omega) trivial, A5 23 i (by omega) trivial, A4 23 i (by omega) (by omega), C3 i hi, A2 30 i (by omega) (by omega), A1 30 i (by omega) (by omega), A0 30 i (by omega)]
  · rw [A6 24 i (by omega) trivial, A5 24 i (by omega) trivial, C4 i hi, A3 31 i (by omega) trivial, A2 31 i (by omega) (by omega), A1 31 i (by omega) (by omega), A0 31 i (by omega)]
  · rw [A6 25 i (by omega) trivial, C5 i hi, A4 32 i (by omega) (by omega), A3 32 i (by omega) trivial, A2 32 i (by omega) (by omega), A1 32 i (by omega) (by omega), A0 32 i (by omega)]
  · rw [C6 i hi, A5 33 i (by omega) trivial, A4 33 i (by omega) (by omega), A3 33 i (by omega) trivial, A2 33 i (by omega) (by omega), A1 33 i (by omega) (by omega), A0 33 i (by omega)]
end VDCP
