/-! ===== the start of the law put together: the reference ===== -/
section VDSU
variable (L : Nat) (xs : Nat → Int32)
set_option maxRecDepth 20000 in
theorem vd_k67 (q : Nat) (hq : q < 4) : vd_r (vd_KM35 L xs) 67 q = some (67 + 1 + q) ∧ vd_k (vd_KM35 L xs) (67 + 1 + q) = 32 ∧ vd_l (vd_KM35 L xs) (67 + 1 + q) = 2941 := by
  have h : q = 0 ∨ q = 1 ∨ q = 2 ∨ q = 3 := by omega
  rcases h with rfl | rfl | rfl | rfl
  · exact ⟨rfl, rfl, rfl⟩
  · exact ⟨rfl, rfl, rfl⟩
  · exact ⟨rfl, rfl, rfl⟩
  · exact ⟨rfl, rfl, rfl⟩
set_option maxRecDepth 20000 in
theorem vd_ct165_0 {f : Nat → Nat → Int32} (hz : vd_Zi 184 f) : ∃ f' : Nat → Nat → Int32, (∀ d Q, vd_wp d 165 0 [.ref 63, .int (vd_I 0), vd_U, vd_U, vd_U, vd_U, vd_U, vd_U, vd_U, vd_U] [] (vd_mf (vd_KM35 L xs) f) Q = Q (vd_mf (vd_KM40 L xs) f') (.inl none)) ∧ vd_Zi 188 f' ∧ ((∀ i, i < 4 * 4 → f' 184 i = vd_I ((vd_sZ 4 (vd_wX 0) (vd_wY 0) (8 * 4) i : Nat) : Int)) ∧ (∀ i, i < 8 * 8 → f' 185 i = vd_I ((vd_sZ 8 (vd_wX 0) (vd_wY 0) (16 * 8) i : Nat) : Int)) ∧ (∀ i, i < 16 * 16 → f' 186 i = vd_I ((vd_sZ 16 (vd_wX 0) (vd_wY 0) (32 * 16) i : Nat) : Int)) ∧ (∀ i, i < 32 * 32 → f' 187 i = vd_I ((vd_sZ 32 (vd_wX 0) (vd_wY 0) (64 * 32) i : Nat) : Int))) ∧ (∀ c i, c < 184 → c ≠ 8 → f' c i = f c i) := by
  obtain ⟨g1, hg1⟩ : ∃ g, g = (vd_nz0 f 184) := ⟨_, rfl⟩
  have F_vd_C165_00 := vd_C165_00_f f
  rw [← hg1] at F_vd_C165_00
  have e_vd_C165_00 := fun (d : Nat) Q => vd_C165_00 L xs d f Q
  rw [← hg1] at e_vd_C165_00
  have z_g1 := F_vd_C165_00.1 hz
  obtain ⟨g2, a0, s0, c0⟩ := vd_scanR (M := vd_KM36 L xs) (o := 63) (s := 0) (oc := 184) (sort := 0) (n := 4) (most := 8) (by decide) rfl rfl (by decide) (by decide) (vd_n4_1_1_32) (by decide) g1 vd_U vd_U
  have z_g2 : vd_Zi 185 g2 := vd_Zi.fill z_g1 (o := 184) (fun i => by unfold vd_sp; omega) (fun c i q => c0 c i (by omega))
  have w0 : ∀ d Q, vd_wp d 165 39 [.ref 63, .int (vd_I 0), .int (vd_I 0), .int (vd_I 4), .ref 184, .int (vd_I 0), .int (vd_I 8), .int (vd_I 0), vd_U, vd_U] [] (vd_mf (vd_KM36 L xs) g1) Q = vd_wp d 165 136 [.ref 63, .int (vd_I 0), .int (vd_I 0), .int (vd_I 4), .ref 184, .int (vd_I 16), .int (vd_I 8), .int (vd_I 8), .int (vd_I 4), .int (vd_I 4)] [] (vd_mf (vd_KM36 L xs) g2) Q := a0
  obtain ⟨g3, hg3⟩ : ∃ g, g = (vd_nz0 g2 185) := ⟨_, rfl⟩
  have F_vd_C165_01 := vd_C165_01_f g2
  rw [← hg3] at F_vd_C165_01
  have e_vd_C165_01 := fun (d : Nat) Q => vd_C165_01 L xs (vd_I 16) d g2 Q
  rw [← hg3] at e_vd_C165_01
  have z_g3 := F_vd_C165_01.1 z_g2
  obtain ⟨g4, a1, s1, c1⟩ := vd_scanR (M := vd_KM37 L xs) (o := 63) (s := 1) (oc := 185) (sort := 0) (n := 8) (most := 16) (by decide) rfl rfl (by decide) (by decide) (vd_n8_1_1_128) (by decide) g3 (.int (vd_I 4)) (.int (vd_I 4))
  have z_g4 : vd_Zi 186 g4 := vd_Zi.fill z_g3 (o := 185) (fun i => by unfold vd_sp; omega) (fun c i q => c1 c i (by omega))
  have w1 : ∀ d Q, vd_wp d 165 39 [.ref 63, .int (vd_I 0), .int (vd_I 1), .int (vd_I 8), .ref 185, .int (vd_I 0), .int (vd_I 16), .int (vd_I 0), .int (vd_I 4), .int (vd_I 4)] [] (vd_mf (vd_KM37 L xs) g3) Q = vd_wp d 165 136 [.ref 63, .int (vd_I 0), .int (vd_I 1), .int (vd_I 8), .ref 185, .int (vd_I 64), .int (vd_I 16), .int (vd_I 16), .int (vd_I 8), .int (vd_I 8)] [] (vd_mf (vd_KM37 L xs) g4) Q := a1
  obtain ⟨g5, hg5⟩ : ∃ g, g = (vd_nz0 g4 186) := ⟨_, rfl⟩
  have F_vd_C165_02 := vd_C165_02_f g4
  rw [← hg5] at F_vd_C165_02
  have e_vd_C165_02 := fun (d : Nat) Q => vd_C165_02 L xs (vd_I 64) d g4 Q
  rw [← hg5] at e_vd_C165_02
  have z_g5 := F_vd_C165_02.1 z_g4
  obtain ⟨g6, a2, s2, c2⟩ := vd_scanR (M := vd_KM38 L xs) (o := 63) (s := 2) (oc := 186) (sort := 0) (n := 16) (most := 32) (by decide) rfl rfl (by decide) (by decide) (vd_n16_1_1_512) (by decide) g5 (.int (vd_I 8)) (.int (vd_I 8))
  have z_g6 : vd_Zi 187 g6 := vd_Zi.fill z_g5 (o := 186) (fun i => by unfold vd_sp; omega) (fun c i q => c2 c i (by omega))
  have w2 : ∀ d Q, vd_wp d 165 39 [.ref 63, .int (vd_I 0), .int (vd_I 2), .int (vd_I 16), .ref 186, .int (vd_I 0), .int (vd_I 32), .int (vd_I 0), .int (vd_I 8), .int (vd_I 8)] [] (vd_mf (vd_KM38 L xs) g5) Q = vd_wp d 165 136 [.ref 63, .int (vd_I 0), .int (vd_I 2), .int (vd_I 16), .ref 186, .int (vd_I 256), .int (vd_I 32), .int (vd_I 32), .int (vd_I 16), .int (vd_I 16)] [] (vd_mf (vd_KM38 L xs) g6) Q := a2
  obtain ⟨g7, hg7⟩ : ∃ g, g = (vd_nz0 g6 187) := ⟨_, rfl⟩
  have F_vd_C165_03 := vd_C165_03_f g6
  rw [← hg7] at F_vd_C165_03
  have e_vd_C165_03 := fun (d : Nat) Q => vd_C165_03 L xs (vd_I 256) d g6 Q
  rw [← hg7] at e_vd_C165_03
  have z_g7 := F_vd_C165_03.1 z_g6
  obtain ⟨g8, a3, s3, c3⟩ := vd_scanR (M := vd_KM39 L xs) (o := 63) (s := 3) (oc := 187) (sort := 0) (n := 32) (most := 64) (by decide) rfl rfl (by decide) (by decide) (vd_n32_1_1_2048) (by decide) g7 (.int (vd_I 16)) (.int (vd_I 16))
  have z_g8 : vd_Zi 188 g8 := vd_Zi.fill z_g7 (o := 187) (fun i => by unfold vd_sp; omega) (fun c i q => c3 c i (by omega))
  have w3 : ∀ d Q, vd_wp d 165 39 [.ref 63, .int (vd_I 0), .int (vd_I 3), .int (vd_I 32), .ref 187, .int (vd_I 0), .int (vd_I 64), .int (vd_I 0), .int (vd_I 16), .int (vd_I 16)] [] (vd_mf (vd_KM39 L xs) g7) Q = vd_wp d 165 136 [.ref 63, .int (vd_I 0), .int (vd_I 3), .int (vd_I 32), .ref 187, .int (vd_I 1024), .int (vd_I 64), .int (vd_I 64), .int (vd_I 32), .int (vd_I 32)] [] (vd_mf (vd_KM39 L xs) g8) Q := a3
  have e_vd_C165_04 := fun (d : Nat) Q => vd_C165_04 L xs (vd_I 1024) d g8 Q
  refine ⟨g8, fun d Q => ?_, z_g8, ⟨?_, ?_, ?_, ?_⟩, fun c i h1 h2 => by rw [c3 c i (by omega), F_vd_C165_03.2 c i (by omega) (by omega), c2 c i (by omega), F_vd_C165_02.2 c i (by omega) (by omega), c1 c i (by omega), F_vd_C165_01.2 c i (by omega) (by omega), c0 c i (by omega), F_vd_C165_00.2 c i (by omega) (by omega)]⟩
  · simp only [e_vd_C165_00, w0, e_vd_C165_01, w1, e_vd_C165_02, w2, e_vd_C165_03, w3, e_vd_C165_04]
  · intro i hi
    rw [c3 184 i (by omega), F_vd_C165_03.2 184 i (by omega) (by omega), c2 184 i (by omega), F_vd_C165_02.2 184 i (by omega) (by omega), c1 184 i (by omega), F_vd_C165_01.2 184 i (by omega) (by omega)]
    exact s0 i hi
  · intro i hi
    rw [c3 185 i (by omega), F_vd_C165_03.2 185 i (by omega) (by omega), c2 185 i (by omega), F_vd_C165_02.2 185 i (by omega) (by omega)]
    exact s1 i hi
  · intro i hi
    rw [c3 186 i (by omega), F_vd_C165_03.2 186 i (by omega) (by omega)]
    exact s2 i hi
  · intro i hi
    exact s3 i hi
set_option maxRecDepth 20000 in
theorem vd_ct165_1 {f : Nat → Nat → Int32} (hz : vd_Zi 188 f) : ∃ f' : Nat → Nat → Int32, (∀ d Q, vd_wp d 165 0 [.ref 63, .int (vd_I 1), vd_U, vd_U, vd_U, vd_U, vd_U, vd_U, vd_U, vd_U] [] (vd_mf (vd_KM40 L xs) f) Q = Q (vd_mf (vd_KM45 L xs) f') (.inl none)) ∧ vd_Zi 192 f' ∧ ((∀ i, i < 4 * 4 → f' 188 i = vd_I ((vd_sZ 4 (vd_wX 1) (vd_wY 1) (20 * 4) i : Nat) : Int)) ∧ (∀ i, i < 8 * 8 → f' 189 i = vd_I ((vd_sZ 8 (vd_wX 1) (vd_wY 1) (40 * 8) i : Nat) : Int)) ∧ (∀ i, i < 16 * 16 → f' 190 i = vd_I ((vd_sZ 16 (vd_wX 1) (vd_wY 1) (80 * 16) i : Nat) : Int)) ∧ (∀ i, i < 32 * 32 → f' 191 i = vd_I ((vd_sZ 32 (vd_wX 1) (vd_wY 1) (160 * 32) i : Nat) : Int))) ∧ (∀ c i, c < 188 → c ≠ 8 → f' c i = f c i) := by
  obtain ⟨g1, hg1⟩ : ∃ g, g = (vd_nz0 f 188) := ⟨_, rfl⟩
  have F_vd_C165_10 := vd_C165_10_f f
  rw [← hg1] at F_vd_C165_10
  have e_vd_C165_10 := fun (d : Nat) Q => vd_C165_10 L xs d f Q
  rw [← hg1] at e_vd_C165_10
  have z_g1 := F_vd_C165_10.1 hz
  obtain ⟨g2, a0, s0, c0⟩ := vd_scanR (M := vd_KM41 L xs) (o := 63) (s := 0) (oc := 188) (sort := 1) (n := 4) (most := 20) (by decide) rfl rfl (by decide) (by decide) (vd_n4_1_4_80) (by decide) g1 vd_U vd_U
  have z_g2 : vd_Zi 189 g2 := vd_Zi.fill z_g1 (o := 188) (fun i => by unfold vd_sp; omega) (fun c i q => c0 c i (by omega))
  have w0 : ∀ d Q, vd_wp d 165 39 [.ref 63, .int (vd_I 1), .int (vd_I 0), .int (vd_I 4), .ref 188, .int (vd_I 0), .int (vd_I 20), .int (vd_I 0), vd_U, vd_U] [] (vd_mf (vd_KM41 L xs) g1) Q = vd_wp d 165 136 [.ref 63, .int (vd_I 1), .int (vd_I 0), .int (vd_I 4), .ref 188, .int (vd_I 16), .int (vd_I 20), .int (vd_I 20), .int (vd_I 4), .int (vd_I 4)] [] (vd_mf (vd_KM41 L xs) g2) Q := a0
  obtain ⟨g3, hg3⟩ : ∃ g, g = (vd_nz0 g2 189) := ⟨_, rfl⟩
  have F_vd_C165_11 := vd_C165_11_f g2
  rw [← hg3] at F_vd_C165_11
  have e_vd_C165_11 := fun (d : Nat) Q => vd_C165_11 L xs (vd_I 16) d g2 Q
  rw [← hg3] at e_vd_C165_11
  have z_g3 := F_vd_C165_11.1 z_g2
  obtain ⟨g4, a1, s1, c1⟩ := vd_scanR (M := vd_KM42 L xs) (o := 63) (s := 1) (oc := 189) (sort := 1) (n := 8) (most := 40) (by decide) rfl rfl (by decide) (by decide) (vd_n8_1_4_320) (by decide) g3 (.int (vd_I 4)) (.int (vd_I 4))
  have z_g4 : vd_Zi 190 g4 := vd_Zi.fill z_g3 (o := 189) (fun i => by unfold vd_sp; omega) (fun c i q => c1 c i (by omega))
  have w1 : ∀ d Q, vd_wp d 165 39 [.ref 63, .int (vd_I 1), .int (vd_I 1), .int (vd_I 8), .ref 189, .int (vd_I 0), .int (vd_I 40), .int (vd_I 0), .int (vd_I 4), .int (vd_I 4)] [] (vd_mf (vd_KM42 L xs) g3) Q = vd_wp d 165 136 [.ref 63, .int (vd_I 1), .int (vd_I 1), .int (vd_I 8), .ref 189, .int (vd_I 64), .int (vd_I 40), .int (vd_I 40), .int (vd_I 8), .int (vd_I 8)] [] (vd_mf (vd_KM42 L xs) g4) Q := a1
  obtain ⟨g5, hg5⟩ : ∃ g, g = (vd_nz0 g4 190) := ⟨_, rfl⟩
  have F_vd_C165_12 := vd_C165_12_f g4
  rw [← hg5] at F_vd_C165_12
  have e_vd_C165_12 := fun (d : Nat) Q => vd_C165_12 L xs (vd_I 64) d g4 Q
  rw [← hg5] at e_vd_C165_12
  have z_g5 := F_vd_C165_12.1 z_g4
  obtain ⟨g6, a2, s2, c2⟩ := vd_scanR (M := vd_KM43 L xs) (o := 63) (s := 2) (oc := 190) (sort := 1) (n := 16) (most := 80) (by decide) rfl rfl (by decide) (by decide) (vd_n16_1_4_1280) (by decide) g5 (.int (vd_I 8)) (.int (vd_I 8))
  have z_g6 : vd_Zi 191 g6 := vd_Zi.fill z_g5 (o := 190) (fun i => by unfold vd_sp; omega) (fun c i q => c2 c i (by omega))
  have w2 : ∀ d Q, vd_wp d 165 39 [.ref 63, .int (vd_I 1), .int (vd_I 2), .int (vd_I 16), .ref 190, .int (vd_I 0), .int (vd_I 80), .int (vd_I 0), .int (vd_I 8), .int (vd_I 8)] [] (vd_mf (vd_KM43 L xs) g5) Q = vd_wp d 165 136 [.ref 63, .int (vd_I 1), .int (vd_I 2), .int (vd_I 16), .ref 190, .int (vd_I 256), .int (vd_I 80), .int (vd_I 80), .int (vd_I 16), .int (vd_I 16)] [] (vd_mf (vd_KM43 L xs) g6) Q := a2
  obtain ⟨g7, hg7⟩ : ∃ g, g = (vd_nz0 g6 191) := ⟨_, rfl⟩
  have F_vd_C165_13 := vd_C165_13_f g6
  rw [← hg7] at F_vd_C165_13
  have e_vd_C165_13 := fun (d : Nat) Q => vd_C165_13 L xs (vd_I 256) d g6 Q
  rw [← hg7] at e_vd_C165_13
  have z_g7 := F_vd_C165_13.1 z_g6
  obtain ⟨g8, a3, s3, c3⟩ := vd_scanR (M := vd_KM44 L xs) (o := 63) (s := 3) (oc := 191) (sort := 1) (n := 32) (most := 160) (by decide) rfl rfl (by decide) (by decide) (vd_n32_1_4_5120) (by decide) g7 (.int (vd_I 16)) (.int (vd_I 16))
  have z_g8 : vd_Zi 192 g8 := vd_Zi.fill z_g7 (o := 191) (fun i => by unfold vd_sp; omega) (fun c i q => c3 c i (by omega))
  have w3 : ∀ d Q, vd_wp d 165 39 [.ref 63, .int (vd_I 1), .int (vd_I 3), .int (vd_I 32), .ref 191, .int (vd_I 0), .int (vd_I 160), .int (vd_I 0), .int (vd_I 16), .int (vd_I 16)] [] (vd_mf (vd_KM44 L xs) g7) Q = vd_wp d 165 136 [.ref 63, .int (vd_I 1), .int (vd_I 3), .int (vd_I 32), .ref 191, .int (vd_I 1024), .int (vd_I 160), .int (vd_I 160), .int (vd_I 32), .int (vd_I 32)] [] (vd_mf (vd_KM44 L xs) g8) Q := a3
  have e_vd_C165_14 := fun (d : Nat) Q => vd_C165_14 L xs (vd_I 1024) d g8 Q
  refine ⟨g8, fun d Q => ?_, z_g8, ⟨?_, ?_, ?_, ?_⟩, fun c i h1 h2 => by rw [c3 c i (by omega), F_vd_C165_13.2 c i (by omega) (by omega), c2 c i (by omega), F_vd_C165_12.2 c i (by omega) (by omega), c1 c i (by omega), F_vd_C165_11.2 c i (by omega) (by omega), c0 c i (by omega), F_vd_C165_10.2 c i (by omega) (by omega)]⟩
  · simp only [e_vd_C165_10, w0, e_vd_C165_11, w1, e_vd_C165_12, w2, e_vd_C165_13, w3, e_vd_C165_14]
  · intro i hi
    rw [c3 188 i (by omega), F_vd_C165_13.2 188 i (by omega) (by omega), c2 188 i (by omega), F_vd_C165_12.2 188 i (by omega) (by omega), c1 188 i (by omega), F_vd_C165_11.2 188 i (by omega) (by omega)]
    exact s0 i hi
  · intro i hi
    rw [c3 189 i (by omega), F_vd_C165_13.2 189 i (by omega) (by omega), c2 189 i (by omega), F_vd_C165_12.2 189 i (by omega) (by omega)]
    exact s1 i hi
  · intro i hi
    rw [c3 190 i (by omega), F_vd_C165_13.2 190 i (by omega) (by omega)]
    exact s2 i hi
  · intro i hi
    exact s3 i hi
set_option maxRecDepth 20000 in
theorem vd_ct165_2 {f : Nat → Nat → Int32} (hz : vd_Zi 192 f) : ∃ f' : Nat → Nat → Int32, (∀ d Q, vd_wp d 165 0 [.ref 63, .int (vd_I 2), vd_U, vd_U, vd_U, vd_U, vd_U, vd_U, vd_U, vd_U] [] (vd_mf (vd_KM45 L xs) f) Q = Q (vd_mf (vd_KM50 L xs) f') (.inl none)) ∧ vd_Zi 196 f' ∧ ((∀ i, i < 4 * 4 → f' 192 i = vd_I ((vd_sZ 4 (vd_wX 2) (vd_wY 2) (20 * 4) i : Nat) : Int)) ∧ (∀ i, i < 8 * 8 → f' 193 i = vd_I ((vd_sZ 8 (vd_wX 2) (vd_wY 2) (40 * 8) i : Nat) : Int)) ∧ (∀ i, i < 16 * 16 → f' 194 i = vd_I ((vd_sZ 16 (vd_wX 2) (vd_wY 2) (80 * 16) i : Nat) : Int)) ∧ (∀ i, i < 32 * 32 → f' 195 i = vd_I ((vd_sZ 32 (vd_wX 2) (vd_wY 2) (160 * 32) i : Nat) : Int))) ∧ (∀ c i, c < 192 → c ≠ 8 → f' c i = f c i) := by
  obtain ⟨g1, hg1⟩ : ∃ g, g = (vd_nz0 f 192) := ⟨_, rfl⟩
  have F_vd_C165_20 := vd_C165_20_f f
  rw [← hg1] at F_vd_C165_20
  have e_vd_C165_20 := fun (d : Nat) Q => vd_C165_20 L xs d f Q
  rw [← hg1] at e_vd_C165_20
  have z_g1 := F_vd_C165_20.1 hz
  obtain ⟨g2, a0, s0, c0⟩ := vd_scanR (M := vd_KM46 L xs) (o := 63) (s := 0) (oc := 192) (sort := 2) (n := 4) (most := 20) (by decide) rfl rfl (by decide) (by decide) (vd_n4_4_1_80) (by decide) g1 vd_U vd_U
  have z_g2 : vd_Zi 193 g2 := vd_Zi.fill z_g1 (o := 192) (fun i => by unfold vd_sp; omega) (fun c i q => c0 c i (by omega))
  have w0 : ∀ d Q, vd_wp d 165 39 [.ref 63, .int (vd_I 2), .int (vd_I 0), .int (vd_I 4), .ref 192, .int (vd_I 0), .int (vd_I 20), .int (vd_I 0), vd_U, vd_U] [] (vd_mf (vd_KM46 L xs) g1) Q = vd_wp d 165 136 [.ref 63, .int (vd_I 2), .int (vd_I 0), .int (vd_I 4), .ref 192, .int (vd_I 16), .int (vd_I 20), .int (vd_I 20), .int (vd_I 4), .int (vd_I 4)] [] (vd_mf (vd_KM46 L xs) g2) Q := a0
  obtain ⟨g3, hg3⟩ : ∃ g, g = (vd_nz0 g2 193) := ⟨_, rfl⟩
  have F_vd_C165_21 := vd_C165_21_f g2
  rw [← hg3] at F_vd_C165_21
  have e_vd_C165_21 := fun (d : Nat) Q => vd_C165_21 L xs (vd_I 16) d g2 Q
  rw [← hg3] at e_vd_C165_21
  have z_g3 := F_vd_C165_21.1 z_g2
  obtain ⟨g4, a1, s1, c1⟩ := vd_scanR (M := vd_KM47 L xs) (o := 63) (s := 1) (oc := 193) (sort := 2) (n := 8) (most := 40) (by decide) rfl rfl (by decide) (by decide) (vd_n8_4_1_320) (by decide) g3 (.int (vd_I 4)) (.int (vd_I 4))
  have z_g4 : vd_Zi 194 g4 := vd_Zi.fill z_g3 (o := 193) (fun i => by unfold vd_sp; omega) (fun c i q => c1 c i (by omega))
  have w1 : ∀ d Q, vd_wp d 165 39 [.ref 63, .int (vd_I 2), .int (vd_I 1), .int (vd_I 8), .ref 193, .int (vd_I 0), .int (vd_I 40), .int (vd_I 0), .int (vd_I 4), .int (vd_I 4)] [] (vd_mf (vd_KM47 L xs) g3) Q = vd_wp d 165 136 [.ref 63, .int (vd_I 2), .int (vd_I 1), .int (vd_I 8), .ref 193, .int (vd_I 64), .int (vd_I 40), .int (vd_I 40), .int (vd_I 8), .int (vd_I 8)] [] (vd_mf (vd_KM47 L xs) g4) Q := a1
  obtain ⟨g5, hg5⟩ : ∃ g, g = (vd_nz0 g4 194) := ⟨_, rfl⟩
  have F_vd_C165_22 := vd_C165_22_f g4
  rw [← hg5] at F_vd_C165_22
  have e_vd_C165_22 := fun (d : Nat) Q => vd_C165_22 L xs (vd_I 64) d g4 Q
  rw [← hg5] at e_vd_C165_22
  have z_g5 := F_vd_C165_22.1 z_g4
  obtain ⟨g6, a2, s2, c2⟩ := vd_scanR (M := vd_KM48 L xs) (o := 63) (s := 2) (oc := 194) (sort := 2) (n := 16) (most := 80) (by decide) rfl rfl (by decide) (by decide) (vd_n16_4_1_1280) (by decide) g5 (.int (vd_I 8)) (.int (vd_I 8))
  have z_g6 : vd_Zi 195 g6 := vd_Zi.fill z_g5 (o := 194) (fun i => by unfold vd_sp; omega) (fun c i q => c2 c i (by omega))
  have w2 : ∀ d Q, vd_wp d 165 39 [.ref 63, .int (vd_I 2), .int (vd_I 2), .int (vd_I 16), .ref 194, .int (vd_I 0), .int (vd_I 80), .int (vd_I 0), .int (vd_I 8), .int (vd_I 8)] [] (vd_mf (vd_KM48 L xs) g5) Q = vd_wp d 165 136 [.ref 63, .int (vd_I 2), .int (vd_I 2), .int (vd_I 16), .ref 194, .int (vd_I 256), .int (vd_I 80), .int (vd_I 80), .int (vd_I 16), .int (vd_I 16)] [] (vd_mf (vd_KM48 L xs) g6) Q := a2
  obtain ⟨g7, hg7⟩ : ∃ g, g = (vd_nz0 g6 195) := ⟨_, rfl⟩
  have F_vd_C165_23 := vd_C165_23_f g6
  rw [← hg7] at F_vd_C165_23
  have e_vd_C165_23 := fun (d : Nat) Q => vd_C165_23 L xs (vd_I 256) d g6 Q
  rw [← hg7] at e_vd_C165_23
  have z_g7 := F_vd_C165_23.1 z_g6
  obtain ⟨g8, a3, s3, c3⟩ := vd_scanR (M := vd_KM49 L xs) (o := 63) (s := 3) (oc := 195) (sort := 2) (n := 32) (most := 160) (by decide) rfl rfl (by decide) (by decide) (vd_n32_4_1_5120) (by decide) g7 (.int (vd_I 16)) (.int (vd_I 16))
  have z_g8 : vd_Zi 196 g8 := vd_Zi.fill z_g7 (o := 195) (fun i => by unfold vd_sp; omega) (fun c i q => c3 c i (by omega))
  have w3 : ∀ d Q, vd_wp d 165 39 [.ref 63, .int (vd_I 2), .int (vd_I 3), .int (vd_I 32), .ref 195, .int (vd_I 0), .int (vd_I 160), .int (vd_I 0), .int (vd_I 16), .int (vd_I 16)] [] (vd_mf (vd_KM49 L xs) g7) Q = vd_wp d 165 136 [.ref 63, .int (vd_I 2), .int (vd_I 3), .int (vd_I 32), .ref 195, .int (vd_I 1024), .int (vd_I 160), .int (vd_I 160), .int (vd_I 32), .int (vd_I 32)] [] (vd_mf (vd_KM49 L xs) g8) Q := a3
  have e_vd_C165_24 := fun (d : Nat) Q => vd_C165_24 L xs (vd_I 1024) d g8 Q
  refine ⟨g8, fun d Q => ?_, z_g8, ⟨?_, ?_, ?_, ?_⟩, fun c i h1 h2 => by rw [c3 c i (by omega), F_vd_C165_23.2 c i (by omega) (by omega), c2 c i (by omega), F_vd_C165_22.2 c i (by omega) (by omega), c1 c i (by omega), F_vd_C165_21.2 c i (by omega) (by omega), c0 c i (by omega), F_vd_C165_20.2 c i (by omega) (by omega)]⟩
  · simp only [e_vd_C165_20, w0, e_vd_C165_21, w1, e_vd_C165_22, w2, e_vd_C165_23, w3, e_vd_C165_24]
  · intro i hi
    rw [c3 192 i (by omega), F_vd_C165_23.2 192 i (by omega) (by omega), c2 192 i (by omega), F_vd_C165_22.2 192 i (by omega) (by omega), c1 192 i (by omega), F_vd_C165_21.2 192 i (by omega) (by omega)]
    exact s0 i hi
  · intro i hi
    rw [c3 193 i (by omega), F_vd_C165_23.2 193 i (by omega) (by omega), c2 193 i (by omega), F_vd_C165_22.2 193 i (by omega) (by omega)]
    exact s1 i hi
  · intro i hi
    rw [c3 194 i (by omega), F_vd_C165_23.2 194 i (by omega) (by omega)]
    exact s2 i hi
  · intro i hi
    exact s3 i hi
def vd_ref0 (f : Nat → Nat → Int32) : Prop := (∀ p k, p < 4 → k < 2941 → f (68 + p) k = vd_I 128) ∧ f 63 4 = vd_I (-1) ∧ f 79 4 = vd_I (-1) ∧ (∀ i, i < 4 * 4 → f 184 i = vd_I ((vd_sZ 4 (vd_wX 0) (vd_wY 0) (8 * 4) i : Nat) : Int)) ∧ (∀ i, i < 8 * 8 → f 185 i = vd_I ((vd_sZ 8 (vd_wX 0) (vd_wY 0) (16 * 8) i : Nat) : Int)) ∧ (∀ i, i < 16 * 16 → f 186 i = vd_I ((vd_sZ 16 (vd_wX 0) (vd_wY 0) (32 * 16) i : Nat) : Int)) ∧ (∀ i, i < 32 * 32 → f 187 i = vd_I ((vd_sZ 32 (vd_wX 0) (vd_wY 0) (64 * 32) i : Nat) : Int)) ∧ (∀ i, i < 4 * 4 → f 188 i = vd_I ((vd_sZ 4 (vd_wX 1) (vd_wY 1) (20 * 4) i : Nat) : Int)) ∧ (∀ i, i < 8 * 8 → f 189 i = vd_I ((vd_sZ 8 (vd_wX 1) (vd_wY 1) (40 * 8) i : Nat) : Int)) ∧ (∀ i, i < 16 * 16 → f 190 i = vd_I ((vd_sZ 16 (vd_wX 1) (vd_wY 1) (80 * 16) i : Nat) : Int)) ∧ (∀ i, i < 32 * 32 → f 191 i = vd_I ((vd_sZ 32 (vd_wX 1) (vd_wY 1) (160 * 32) i : Nat) : Int)) ∧ (∀ i, i < 4 * 4 → f 192 i = vd_I ((vd_sZ 4 (vd_wX 2) (vd_wY 2) (20 * 4) i : Nat) : Int)) ∧ (∀ i, i < 8 * 8 → f 193 i = vd_I ((vd_sZ 8 (vd_wX 2) (vd_wY 2) (40 * 8) i : Nat) : Int)) ∧ (∀ i, i < 16 * 16 → f 194 i = vd_I ((vd_sZ 16 (vd_wX 2) (vd_wY 2) (80 * 16) i : Nat) : Int)) ∧ (∀ i, i < 32 * 32 → f 195 i = vd_I ((vd_sZ 32 (vd_wX 2) (vd_wY 2) (160 * 32) i : Nat) : Int))
set_option maxRecDepth 20000 in
theorem vd_ct163 {f : Nat → Nat → Int32} (hz : vd_Zi 64 f) : ∃ f' : Nat → Nat → Int32, (∀ d Q, vd_wp (d + 1) 163 0 [.ref 63, vd_U, vd_U] [] (vd_mf (vd_KM11 L xs) f) Q = Q (vd_mf (vd_KM50 L xs) f') (.inl none)) ∧ vd_Zi 196 f' ∧ vd_ref0 f' ∧ (∀ c i, c < 63 → c ≠ 8 → f' c i = f c i) := by
  obtain ⟨g1, hg1⟩ : ∃ g, g = (vd_nz0 (vd_mz0 (vd_nz0 (vd_nz0 (vd_up (vd_up (vd_up (vd_up (vd_nz0 f 64) 63 1 (vd_I 0)) 63 2 (vd_I 0)) 63 3 (vd_I 0)) 63 4 (vd_I (-1))) 65) 66) 67) 72) := ⟨_, rfl⟩
  have F_vd_C163a := vd_C163a_f f
  rw [← hg1] at F_vd_C163a
  have e_vd_C163a := fun (d : Nat) Q => vd_C163a L xs d f Q
  rw [← hg1] at e_vd_C163a
  have z_g1 := F_vd_C163a.1 hz
  obtain ⟨g2, hg2⟩ : ∃ g, g = (vd_up (vd_up (vd_up (vd_nz0 (vd_nz0 (vd_up (vd_up (vd_up (vd_up (vd_up (vd_up (vd_nz0 g1 73) 73 0 (vd_I 1)) 73 1 (vd_I 0)) 73 2 (vd_I (-1))) 73 3 (vd_I (-1))) 73 4 (vd_I 0)) 73 5 (vd_I 0)) 74) 75) 63 13 (vd_I 0)) 63 14 (vd_I 0)) 63 15 (vd_I 0)) := ⟨_, rfl⟩
  have F_vd_C163b := vd_C163b_f g1
  rw [← hg2] at F_vd_C163b
  have e_vd_C163b := fun (d : Nat) Q => vd_C163b L xs d g1 Q
  rw [← hg2] at e_vd_C163b
  have z_g2 := F_vd_C163b.1 z_g1
  obtain ⟨g3, hg3⟩ : ∃ g, g = (vd_up (vd_up (vd_up (vd_up (vd_up (vd_nz0 (vd_up (vd_up (vd_nz0 (vd_nz0 (vd_nz0 (vd_up g2 63 16 (vd_I 0)) 76) 77) 78) 63 20 (vd_I 0)) 63 21 (vd_I 0)) 79) 79 0 (vd_I 0)) 79 1 (vd_I 0)) 79 2 (vd_I 0)) 79 3 (vd_I 0)) 79 4 (vd_I (-1))) := ⟨_, rfl⟩
  have F_vd_C163c := vd_C163c_f g2
  rw [← hg3] at F_vd_C163c
  have e_vd_C163c := fun (d : Nat) Q => vd_C163c L xs d g2 Q
  rw [← hg3] at e_vd_C163c
  have z_g3 := F_vd_C163c.1 z_g2
  obtain ⟨g4, hg4⟩ : ∃ g, g = (vd_up (vd_up (vd_up (vd_nz0 (vd_nz0 (vd_nz0 (vd_nz0 (vd_nz0 (vd_up (vd_up (vd_up (vd_up g3 63 24 (vd_I 0)) 63 25 (vd_I 0)) 63 26 (vd_I 0)) 63 27 (vd_I 0)) 80) 81) 82) 83) 84) 63 33 (vd_I 0)) 63 34 (vd_I 0)) 63 35 (vd_I 0)) := ⟨_, rfl⟩
  have F_vd_C163d := vd_C163d_f g3
  rw [← hg4] at F_vd_C163d
  have e_vd_C163d := fun (d : Nat) Q => vd_C163d L xs d g3 Q
  rw [← hg4] at e_vd_C163d
  have z_g4 := F_vd_C163d.1 z_g3
  obtain ⟨g5, hg5⟩ : ∃ g, g = (vd_nz0 (vd_up (vd_up (vd_up (vd_up (vd_up (vd_up (vd_up (vd_up (vd_up (vd_up (vd_up (vd_up (vd_up g4 63 36 (vd_I 0)) 63 37 (vd_I 0)) 63 38 (vd_I 0)) 63 39 (vd_I 0)) 63 40 (vd_I 0)) 63 41 (vd_I 0)) 63 42 (vd_I 0)) 63 43 (vd_I 0)) 63 44 (vd_I 0)) 63 45 (vd_I 0)) 63 46 (vd_I 0)) 63 47 (vd_I 0)) 63 48 (vd_I 0)) 85) := ⟨_, rfl⟩
  have F_vd_C163e := vd_C163e_f g4
  rw [← hg5] at F_vd_C163e
  have e_vd_C163e := fun (d : Nat) Q => vd_C163e L xs d g4 Q
  rw [← hg5] at e_vd_C163e
  have z_g5 := F_vd_C163e.1 z_g4
  obtain ⟨g6, hg6⟩ : ∃ g, g = (vd_nz0 (vd_nz0 (vd_nz0 (vd_nz0 (vd_nz0 (vd_nz0 (vd_nz0 (vd_nz0 (vd_nz0 (vd_nz0 (vd_nz0 g5 86) 87) 88) 89) 90) 91) 92) 93) 94) 95) 96) := ⟨_, rfl⟩
  have F_vd_C163f := vd_C163f_f g5
  rw [← hg6] at F_vd_C163f
  have e_vd_C163f := fun (d : Nat) Q => vd_C163f L xs d g5 Q
  rw [← hg6] at e_vd_C163f
  have z_g6 := F_vd_C163f.1 z_g5
  obtain ⟨g7, hg7⟩ : ∃ g, g = (vd_nz0 (vd_up (vd_up (vd_up (vd_nz0 (vd_nz0 (vd_nz0 (vd_nz0 (vd_nz0 (vd_nz0 (vd_nz0 (vd_nz0 g6 97) 98) 99) 100) 101) 102) 103) 104) 63 69 (vd_I 0)) 63 70 (vd_I 0)) 63 71 (vd_I 0)) 105) := ⟨_, rfl⟩
  have F_vd_C163g := vd_C163g_f g6
  rw [← hg7] at F_vd_C163g
  have e_vd_C163g := fun (d : Nat) Q => vd_C163g L xs d g6 Q
  rw [← hg7] at e_vd_C163g
  have z_g7 := F_vd_C163g.1 z_g6
  obtain ⟨g8, hg8⟩ : ∃ g, g = (vd_up (vd_up (vd_up (vd_nz0 (vd_nz0 (vd_nz0 (vd_nz0 (vd_nz0 (vd_nz0 (vd_nz0 g7 106) 107) 108) 109) 110) 111) 112) 63 74 (vd_I 0)) 63 75 (vd_I 0)) 63 76 (vd_I 0)) := ⟨_, rfl⟩
  have F_vd_C163h := vd_C163h_f g7
  rw [← hg8] at F_vd_C163h
  have e_vd_C163h := fun (d : Nat) Q => vd_C163h L xs d g7 Q
  rw [← hg8] at e_vd_C163h
  have z_g8 := F_vd_C163h.1 z_g7
  obtain ⟨g9, hg9⟩ : ∃ g, g = (vd_nz0 (vd_nz0 (vd_nz0 (vd_nz0 (vd_up (vd_up (vd_up (vd_up (vd_up (vd_up (vd_up (vd_up (vd_up (vd_up g8 63 77 (vd_I 0)) 63 78 (vd_I 0)) 63 79 (vd_I 0)) 63 80 (vd_I 0)) 63 81 (vd_I 0)) 63 82 (vd_I 0)) 63 83 (vd_I 0)) 63 84 (vd_I 0)) 63 85 (vd_I 0)) 63 86 (vd_I 0)) 113) 114) 115) 116) := ⟨_, rfl⟩
  have F_vd_C163i := vd_C163i_f g8
  rw [← hg9] at F_vd_C163i
  have e_vd_C163i := fun (d : Nat) Q => vd_C163i L xs d g8 Q
  rw [← hg9] at e_vd_C163i
  have z_g9 := F_vd_C163i.1 z_g8
  obtain ⟨g10, hg10⟩ : ∃ g, g = (vd_up (vd_up (vd_up (vd_up (vd_up (vd_up (vd_up (vd_up (vd_up (vd_up (vd_up (vd_up (vd_up (vd_up g9 63 91 (vd_I 0)) 63 92 (vd_I 0)) 63 93 (vd_I 0)) 63 94 (vd_I 0)) 63 95 (vd_I 0)) 63 96 (vd_I 0)) 63 97 (vd_I 0)) 63 98 (vd_I 0)) 63 99 (vd_I 0)) 63 100 (vd_I 0)) 63 101 (vd_I 0)) 63 102 (vd_I 0)) 63 103 (vd_I 0)) 63 104 (vd_I 0)) := ⟨_, rfl⟩
  have F_vd_C163j := vd_C163j_f g9
  rw [← hg10] at F_vd_C163j
  have e_vd_C163j := fun (d : Nat) Q => vd_C163j L xs d g9 Q
  rw [← hg10] at e_vd_C163j
  have z_g10 := F_vd_C163j.1 z_g9
  obtain ⟨g11, hg11⟩ : ∃ g, g = (vd_nz0 (vd_up (vd_nz0 (vd_nz0 (vd_nz0 (vd_up (vd_up (vd_up (vd_up (vd_up (vd_up (vd_up (vd_up g10 63 105 (vd_I 0)) 63 106 (vd_I 0)) 63 107 (vd_I 0)) 63 108 (vd_I 0)) 63 109 (vd_I 0)) 63 110 (vd_I 0)) 63 111 (vd_I 0)) 63 112 (vd_I 0)) 117) 118) 119) 63 116 (vd_I 0)) 120) := ⟨_, rfl⟩
  have F_vd_C163k := vd_C163k_f g10
  rw [← hg11] at F_vd_C163k
  have e_vd_C163k := fun (d : Nat) Q => vd_C163k L xs d g10 Q
  rw [← hg11] at e_vd_C163k
  have z_g11 := F_vd_C163k.1 z_g10
  obtain ⟨g12, hg12⟩ : ∃ g, g = (vd_up (vd_up (vd_up (vd_up (vd_up (vd_nz0 (vd_nz0 (vd_up (vd_nz0 (vd_nz0 (vd_nz0 (vd_nz0 (vd_nz0 g11 121) 122) 123) 124) 125) 63 123 (vd_I 0)) 126) 127) 63 126 (vd_I 0)) 63 127 (vd_I 0)) 63 128 (vd_I 0)) 63 129 (vd_I 0)) 63 130 (vd_I 0)) := ⟨_, rfl⟩
  have F_vd_C163l := vd_C163l_f g11
  rw [← hg12] at F_vd_C163l
  have e_vd_C163l := fun (d : Nat) Q => vd_C163l L xs d g11 Q
  rw [← hg12] at e_vd_C163l
  have z_g12 := F_vd_C163l.1 z_g11
  obtain ⟨g13, hg13⟩ : ∃ g, g = (vd_nz0 (vd_up (vd_up (vd_up g12 63 131 (vd_I 0)) 63 132 (vd_I 0)) 63 133 (vd_I 0)) 128) := ⟨_, rfl⟩
  have F_vd_C163m := vd_C163m_f g12
  rw [← hg13] at F_vd_C163m
  have e_vd_C163m := fun (d : Nat) Q => vd_C163m L xs d g12 Q
  rw [← hg13] at e_vd_C163m
  have z_g13 := F_vd_C163m.1 z_g12
  obtain ⟨g14, hg14⟩ : ∃ g, g = (vd_up (vd_nz0 (vd_nz0 (vd_nz0 (vd_nz0 (vd_up (vd_up (vd_nz0 g13 129) 129 0 (vd_I 0)) 129 1 (vd_I 0)) 130) 131) 132) 133) 129 3 (vd_I 0)) := ⟨_, rfl⟩
  have F_vd_C163P0 := vd_C163P0_f g13
  rw [← hg14] at F_vd_C163P0
  have e_vd_C163P0 := fun (d : Nat) Q => vd_C163P0 L xs d g13 Q
  rw [← hg14] at e_vd_C163P0
  have z_g14 := F_vd_C163P0.1 z_g13
  obtain ⟨g15, hg15⟩ : ∃ g, g = (vd_up (vd_nz0 (vd_nz0 (vd_nz0 (vd_nz0 (vd_up (vd_up (vd_nz0 g14 134) 134 0 (vd_I 0)) 134 1 (vd_I 0)) 135) 136) 137) 138) 134 3 (vd_I 0)) := ⟨_, rfl⟩
  have F_vd_C163P1 := vd_C163P1_f g14
  rw [← hg15] at F_vd_C163P1
  have e_vd_C163P1 := fun (d : Nat) Q => vd_C163P1 L xs d g14 Q
  rw [← hg15] at e_vd_C163P1
  have z_g15 := F_vd_C163P1.1 z_g14
  obtain ⟨g16, hg16⟩ : ∃ g, g = (vd_up (vd_nz0 (vd_nz0 (vd_nz0 (vd_nz0 (vd_up (vd_up (vd_nz0 g15 139) 139 0 (vd_I 0)) 139 1 (vd_I 0)) 140) 141) 142) 143) 139 3 (vd_I 0)) := ⟨_, rfl⟩
  have F_vd_C163P2 := vd_C163P2_f g15
  rw [← hg16] at F_vd_C163P2
  have e_vd_C163P2 := fun (d : Nat) Q => vd_C163P2 L xs d g15 Q
  rw [← hg16] at e_vd_C163P2
  have z_g16 := F_vd_C163P2.1 z_g15
  obtain ⟨g17, hg17⟩ : ∃ g, g = (vd_up (vd_nz0 (vd_nz0 (vd_nz0 (vd_nz0 (vd_up (vd_up (vd_nz0 g16 144) 144 0 (vd_I 0)) 144 1 (vd_I 0)) 145) 146) 147) 148) 144 3 (vd_I 0)) := ⟨_, rfl⟩
  have F_vd_C163P3 := vd_C163P3_f g16
  rw [← hg17] at F_vd_C163P3
  have e_vd_C163P3 := fun (d : Nat) Q => vd_C163P3 L xs d g16 Q
  rw [← hg17] at e_vd_C163P3
  have z_g17 := F_vd_C163P3.1 z_g16
  obtain ⟨g18, hg18⟩ : ∃ g, g = (vd_up (vd_nz0 (vd_nz0 (vd_nz0 (vd_nz0 (vd_up (vd_up (vd_nz0 g17 149) 149 0 (vd_I 0)) 149 1 (vd_I 0)) 150) 151) 152) 153) 149 3 (vd_I 0)) := ⟨_, rfl⟩
  have F_vd_C163P4 := vd_C163P4_f g17
  rw [← hg18] at F_vd_C163P4
  have e_vd_C163P4 := fun (d : Nat) Q => vd_C163P4 L xs d g17 Q
  rw [← hg18] at e_vd_C163P4
  have z_g18 := F_vd_C163P4.1 z_g17
  obtain ⟨g19, hg19⟩ : ∃ g, g = (vd_up (vd_nz0 (vd_nz0 (vd_nz0 (vd_nz0 (vd_up (vd_up (vd_nz0 g18 154) 154 0 (vd_I 0)) 154 1 (vd_I 0)) 155) 156) 157) 158) 154 3 (vd_I 0)) := ⟨_, rfl⟩
  have F_vd_C163P5 := vd_C163P5_f g18
  rw [← hg19] at F_vd_C163P5
  have e_vd_C163P5 := fun (d : Nat) Q => vd_C163P5 L xs d g18 Q
  rw [← hg19] at e_vd_C163P5
  have z_g19 := F_vd_C163P5.1 z_g18
  obtain ⟨g20, hg20⟩ : ∃ g, g = (vd_up (vd_nz0 (vd_nz0 (vd_nz0 (vd_nz0 (vd_up (vd_up (vd_nz0 g19 159) 159 0 (vd_I 0)) 159 1 (vd_I 0)) 160) 161) 162) 163) 159 3 (vd_I 0)) := ⟨_, rfl⟩
  have F_vd_C163P6 := vd_C163P6_f g19
  rw [← hg20] at F_vd_C163P6
  have e_vd_C163P6 := fun (d : Nat) Q => vd_C163P6 L xs d g19 Q
  rw [← hg20] at e_vd_C163P6
  have z_g20 := F_vd_C163P6.1 z_g19
  obtain ⟨g21, hg21⟩ : ∃ g, g = (vd_up (vd_nz0 (vd_nz0 (vd_nz0 (vd_nz0 (vd_up (vd_up (vd_nz0 g20 164) 164 0 (vd_I 0)) 164 1 (vd_I 0)) 165) 166) 167) 168) 164 3 (vd_I 0)) := ⟨_, rfl⟩
  have F_vd_C163P7 := vd_C163P7_f g20
  rw [← hg21] at F_vd_C163P7
  have e_vd_C163P7 := fun (d : Nat) Q => vd_C163P7 L xs d g20 Q
  rw [← hg21] at e_vd_C163P7
  have z_g21 := F_vd_C163P7.1 z_g20
  obtain ⟨g22, hg22⟩ : ∃ g, g = (vd_up (vd_nz0 (vd_nz0 (vd_nz0 (vd_nz0 (vd_up (vd_up (vd_nz0 g21 169) 169 0 (vd_I 0)) 169 1 (vd_I 0)) 170) 171) 172) 173) 169 3 (vd_I 0)) := ⟨_, rfl⟩
  have F_vd_C163P8 := vd_C163P8_f g21
  rw [← hg22] at F_vd_C163P8
  have e_vd_C163P8 := fun (d : Nat) Q => vd_C163P8 L xs d g21 Q
  rw [← hg22] at e_vd_C163P8
  have z_g22 := F_vd_C163P8.1 z_g21
  obtain ⟨g23, hg23⟩ : ∃ g, g = (vd_up (vd_nz0 (vd_nz0 (vd_nz0 (vd_nz0 (vd_up (vd_up (vd_nz0 g22 174) 174 0 (vd_I 0)) 174 1 (vd_I 0)) 175) 176) 177) 178) 174 3 (vd_I 0)) := ⟨_, rfl⟩
  have F_vd_C163P9 := vd_C163P9_f g22
  rw [← hg23] at F_vd_C163P9
  have e_vd_C163P9 := fun (d : Nat) Q => vd_C163P9 L xs d g22 Q
  rw [← hg23] at e_vd_C163P9
  have z_g23 := F_vd_C163P9.1 z_g22
  obtain ⟨g24, hg24⟩ : ∃ g, g = (vd_up (vd_nz0 (vd_nz0 (vd_nz0 (vd_nz0 (vd_up (vd_up (vd_nz0 g23 179) 179 0 (vd_I 0)) 179 1 (vd_I 0)) 180) 181) 182) 183) 179 3 (vd_I 0)) := ⟨_, rfl⟩
  have F_vd_C163P10 := vd_C163P10_f g23
  rw [← hg24] at F_vd_C163P10
  have e_vd_C163P10 := fun (d : Nat) Q => vd_C163P10 L xs d g23 Q
  rw [← hg24] at e_vd_C163P10
  have z_g24 := F_vd_C163P10.1 z_g23
  have e_vd_C163Q := fun (d : Nat) Q => vd_C163Q L xs d g24 Q
  obtain ⟨g25, a0, s0, c0⟩ := vd_L163c (M := vd_KM35 L xs) (o := 63) (c := 67) rfl rfl rfl rfl (by decide) (vd_k67 L xs) 4 0 g24 vd_U (by omega) (fun p k h _ => absurd h (Nat.not_lt_zero _)) (Or.inl (by decide))
  have z_g25 : vd_Zi 184 g25 := fun c i h1 h2 h3 => by rw [c0 c i (by intro q; exact h3 (by unfold vd_sp; omega))]; exact z_g24 c i h1 h2 h3
  have w0 : ∀ d Q, vd_wp d 163 989 [.ref 63, .int (vd_I 0), vd_U] [] (vd_mf (vd_KM35 L xs) g24) Q = vd_wp d 163 1026 [.ref 63, .int (vd_I 4), .int (vd_I 2941)] [] (vd_mf (vd_KM35 L xs) g25) Q := a0
  have e_vd_C163R := fun (d : Nat) Q => vd_C163R L xs d g25 Q
  obtain ⟨g26, x0, y0, ⟨p0, q0, r0, t0⟩, k0⟩ := vd_ct165_0 L xs (f := g25) z_g25
  have z_g26 : vd_Zi 188 g26 := y0
  have e_vd_C163S0 := fun (d : Nat) Q => vd_C163S0 L xs d g26 Q
  obtain ⟨g27, x1, y1, ⟨p1, q1, r1, t1⟩, k1⟩ := vd_ct165_1 L xs (f := g26) z_g26
  have z_g27 : vd_Zi 192 g27 := y1
  have e_vd_C163S1 := fun (d : Nat) Q => vd_C163S1 L xs d g27 Q
  obtain ⟨g28, x2, y2, ⟨p2, q2, r2, t2⟩, k2⟩ := vd_ct165_2 L xs (f := g27) z_g27
  have z_g28 : vd_Zi 196 g28 := y2
  have e_vd_C163S2 := fun (d : Nat) Q => vd_C163S2 L xs d g28 Q
  have w0' : ∀ d Q, vd_wp (d + 1) 163 989 [.ref 63, .int (vd_I 0), vd_U] [] (vd_mf (vd_KM35 L xs) g24) Q = vd_wp (d + 1) 163 1026 [.ref 63, .int (vd_I 4), .int (vd_I 2941)] [] (vd_mf (vd_KM35 L xs) g25) Q := fun d Q => w0 (d + 1) Q
  have V_vd_C163m_63 := vd_C163m_v63_4 g12
  rw [← hg13] at V_vd_C163m_63
  have V_vd_C163l_63 := vd_C163l_v63_4 g11
  rw [← hg12] at V_vd_C163l_63
  have V_vd_C163k_63 := vd_C163k_v63_4 g10
  rw [← hg11] at V_vd_C163k_63
  have V_vd_C163j_63 := vd_C163j_v63_4 g9
  rw [← hg10] at V_vd_C163j_63
  have V_vd_C163i_63 := vd_C163i_v63_4 g8
  rw [← hg9] at V_vd_C163i_63
  have V_vd_C163h_63 := vd_C163h_v63_4 g7
  rw [← hg8] at V_vd_C163h_63
  have V_vd_C163g_63 := vd_C163g_v63_4 g6
  rw [← hg7] at V_vd_C163g_63
  have V_vd_C163e_63 := vd_C163e_v63_4 g4
  rw [← hg5] at V_vd_C163e_63
  have V_vd_C163d_63 := vd_C163d_v63_4 g3
  rw [← hg4] at V_vd_C163d_63
  have V_vd_C163c_63 := vd_C163c_v63_4 g2
  rw [← hg3] at V_vd_C163c_63
  have V_vd_C163b_63 := vd_C163b_v63_4 g1
  rw [← hg2] at V_vd_C163b_63
  have V_vd_C163a_63 := vd_C163a_v63_4 f
  rw [← hg1] at V_vd_C163a_63
  have V_vd_C163c_79 := vd_C163c_v79_4 g2
  rw [← hg3] at V_vd_C163c_79
  refine ⟨g28, fun d Q => ?_, z_g28, ⟨fun p k h1 h2 => ?_, ?_, ?_, ?_, ?_, ?_, ?_, ?_, ?_, ?_, ?_, ?_, ?_, ?_, ?_⟩, fun c i h1 h2 => by rw [k2 c i (by omega) (by omega), k1 c i (by omega) (by omega), k0 c i (by omega) (by omega), c0 c i (by omega), F_vd_C163P10.2 c i (by omega) (by omega), F_vd_C163P9.2 c i (by omega) (by omega), F_vd_C163P8.2 c i (by omega) (by omega), F_vd_C163P7.2 c i (by omega) (by omega), F_vd_C163P6.2 c i (by omega) (by omega), F_vd_C163P5.2 c i (by omega) (by omega), F_vd_C163P4.2 c i (by omega) (by omega), F_vd_C163P3.2 c i (by omega) (by omega), F_vd_C163P2.2 c i (by omega) (by omega), F_vd_C163P1.2 c i (by omega) (by omega), F_vd_C163P0.2 c i (by omega) (by omega), F_vd_C163m.2 c i (by omega) (by omega), F_vd_C163l.2 c i (by omega) (by omega), F_vd_C163k.2 c i (by omega) (by omega), F_vd_C163j.2 c i (by omega) (by omega), F_vd_C163i.2 c i (by omega) (by omega), F_vd_C163h.2 c i (by omega) (by omega), F_vd_C163g.2 c i (by omega) (by omega), F_vd_C163f.2 c i (by omega) (by omega), F_vd_C163e.2 c i (by omega) (by omega), F_vd_C163d.2 c i (by omega) (by omega), F_vd_C163c.2 c i (by omega) (by omega), F_vd_C163b.2 c i (by omega) (by omega), F_vd_C163a.2 c i (by omega) (by omega)]⟩
  · simp only [e_vd_C163a, e_vd_C163b, e_vd_C163c, e_vd_C163d, e_vd_C163e, e_vd_C163f, e_vd_C163g, e_vd_C163h, e_vd_C163i, e_vd_C163j, e_vd_C163k, e_vd_C163l, e_vd_C163m, e_vd_C163P0, e_vd_C163P1, e_vd_C163P2, e_vd_C163P3, e_vd_C163P4, e_vd_C163P5, e_vd_C163P6, e_vd_C163P7, e_vd_C163P8, e_vd_C163P9, e_vd_C163P10, e_vd_C163Q, w0', e_vd_C163R, x0, e_vd_C163S0, x1, e_vd_C163S1, x2, e_vd_C163S2, vd_rs_n]
  · rw [k2 (68 + p) k (by omega) (by omega), k1 (68 + p) k (by omega) (by omega), k0 (68 + p) k (by omega) (by omega)]
    exact s0 p k h1 h2
  · rw [k2 63 4 (by omega) (by omega), k1 63 4 (by omega) (by omega), k0 63 4 (by omega) (by omega), c0 63 4 (by omega), F_vd_C163P10.2 63 4 (by omega) (by omega), F_vd_C163P9.2 63 4 (by omega) (by omega), F_vd_C163P8.2 63 4 (by omega) (by omega), F_vd_C163P7.2 63 4 (by omega) (by omega), F_vd_C163P6.2 63 4 (by omega) (by omega), F_vd_C163P5.2 63 4 (by omega) (by omega), F_vd_C163P4.2 63 4 (by omega) (by omega), F_vd_C163P3.2 63 4 (by omega) (by omega), F_vd_C163P2.2 63 4 (by omega) (by omega), F_vd_C163P1.2 63 4 (by omega) (by omega), F_vd_C163P0.2 63 4 (by omega) (by omega), V_vd_C163m_63, V_vd_C163l_63, V_vd_C163k_63, V_vd_C163j_63, V_vd_C163i_63, V_vd_C163h_63, V_vd_C163g_63, F_vd_C163f.2 63 4 (by omega) (by omega), V_vd_C163e_63, V_vd_C163d_63, V_vd_C163c_63, V_vd_C163b_63, V_vd_C163a_63]
  · rw [k2 79 4 (by omega) (by omega), k1 79 4 (by omega) (by omega), k0 79 4 (by omega) (by omega), c0 79 4 (by omega), F_vd_C163P10.2 79 4 (by omega) (by omega), F_vd_C163P9.2 79 4 (by omega) (by omega), F_vd_C163P8.2 79 4 (by omega) (by omega), F_vd_C163P7.2 79 4 (by omega) (by omega), F_vd_C163P6.2 79 4 (by omega) (by omega), F_vd_C163P5.2 79 4 (by omega) (by omega), F_vd_C163P4.2 79 4 (by omega) (by omega), F_vd_C163P3.2 79 4 (by omega) (by omega), F_vd_C163P2.2 79 4 (by omega) (by omega), F_vd_C163P1.2 79 4 (by omega) (by omega), F_vd_C163P0.2 79 4 (by omega) (by omega), F_vd_C163m.2 79 4 (by omega) (by omega), F_vd_C163l.2 79 4 (by omega) (by omega), F_vd_C163k.2 79 4 (by omega) (by omega), F_vd_C163j.2 79 4 (by omega) (by omega), F_vd_C163i.2 79 4 (by omega) (by omega), F_vd_C163h.2 79 4 (by omega) (by omega), F_vd_C163g.2 79 4 (by omega) (by omega), F_vd_C163f.2 79 4 (by omega) (by omega), F_vd_C163e.2 79 4 (by omega) (by omega), F_vd_C163d.2 79 4 (by omega) (by omega), V_vd_C163c_79]
  · intro i hi
    rw [k2 184 i (by omega) (by omega), k1 184 i (by omega) (by omega)]
    exact p0 i hi
  · intro i hi
    rw [k2 185 i (by omega) (by omega), k1 185 i (by omega) (by omega)]
    exact q0 i hi
  · intro i hi
    rw [k2 186 i (by omega) (by omega), k1 186 i (by omega) (by omega)]
    exact r0 i hi
  · intro i hi
    rw [k2 187 i (by omega) (by omega), k1 187 i (by omega) (by omega)]
    exact t0 i hi
  · intro i hi
    rw [k2 188 i (by omega) (by omega)]
    exact p1 i hi
  · intro i hi
    rw [k2 189 i (by omega) (by omega)]
    exact q1 i hi
  · intro i hi
    rw [k2 190 i (by omega) (by omega)]
    exact r1 i hi
  · intro i hi
    rw [k2 191 i (by omega) (by omega)]
    exact t1 i hi
  · intro i hi
    exact p2 i hi
  · intro i hi
    exact q2 i hi
  · intro i hi
    exact r2 i hi
  · intro i hi
    exact t2 i hi
end VDSU
