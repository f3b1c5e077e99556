/-! ===== the start of the law put together ===== -/
theorem vd_nz0_eq (f : Nat → Nat → Int32) (n i : Nat) : vd_nz0 f n n i = vd_I 0 := by
  unfold vd_nz0
  rw [if_pos rfl]
  rfl
/-! how many: blocks of steps -/
def vd_cb (n wx wy : Nat) : Nat → Nat → Nat
  | 0, a => if vd_sv n wx wy a = true then 1 else 0
  | k + 1, a => vd_cb n wx wy k a + vd_cb n wx wy k (a + 2 ^ k)
theorem vd_scn_b (n wx wy k : Nat) : ∀ a, vd_scn n wx wy (a + 2 ^ k) = vd_scn n wx wy a + vd_cb n wx wy k a := by
  induction k with
  | zero => intro a; rfl
  | succ k ih =>
    intro a
    have e : a + 2 ^ (k + 1) = a + 2 ^ k + 2 ^ k := by rw [Nat.pow_succ]; omega
    rw [e, ih (a + 2 ^ k), ih a, Nat.add_assoc]
    rfl
def vd_bs (n wx wy : Nat) : List Nat → Nat → Nat
  | [], _ => 0
  | k :: ks, a => vd_cb n wx wy k a + vd_bs n wx wy ks (a + 2 ^ k)
def vd_s2 : List Nat → Nat → Nat
  | [], a => a
  | k :: ks, a => vd_s2 ks (a + 2 ^ k)
theorem vd_scn_l (n wx wy : Nat) (ks : List Nat) : ∀ a, vd_scn n wx wy (vd_s2 ks a) = vd_scn n wx wy a + vd_bs n wx wy ks a := by
  induction ks with
  | nil => intro a; rfl
  | cons k ks ih =>
    intro a
    show vd_scn n wx wy (vd_s2 ks (a + 2 ^ k)) = vd_scn n wx wy a + (vd_cb n wx wy k a + vd_bs n wx wy ks (a + 2 ^ k))
    rw [ih, vd_scn_b, Nat.add_assoc]
theorem vd_scn_e {n wx wy N c : Nat} (ks : List Nat) (e : vd_s2 ks 0 = N) (h : vd_bs n wx wy ks 0 = c) : vd_scn n wx wy N = c := by
  rw [← e, vd_scn_l, h]
  exact Nat.zero_add c
set_option maxRecDepth 20000 in
theorem vd_n4_1_1_32 : vd_scn 4 1 1 32 = 4 * 4 := vd_scn_e [5] (by decide +kernel) (by decide +kernel)
set_option maxRecDepth 20000 in
theorem vd_n4_1_1_28 : vd_scn 4 1 1 28 = 4 * 4 := vd_scn_e [4, 3, 2] (by decide +kernel) (by decide +kernel)
set_option maxRecDepth 20000 in
theorem vd_n8_1_1_128 : vd_scn 8 1 1 128 = 8 * 8 := vd_scn_e [7] (by decide +kernel) (by decide +kernel)
set_option maxRecDepth 20000 in
theorem vd_n8_1_1_120 : vd_scn 8 1 1 120 = 8 * 8 := vd_scn_e [6, 5, 4, 3] (by decide +kernel) (by decide +kernel)
set_option maxRecDepth 20000 in
theorem vd_n16_1_1_512 : vd_scn 16 1 1 512 = 16 * 16 := vd_scn_e [9] (by decide +kernel) (by decide +kernel)
set_option maxRecDepth 20000 in
theorem vd_n16_1_1_496 : vd_scn 16 1 1 496 = 16 * 16 := vd_scn_e [8, 7, 6, 5, 4] (by decide +kernel) (by decide +kernel)
set_option maxRecDepth 20000 in
theorem vd_n32_1_1_2048 : vd_scn 32 1 1 2048 = 32 * 32 := vd_scn_e [11] (by decide +kernel) (by decide +kernel)
set_option maxRecDepth 20000 in
theorem vd_n32_1_1_2016 : vd_scn 32 1 1 2016 = 32 * 32 := vd_scn_e [10, 9, 8, 7, 6, 5] (by decide +kernel) (by decide +kernel)
set_option maxRecDepth 20000 in
theorem vd_n4_1_4_80 : vd_scn 4 1 4 80 = 4 * 4 := vd_scn_e [6, 4] (by decide +kernel) (by decide +kernel)
set_option maxRecDepth 20000 in
theorem vd_n4_1_4_64 : vd_scn 4 1 4 64 = 4 * 4 := vd_scn_e [6] (by decide +kernel) (by decide +kernel)
set_option maxRecDepth 20000 in
theorem vd_n8_1_4_320 : vd_scn 8 1 4 320 = 8 * 8 := vd_scn_e [8, 6] (by decide +kernel) (by decide +kernel)
set_option maxRecDepth 20000 in
theorem vd_n8_1_4_288 : vd_scn 8 1 4 288 = 8 * 8 := vd_scn_e [8, 5] (by decide +kernel) (by decide +kernel)
set_option maxRecDepth 20000 in
theorem vd_n4_4_1_80 : vd_scn 4 4 1 80 = 4 * 4 := vd_scn_e [6, 4] (by decide +kernel) (by decide +kernel)
set_option maxRecDepth 20000 in
theorem vd_n4_4_1_64 : vd_scn 4 4 1 64 = 4 * 4 := vd_scn_e [6] (by decide +kernel) (by decide +kernel)
set_option maxRecDepth 20000 in
theorem vd_n8_4_1_320 : vd_scn 8 4 1 320 = 8 * 8 := vd_scn_e [8, 6] (by decide +kernel) (by decide +kernel)
set_option maxRecDepth 20000 in
theorem vd_n8_4_1_288 : vd_scn 8 4 1 288 = 8 * 8 := vd_scn_e [8, 5] (by decide +kernel) (by decide +kernel)
set_option maxRecDepth 20000 in
theorem vd_n16_1_4_1280 : vd_scn 16 1 4 1280 = 16 * 16 := vd_scn_e [10, 8] (by decide +kernel) (by decide +kernel)
set_option maxRecDepth 20000 in
theorem vd_n32_1_4_5120 : vd_scn 32 1 4 5120 = 32 * 32 := vd_scn_e [12, 10] (by decide +kernel) (by decide +kernel)
set_option maxRecDepth 20000 in
theorem vd_n16_4_1_1280 : vd_scn 16 4 1 1280 = 16 * 16 := vd_scn_e [10, 8] (by decide +kernel) (by decide +kernel)
set_option maxRecDepth 20000 in
theorem vd_n32_4_1_5120 : vd_scn 32 4 1 5120 = 32 * 32 := vd_scn_e [12, 10] (by decide +kernel) (by decide +kernel)
/-- the scans -/
def vd_ZZ (o s : Nat) : Nat → Nat := vd_sZ (vd_sn s) (vd_wX o) (vd_wY o) ((if o = 0 then 2 * vd_sn s else 5 * vd_sn s) * vd_sn s)
set_option maxRecDepth 20000 in
theorem vd_ZZ_V : vd_SCV vd_ZZ := fun o s ho hs h2 => by
  have key : (o = 0 ∧ (s = 0 ∨ s = 1 ∨ s = 2 ∨ s = 3)) ∨ (o = 1 ∧ (s = 0 ∨ s = 1)) ∨ (o = 2 ∧ (s = 0 ∨ s = 1)) := by omega
  unfold vd_ZZ
  rcases key with ⟨rfl, rfl | rfl | rfl | rfl⟩ | ⟨rfl, rfl | rfl⟩ | ⟨rfl, rfl | rfl⟩
  · exact vd_scN (n := 4) (wx := 1) (wy := 1) (N := 32) (by decide) (by decide) (by decide) (by decide) vd_n4_1_1_32
  · exact vd_scN (n := 8) (wx := 1) (wy := 1) (N := 128) (by decide) (by decide) (by decide) (by decide) vd_n8_1_1_128
  · exact vd_scN (n := 16) (wx := 1) (wy := 1) (N := 512) (by decide) (by decide) (by decide) (by decide) vd_n16_1_1_512
  · exact vd_scN (n := 32) (wx := 1) (wy := 1) (N := 2048) (by decide) (by decide) (by decide) (by decide) vd_n32_1_1_2048
  · exact vd_scN (n := 4) (wx := 1) (wy := 4) (N := 80) (by decide) (by decide) (by decide) (by decide) vd_n4_1_4_80
  · exact vd_scN (n := 8) (wx := 1) (wy := 4) (N := 320) (by decide) (by decide) (by decide) (by decide) vd_n8_1_4_320
  · exact vd_scN (n := 4) (wx := 4) (wy := 1) (N := 80) (by decide) (by decide) (by decide) (by decide) vd_n4_4_1_80
  · exact vd_scN (n := 8) (wx := 4) (wy := 1) (N := 320) (by decide) (by decide) (by decide) (by decide) vd_n8_4_1_320
section VDST
variable (L : Nat) (xs : Nat → Int32)
/-- what the class has in its scans -/
def vd_c46 (f : Nat → Nat → Int32) : Prop := (∀ i, i < 4 * 4 → f 46 (0 + i) = vd_I ((vd_sZ 4 1 1 32 i : Nat) : Int)) ∧ (∀ i, i < 8 * 8 → f 46 (16 + i) = vd_I ((vd_sZ 8 1 1 128 i : Nat) : Int)) ∧ (∀ i, i < 16 * 16 → f 46 (80 + i) = vd_I ((vd_sZ 16 1 1 512 i : Nat) : Int)) ∧ (∀ i, i < 32 * 32 → f 46 (336 + i) = vd_I ((vd_sZ 32 1 1 2048 i : Nat) : Int)) ∧ (∀ i, i < 4 * 4 → f 46 (1360 + i) = vd_I ((vd_sZ 4 1 4 80 i : Nat) : Int)) ∧ (∀ i, i < 8 * 8 → f 46 (1376 + i) = vd_I ((vd_sZ 8 1 4 320 i : Nat) : Int)) ∧ (∀ i, i < 4 * 4 → f 46 (1440 + i) = vd_I ((vd_sZ 4 4 1 80 i : Nat) : Int)) ∧ (∀ i, i < 8 * 8 → f 46 (1456 + i) = vd_I ((vd_sZ 8 4 1 320 i : Nat) : Int))
set_option maxRecDepth 20000 in
theorem vd_ct8 {f : Nat → Nat → Int32} (hW : ∀ i, i < 33 → f 0 i = vd_I (vd_gL.getD i 0)) (hz : vd_Zi 46 f) : ∃ f' : Nat → Nat → Int32, (∀ d Q, vd_wp (d + 1) 8 0 [.ref 45, .ref 34, .ref 20, .ref 37, vd_U, vd_U] [] (vd_mf (vd_KM5 L xs) f) Q = Q (vd_mf (vd_KM6 L xs) f') (.inl none)) ∧ vd_Zi 52 f' ∧ vd_c46 f' ∧ (∀ i, i < 1024 → f' 47 i = vd_I (vd_Tc 32 (i / 32) (i % 32))) ∧ (∀ c i, c < 46 → c ≠ 8 → f' c i = f c i) := by
  obtain ⟨g1, hg1⟩ : ∃ g, g = (vd_nz0 (vd_nz0 (vd_nz0 (vd_nz0 (vd_nz0 (vd_nz0 f 46) 47) 48) 49) 50) 51) := ⟨_, rfl⟩
  have F_vd_C8a := vd_C8a_f f
  rw [← hg1] at F_vd_C8a
  have e_vd_C8a := fun (d : Nat) Q => vd_C8a L xs d f Q
  rw [← hg1] at e_vd_C8a
  have z_g1 := F_vd_C8a.1 hz
  obtain ⟨g2, a0, s0, c0⟩ := vd_fillS (M := vd_KM6 L xs) (o := 46) (len := 1520) (first := 0) (n := 4) (wx := 1) (wy := 1) (K := 7) (N := 32) (by decide) rfl rfl (by decide) (by decide) (by decide) (by decide) (by decide) vd_n4_1_1_32 (by decide) (by decide) (by decide) vd_n4_1_1_28 g1
  have z_g2 : vd_Zi 52 g2 := vd_Zi.fill z_g1 (o := 46) (fun i => by unfold vd_sp; omega) (fun c i q => c0 c i (by omega))
  have w0 : ∀ d Q, vd_wp d 10 0 [.ref 46, .int (vd_I 0), .int (vd_I 4), .int (vd_I 1), .int (vd_I 1), vd_U, vd_U, vd_U, vd_U] [] (vd_mf (vd_KM6 L xs) g1) Q = Q (vd_mf (vd_KM6 L xs) g2) (.inl none) := a0
  have e_vd_C8b := fun (d : Nat) Q => vd_C8b L xs d g2 Q
  obtain ⟨g3, a1, s1, c1⟩ := vd_fillS (M := vd_KM6 L xs) (o := 46) (len := 1520) (first := 16) (n := 8) (wx := 1) (wy := 1) (K := 15) (N := 128) (by decide) rfl rfl (by decide) (by decide) (by decide) (by decide) (by decide) vd_n8_1_1_128 (by decide) (by decide) (by decide) vd_n8_1_1_120 g2
  have z_g3 : vd_Zi 52 g3 := vd_Zi.fill z_g2 (o := 46) (fun i => by unfold vd_sp; omega) (fun c i q => c1 c i (by omega))
  have w1 : ∀ d Q, vd_wp d 10 0 [.ref 46, .int (vd_I 16), .int (vd_I 8), .int (vd_I 1), .int (vd_I 1), vd_U, vd_U, vd_U, vd_U] [] (vd_mf (vd_KM6 L xs) g2) Q = Q (vd_mf (vd_KM6 L xs) g3) (.inl none) := a1
  have e_vd_C8c := fun (d : Nat) Q => vd_C8c L xs d g3 Q
  obtain ⟨g4, a2, s2, c2⟩ := vd_fillS (M := vd_KM6 L xs) (o := 46) (len := 1520) (first := 80) (n := 16) (wx := 1) (wy := 1) (K := 31) (N := 512) (by decide) rfl rfl (by decide) (by decide) (by decide) (by decide) (by decide) vd_n16_1_1_512 (by decide) (by decide) (by decide) vd_n16_1_1_496 g3
  have z_g4 : vd_Zi 52 g4 := vd_Zi.fill z_g3 (o := 46) (fun i => by unfold vd_sp; omega) (fun c i q => c2 c i (by omega))
  have w2 : ∀ d Q, vd_wp d 10 0 [.ref 46, .int (vd_I 80), .int (vd_I 16), .int (vd_I 1), .int (vd_I 1), vd_U, vd_U, vd_U, vd_U] [] (vd_mf (vd_KM6 L xs) g3) Q = Q (vd_mf (vd_KM6 L xs) g4) (.inl none) := a2
  have e_vd_C8d := fun (d : Nat) Q => vd_C8d L xs d g4 Q
  obtain ⟨g5, a3, s3, c3⟩ := vd_fillS (M := vd_KM6 L xs) (o := 46) (len := 1520) (first := 336) (n := 32) (wx := 1) (wy := 1) (K := 63) (N := 2048) (by decide) rfl rfl (by decide) (by decide) (by decide) (by decide) (by decide) vd_n32_1_1_2048 (by decide) (by decide) (by decide) vd_n32_1_1_2016 g4
  have z_g5 : vd_Zi 52 g5 := vd_Zi.fill z_g4 (o := 46) (fun i => by unfold vd_sp; omega) (fun c i q => c3 c i (by omega))
  have w3 : ∀ d Q, vd_wp d 10 0 [.ref 46, .int (vd_I 336), .int (vd_I 32), .int (vd_I 1), .int (vd_I 1), vd_U, vd_U, vd_U, vd_U] [] (vd_mf (vd_KM6 L xs) g4) Q = Q (vd_mf (vd_KM6 L xs) g5) (.inl none) := a3
  have e_vd_C8e := fun (d : Nat) Q => vd_C8e L xs d g5 Q
  obtain ⟨g6, a4, s4, c4⟩ := vd_fillS (M := vd_KM6 L xs) (o := 46) (len := 1520) (first := 1360) (n := 4) (wx := 1) (wy := 4) (K := 16) (N := 80) (by decide) rfl rfl (by decide) (by decide) (by decide) (by decide) (by decide) vd_n4_1_4_80 (by decide) (by decide) (by decide) vd_n4_1_4_64 g5
  have z_g6 : vd_Zi 52 g6 := vd_Zi.fill z_g5 (o := 46) (fun i => by unfold vd_sp; omega) (fun c i q => c4 c i (by omega))
  have w4 : ∀ d Q, vd_wp d 10 0 [.ref 46, .int (vd_I 1360), .int (vd_I 4), .int (vd_I 1), .int (vd_I 4), vd_U, vd_U, vd_U, vd_U] [] (vd_mf (vd_KM6 L xs) g5) Q = Q (vd_mf (vd_KM6 L xs) g6) (.inl none) := a4
  have e_vd_C8f := fun (d : Nat) Q => vd_C8f L xs d g6 Q
  obtain ⟨g7, a5, s5, c5⟩ := vd_fillS (M := vd_KM6 L xs) (o := 46) (len := 1520) (first := 1376) (n := 8) (wx := 1) (wy := 4) (K := 36) (N := 320) (by decide) rfl rfl (by decide) (by decide) (by decide) (by decide) (by decide) vd_n8_1_4_320 (by decide) (by decide) (by decide) vd_n8_1_4_288 g6
  have z_g7 : vd_Zi 52 g7 := vd_Zi.fill z_g6 (o := 46) (fun i => by unfold vd_sp; omega) (fun c i q => c5 c i (by omega))
  have w5 : ∀ d Q, vd_wp d 10 0 [.ref 46, .int (vd_I 1376), .int (vd_I 8), .int (vd_I 1), .int (vd_I 4), vd_U, vd_U, vd_U, vd_U] [] (vd_mf (vd_KM6 L xs) g6) Q = Q (vd_mf (vd_KM6 L xs) g7) (.inl none) := a5
  have e_vd_C8g := fun (d : Nat) Q => vd_C8g L xs d g7 Q
  obtain ⟨g8, a6, s6, c6⟩ := vd_fillS (M := vd_KM6 L xs) (o := 46) (len := 1520) (first := 1440) (n := 4) (wx := 4) (wy := 1) (K := 16) (N := 80) (by decide) rfl rfl (by decide) (by decide) (by decide) (by decide) (by decide) vd_n4_4_1_80 (by decide) (by decide) (by decide) vd_n4_4_1_64 g7
  have z_g8 : vd_Zi 52 g8 := vd_Zi.fill z_g7 (o := 46) (fun i => by unfold vd_sp; omega) (fun c i q => c6 c i (by omega))
  have w6 : ∀ d Q, vd_wp d 10 0 [.ref 46, .int (vd_I 1440), .int (vd_I 4), .int (vd_I 4), .int (vd_I 1), vd_U, vd_U, vd_U, vd_U] [] (vd_mf (vd_KM6 L xs) g7) Q = Q (vd_mf (vd_KM6 L xs) g8) (.inl none) := a6
  have e_vd_C8h := fun (d : Nat) Q => vd_C8h L xs d g8 Q
  obtain ⟨g9, a7, s7, c7⟩ := vd_fillS (M := vd_KM6 L xs) (o := 46) (len := 1520) (first := 1456) (n := 8) (wx := 4) (wy := 1) (K := 36) (N := 320) (by decide) rfl rfl (by decide) (by decide) (by decide) (by decide) (by decide) vd_n8_4_1_320 (by decide) (by decide) (by decide) vd_n8_4_1_288 g8
  have z_g9 : vd_Zi 52 g9 := vd_Zi.fill z_g8 (o := 46) (fun i => by unfold vd_sp; omega) (fun c i q => c7 c i (by omega))
  have w7 : ∀ d Q, vd_wp d 10 0 [.ref 46, .int (vd_I 1456), .int (vd_I 8), .int (vd_I 4), .int (vd_I 1), vd_U, vd_U, vd_U, vd_U] [] (vd_mf (vd_KM6 L xs) g8) Q = Q (vd_mf (vd_KM6 L xs) g9) (.inl none) := a7
  have e_vd_C8i := fun (d : Nat) Q => vd_C8i L xs d g9 Q
  obtain ⟨g10, a8, s8, c8⟩ := vd_L8k (M := vd_KM6 L xs) (o := 45) (w := 47) 34 20 37 rfl rfl (by decide) rfl rfl rfl rfl 32 0 g9 vd_U (by omega) (fun i hi => by rw [c7 0 i (by omega), c6 0 i (by omega), c5 0 i (by omega), c4 0 i (by omega), c3 0 i (by omega), c2 0 i (by omega), c1 0 i (by omega), c0 0 i (by omega), F_vd_C8a.2 0 i (by omega) (by omega)]; exact hW i hi) (fun i hi => by omega)
  have z_g10 : vd_Zi 52 g10 := vd_Zi.fill z_g9 (o := 47) (fun i => by unfold vd_sp; omega) (fun c i q => c8 c i (by omega))
  have w8 : ∀ d Q, vd_wp (d + 1) 8 199 [.ref 45, .ref 34, .ref 20, .ref 37, .int (vd_I 0), vd_U] [] (vd_mf (vd_KM6 L xs) g9) Q = Q (vd_mf (vd_KM6 L xs) g10) (.inl none) := a8
  refine ⟨g10, fun d Q => ?_, z_g10, ⟨?_, ?_, ?_, ?_, ?_, ?_, ?_, ?_⟩, s8, fun c i h1 h2 => by rw [c8 c i (by omega), c7 c i (by omega), c6 c i (by omega), c5 c i (by omega), c4 c i (by omega), c3 c i (by omega), c2 c i (by omega), c1 c i (by omega), c0 c i (by omega), F_vd_C8a.2 c i (by omega) (by omega)]⟩
  · simp only [e_vd_C8a, w0, e_vd_C8b, w1, e_vd_C8c, w2, e_vd_C8d, w3, e_vd_C8e, w4, e_vd_C8f, w5, e_vd_C8g, w6, e_vd_C8h, w7, e_vd_C8i, w8, vd_rs_n]
  · intro i hi
    rw [c8 46 (0 + i) (by omega), c7 46 (0 + i) (by omega), c6 46 (0 + i) (by omega), c5 46 (0 + i) (by omega), c4 46 (0 + i) (by omega), c3 46 (0 + i) (by omega), c2 46 (0 + i) (by omega), c1 46 (0 + i) (by omega)]
    exact s0 i hi
  · intro i hi
    rw [c8 46 (16 + i) (by omega), c7 46 (16 + i) (by omega), c6 46 (16 + i) (by omega), c5 46 (16 + i) (by omega), c4 46 (16 + i) (by omega), c3 46 (16 + i) (by omega), c2 46 (16 + i) (by omega)]
    exact s1 i hi
  · intro i hi
    rw [c8 46 (80 + i) (by omega), c7 46 (80 + i) (by omega), c6 46 (80 + i) (by omega), c5 46 (80 + i) (by omega), c4 46 (80 + i) (by omega), c3 46 (80 + i) (by omega)]
    exact s2 i hi
  · intro i hi
    rw [c8 46 (336 + i) (by omega), c7 46 (336 + i) (by omega), c6 46 (336 + i) (by omega), c5 46 (336 + i) (by omega), c4 46 (336 + i) (by omega)]
    exact s3 i hi
  · intro i hi
    rw [c8 46 (1360 + i) (by omega), c7 46 (1360 + i) (by omega), c6 46 (1360 + i) (by omega), c5 46 (1360 + i) (by omega)]
    exact s4 i hi
  · intro i hi
    rw [c8 46 (1376 + i) (by omega), c7 46 (1376 + i) (by omega), c6 46 (1376 + i) (by omega)]
    exact s5 i hi
  · intro i hi
    rw [c8 46 (1440 + i) (by omega), c7 46 (1440 + i) (by omega)]
    exact s6 i hi
  · intro i hi
    rw [c8 46 (1456 + i) (by omega)]
    exact s7 i hi
set_option maxRecDepth 20000 in
theorem vd_ct13 {f : Nat → Nat → Int32} (hT : ∀ m, m < 72 → f 4 m = vd_I (vd_tapL.getD m 0)) (hz : vd_Zi 55 f) : ∃ f' : Nat → Nat → Int32, (∀ d Q, vd_wp d 13 0 [.ref 54, .ref 17, .ref 37, vd_U, vd_U, vd_U] [] (vd_mf (vd_KM7 L xs) f) Q = Q (vd_mf (vd_KM8 L xs) f') (.inl none)) ∧ vd_Zi 60 f' ∧ vd_TB f' ∧ (∀ c i, c < 55 → c ≠ 8 → f' c i = f c i) := by
  obtain ⟨g1, hg1⟩ : ∃ g, g = (vd_nz0 (vd_nz0 (vd_nz0 (vd_nz0 (vd_nz0 f 55) 56) 57) 58) 59) := ⟨_, rfl⟩
  have F_vd_C13a := vd_C13a_f f
  rw [← hg1] at F_vd_C13a
  have e_vd_C13a := fun (d : Nat) Q => vd_C13a L xs d f Q
  rw [← hg1] at e_vd_C13a
  have z_g1 := F_vd_C13a.1 hz
  have z57 : ∀ i, g1 57 i = vd_I 0 := fun i => by rw [hg1, vd_nz0_ne (by omega), vd_nz0_ne (by omega), vd_nz0_eq]
  obtain ⟨g2, a0, s0, c0⟩ := vd_L13p (M := vd_KM8 L xs) (o := 54) (t := 57) 17 37 rfl rfl (by decide) rfl rfl rfl rfl 16 0 g1 vd_U vd_U (by omega) (fun m hm => by rw [F_vd_C13a.2 4 m (by omega) (by omega)]; exact hT m hm) (fun q i _ _ _ _ => z57 _) (fun k q i _ h _ => absurd h (Nat.not_lt_zero _))
  have z_g2 : vd_Zi 60 g2 := vd_Zi.fill z_g1 (o := 57) (fun i => by unfold vd_sp; omega) (fun c i q => c0 c i (by omega))
  have w0 : ∀ d Q, vd_wp d 13 57 [.ref 54, .ref 17, .ref 37, .int (vd_I 0), vd_U, vd_U] [] (vd_mf (vd_KM8 L xs) g1) Q = Q (vd_mf (vd_KM8 L xs) g2) (.inl none) := a0
  refine ⟨g2, fun d Q => ?_, z_g2, s0, fun c i h1 h2 => by rw [c0 c i (by omega), F_vd_C13a.2 c i (by omega) (by omega)]⟩
  simp only [e_vd_C13a, w0]
set_option maxRecDepth 20000 in
theorem vd_ct7 {f : Nat → Nat → Int32} (hW : ∀ i, i < 33 → f 0 i = vd_I (vd_gL.getD i 0)) (hT : ∀ m, m < 72 → f 4 m = vd_I (vd_tapL.getD m 0)) (hz : vd_Zi 45 f) : ∃ f' : Nat → Nat → Int32, (∀ d Q, vd_wp (d + 2) 7 0 [.ref 44, .ref 34, .ref 17, .ref 20, .ref 37] [] (vd_mf (vd_KM4 L xs) f) Q = Q (vd_mf (vd_KM9 L xs) f') (.inl none)) ∧ vd_Zi 60 f' ∧ vd_c46 f' ∧ (∀ i, i < 1024 → f' 47 i = vd_I (vd_Tc 32 (i / 32) (i % 32))) ∧ vd_TB f' ∧ (∀ c i, c < 45 → c ≠ 8 → f' c i = f c i) := by
  obtain ⟨g1, hg1⟩ : ∃ g, g = (vd_nz0 f 45) := ⟨_, rfl⟩
  have F_vd_C7a := vd_C7a_f f
  rw [← hg1] at F_vd_C7a
  have e_vd_C7a := fun (d : Nat) Q => vd_C7a L xs d f Q
  rw [← hg1] at e_vd_C7a
  have z_g1 := F_vd_C7a.1 hz
  obtain ⟨g2, w0, z0, s0, t0, c0⟩ := vd_ct8 L xs (f := g1) (fun i hi => by rw [F_vd_C7a.2 0 i (by omega) (by omega)]; exact hW i hi) z_g1
  have z_g2 : vd_Zi 52 g2 := z0
  obtain ⟨g3, hg3⟩ : ∃ g, g = (vd_nz0 (vd_nz0 (vd_nz0 g2 52) 53) 54) := ⟨_, rfl⟩
  have F_vd_C7b := vd_C7b_f g2
  rw [← hg3] at F_vd_C7b
  have e_vd_C7b := fun (d : Nat) Q => vd_C7b L xs d g2 Q
  rw [← hg3] at e_vd_C7b
  have z_g3 := F_vd_C7b.1 z_g2
  obtain ⟨g4, w1, z1, s1, c1⟩ := vd_ct13 L xs (f := g3) (fun i hi => by rw [F_vd_C7b.2 4 i (by omega) (by omega), c0 4 i (by omega) (by omega), F_vd_C7a.2 4 i (by omega) (by omega)]; exact hT i hi) z_g3
  have z_g4 : vd_Zi 60 g4 := z1
  have e_vd_C7c := fun (d : Nat) Q => vd_C7c L xs d g4 Q
  have kk : ∀ c i, c < 52 → c ≠ 8 → g4 c i = g2 c i := fun c i q1 q2 => by rw [c1 c i (by omega) (by omega), F_vd_C7b.2 c i (by omega) (by omega)]
  have w1' : ∀ d Q, vd_wp (d + 1) 13 0 [.ref 54, .ref 17, .ref 37, vd_U, vd_U, vd_U] [] (vd_mf (vd_KM7 L xs) g3) Q = Q (vd_mf (vd_KM8 L xs) g4) (.inl none) := fun d Q => w1 (d + 1) Q
  refine ⟨g4, fun d Q => ?_, z_g4, ?_, fun i hi => by rw [kk 47 i (by omega) (by omega)]; exact t0 i hi, s1, fun c i h1 h2 => by rw [c1 c i (by omega) (by omega), F_vd_C7b.2 c i (by omega) (by omega), c0 c i (by omega) (by omega), F_vd_C7a.2 c i (by omega) (by omega)]⟩
  · simp only [e_vd_C7a, w0, e_vd_C7b, w1', e_vd_C7c, vd_rs_n]
  · unfold vd_c46 at *
    simp only [kk 46 _ (show 46 < 52 by decide) (show 46 ≠ 8 by decide)]
    exact s0
/-- what the class's constructor has made of its tables -/
def vd_cls0 (f : Nat → Nat → Int32) : Prop := vd_c46 f ∧ (∀ i, i < 1024 → f 47 i = vd_I (vd_Tc 32 (i / 32) (i % 32))) ∧ vd_TB f ∧ vd_crcT f ∧ (∀ i, i < 11764 → f 14 i = vd_I 128) ∧ f 10 3 = vd_I (-1) ∧ f 10 6 = vd_I (-1)
theorem vd_cls0.keep {f f' : Nat → Nat → Int32} (h : vd_cls0 f) (k : ∀ c i, 10 ≤ c → c < 63 → f' c i = f c i) : vd_cls0 f' := by
  obtain ⟨h1, h2, h3, h4, h5, h6, h7⟩ := h
  refine ⟨?_, fun i hi => by rw [k 47 i (by omega) (by omega)]; exact h2 i hi, fun a t i q1 q2 q3 => by rw [k 57 _ (by omega) (by omega)]; exact h3 a t i q1 q2 q3, fun i hi => by rw [k 15 i (by omega) (by omega)]; exact h4 i hi, fun i hi => by rw [k 14 i (by omega) (by omega)]; exact h5 i hi, by rw [k 10 3 (by omega) (by omega)]; exact h6, by rw [k 10 6 (by omega) (by omega)]; exact h7⟩
  unfold vd_c46 at *
  simp only [k 46 _ (show 10 ≤ 46 by decide) (show 46 < 63 by decide)]
  exact h1
set_option maxRecDepth 20000 in
theorem vd_ct1 {f : Nat → Nat → Int32} (hW : ∀ i, i < 33 → f 0 i = vd_I (vd_gL.getD i 0)) (hT : ∀ m, m < 72 → f 4 m = vd_I (vd_tapL.getD m 0)) (hz : vd_Zi 11 f) : ∃ f' : Nat → Nat → Int32, (∀ d Q, vd_wp (d + 3) 1 0 [.ref 10, vd_U, vd_U, vd_U] [] (vd_mf (vd_KM1 L xs) f) Q = Q (vd_mf (vd_KM10 L xs) f') (.inl none)) ∧ vd_Zi 63 f' ∧ vd_cls0 f' ∧ (∀ c i, c < 10 → c ≠ 8 → f' c i = f c i) := by
  obtain ⟨g1, hg1⟩ : ∃ g, g = (vd_nz0 (vd_nz0 (vd_nz0 (vd_nz0 (vd_nz0 (vd_nz0 (vd_nz0 (vd_nz0 (vd_up (vd_up (vd_nz0 f 11) 10 3 (vd_I (-1))) 10 6 (vd_I (-1))) 12) 13) 14) 15) 16) 17) 18) 19) := ⟨_, rfl⟩
  have F_vd_C1a := vd_C1a_f f
  rw [← hg1] at F_vd_C1a
  have e_vd_C1a := fun (d : Nat) Q => vd_C1a L xs d f Q
  rw [← hg1] at e_vd_C1a
  have z_g1 := F_vd_C1a.1 hz
  obtain ⟨g2, hg2⟩ : ∃ g, g = (vd_nz0 (vd_nz0 (vd_nz0 (vd_nz0 (vd_nz0 (vd_nz0 (vd_nz0 (vd_nz0 (vd_nz0 (vd_nz0 (vd_nz0 (vd_nz0 (vd_nz0 (vd_nz0 (vd_nz0 (vd_nz0 (vd_nz0 (vd_nz0 (vd_nz0 (vd_nz0 (vd_nz0 (vd_nz0 (vd_nz0 (vd_nz0 g1 20) 21) 22) 23) 24) 25) 26) 27) 28) 29) 30) 31) 32) 33) 34) 35) 36) 37) 38) 39) 40) 41) 42) 43) := ⟨_, rfl⟩
  have F_vd_C1b := vd_C1b_f g1
  rw [← hg2] at F_vd_C1b
  have e_vd_C1b := fun (d : Nat) Q => vd_C1b L xs d g1 Q
  rw [← hg2] at e_vd_C1b
  have z_g2 := F_vd_C1b.1 z_g1
  obtain ⟨g3, hg3⟩ : ∃ g, g = (vd_nz0 g2 44) := ⟨_, rfl⟩
  have F_vd_C1c := vd_C1c_f g2
  rw [← hg3] at F_vd_C1c
  have e_vd_C1c := fun (d : Nat) Q => vd_C1c L xs d g2 Q
  rw [← hg3] at e_vd_C1c
  have z_g3 := F_vd_C1c.1 z_g2
  obtain ⟨g4, w0, z0, s0, t0, u0, c0⟩ := vd_ct7 L xs (f := g3) (fun i hi => by rw [F_vd_C1c.2 0 i (by omega) (by omega), F_vd_C1b.2 0 i (by omega) (by omega), F_vd_C1a.2 0 i (by omega) (by omega)]; exact hW i hi) (fun i hi => by rw [F_vd_C1c.2 4 i (by omega) (by omega), F_vd_C1b.2 4 i (by omega) (by omega), F_vd_C1a.2 4 i (by omega) (by omega)]; exact hT i hi) z_g3
  have z_g4 : vd_Zi 60 g4 := z0
  obtain ⟨g5, hg5⟩ : ∃ g, g = (vd_nz0 (vd_nz0 (vd_nz0 g4 60) 61) 62) := ⟨_, rfl⟩
  have F_vd_C1x := vd_C1x_f g4
  rw [← hg5] at F_vd_C1x
  have e_vd_C1x := fun (d : Nat) Q => vd_C1x L xs d g4 Q
  rw [← hg5] at e_vd_C1x
  have z_g5 := F_vd_C1x.1 z_g4
  obtain ⟨g6, hg6⟩ : ∃ g, g = vd_uf g5 14 0 11764 (vd_I 128) := ⟨_, rfl⟩
  have w1 := fun (d : Nat) Q => vd_F286 (M := vd_KM10 L xs) (f := g5) (d := d) (Q := Q) (o := 14) (len := 11764) (x := vd_I 128) (by decide) rfl rfl (by decide)
  rw [← hg6] at w1
  have c1 : ∀ c i, c ≠ 14 → g6 c i = g5 c i := fun c i q => by rw [hg6, vd_uf_ne (by omega)]
  have z_g6 : vd_Zi 63 g6 := vd_Zi.fill z_g5 (o := 14) (fun i => by unfold vd_sp; omega) c1
  have e_vd_C1y := fun (d : Nat) Q => vd_C1y L xs d g6 Q
  obtain ⟨g7, a2, s2, c2⟩ := vd_L1t (M := vd_KM10 L xs) (o := 10) (c := 15) rfl rfl (by decide) rfl rfl 256 0 g6 vd_U vd_U (by omega) (fun i hi => absurd hi (Nat.not_lt_zero _))
  have z_g7 : vd_Zi 63 g7 := vd_Zi.fill z_g6 (o := 15) (fun i => by unfold vd_sp; omega) (fun c i q => c2 c i (by omega))
  have w2 : ∀ d Q, vd_wp d 1 190 [.ref 10, .int (vd_I 0), vd_U, vd_U] [] (vd_mf (vd_KM10 L xs) g6) Q = Q (vd_mf (vd_KM10 L xs) g7) (.inl none) := a2
  have kA : ∀ c i, c ≠ 14 → c ≠ 15 → c < 60 → c ≠ 8 → g7 c i = g4 c i := fun c i q1 q2 q3 q4 => by rw [c2 c i q2, c1 c i q1, F_vd_C1x.2 c i (by omega) (by omega)]
  have kB : ∀ i, g4 10 i = g1 10 i := fun i => by rw [c0 10 i (by omega) (by omega), F_vd_C1c.2 10 i (by omega) (by omega), F_vd_C1b.2 10 i (by omega) (by omega)]
  have v3 := vd_C1a_v10_3 f
  have v6 := vd_C1a_v10_6 f
  rw [← hg1] at v3 v6
  have w1' : ∀ d Q, vd_wp (d + 2) 286 0 [.ref 14, .int (vd_I 128), vd_U, vd_U] [] (vd_mf (vd_KM10 L xs) g5) Q = Q (vd_mf (vd_KM10 L xs) g6) (.inl none) := fun d Q => w1 (d + 2) Q
  have w2' : ∀ d Q, vd_wp (d + 3) 1 190 [.ref 10, .int (vd_I 0), vd_U, vd_U] [] (vd_mf (vd_KM10 L xs) g6) Q = Q (vd_mf (vd_KM10 L xs) g7) (.inl none) := fun d Q => w2 (d + 3) Q
  refine ⟨g7, fun d Q => ?_, z_g7, ⟨?_, fun i hi => by rw [kA 47 i (by omega) (by omega) (by omega) (by omega)]; exact t0 i hi, fun a t i q1 q2 q3 => by rw [kA 57 _ (by omega) (by omega) (by omega) (by omega)]; exact u0 a t i q1 q2 q3, s2, fun i hi => ?_, ?_, ?_⟩, fun c i h1 h2 => by rw [c2 c i (by omega), c1 c i (by omega), F_vd_C1x.2 c i (by omega) (by omega), c0 c i (by omega) (by omega), F_vd_C1c.2 c i (by omega) (by omega), F_vd_C1b.2 c i (by omega) (by omega), F_vd_C1a.2 c i (by omega) (by omega)]⟩
  · simp only [e_vd_C1a, e_vd_C1b, e_vd_C1c, w0, e_vd_C1x, w1', e_vd_C1y, w2', vd_rs_n]
  · unfold vd_c46 at *
    simp only [kA 46 _ (show 46 ≠ 14 by decide) (show 46 ≠ 15 by decide) (show 46 < 60 by decide) (show 46 ≠ 8 by decide)]
    exact s0
  · rw [c2 14 i (by omega), hg6, vd_uf_in (Nat.zero_le i) hi]
  · rw [kA 10 3 (by omega) (by omega) (by omega) (by omega), kB, v3]
  · rw [kA 10 6 (by omega) (by omega) (by omega) (by omega), kB, v6]
end VDST
