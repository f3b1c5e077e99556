/-! ===== the law: its helpers, a call of each kind ===== -/
section VDLA
variable {M M1 : vd_M} {f f1 : Nat → Nat → Int32} {t : Int} {L : Nat} {xs : Nat → Int32} {Z : Nat → Nat → Nat → Nat} {c s : Nat}
theorem vd_hp16 (x1 x2 x3 x4 x5 : Int32) {v : Int32} (k10 : vd_k M 10 = 0) (c0 : t = 0 → ∀ d Q, vd_wp (d + 1) 17 0 [.ref 10, .int x1, .int x2, .int x3, .int x4, .int x5] [] (vd_mf M f) Q = Q (vd_mf M1 f1) (.inl (some (.int v)))) (c1 : t = 1 → ∀ d Q, vd_wp (d + 1) 17 0 [.ref 10, .int x1, .int x2, .int x3, .int x4, .int x5] [] (vd_mf M f) Q = Q (vd_new (vd_mf M1 f1) 14 0 6) (.inr (vd_n M1))) (c2 : t = 2 → ∀ d Q, vd_wp (d + 1) 17 0 [.ref 10, .int x1, .int x2, .int x3, .int x4, .int x5] [] (vd_mf M f) Q = Q (vd_new (vd_mf M1 f1) 0 0 6) (.inr (vd_n M1))) (ht : t = 0 ∨ (t = 1 ∧ 14 ≠ 0) ∨ (t = 2 ∧ 0 ≠ 0)) (k196 : vd_k M1 196 = 35) (l196 : vd_l M1 196 = 1) : ∃ (N0 : vd_M) (g0 : Nat → Nat → Int32), (∀ d Q, vd_wp (d + 17) 16 0 [.ref 10, .int x1, .int x2, .int x3, .int x4, .int x5, .ref 196, vd_U] [] (vd_mf M f) Q = Q (vd_mf N0 g0) (.inl (some (.int (vd_I t))))) ∧ vd_Hp M1 N0 f1 g0 ∧ (t = 0 → vd_j N0 196 0 = v.toInt64) := by
  rcases ht with rfl | ⟨rfl, _⟩ | ⟨rfl, q⟩
  · refine ⟨vd_sj M1 196 0 v.toInt64, f1, fun d Q => ?_, vd_Hp.sj M1 f1 196 0 v.toInt64, fun _ => rfl⟩
    have cc : ∀ Q, vd_wp (d + 16) 17 0 [.ref 10, .int x1, .int x2, .int x3, .int x4, .int x5] [] (vd_mf M f) Q = Q (vd_mf M1 f1) (.inl (some (.int v))) := fun Q => c0 rfl (d + 15) Q
    have l0 : (0 : Int) < (vd_l M1 196 : Int) := by rw [l196]; decide
    have t0 : (0 : Int).toNat = 0 := rfl
    simp (disch := first | assumption | omega) only [vd_S16_0, vd_S16_19, vd_S16_23, vd_S16_11, vd_S16_14, vd_S16_15, vd_S16_16, cc, vd_rh_v, t0]
  · refine ⟨vd_new M1 14 0 6, vd_nz0 f1 (vd_n M1), fun d Q => ?_, vd_Hp.new M1 f1 14, fun h => absurd h (by decide)⟩
    have cc : ∀ Q, vd_wp (d + 16) 17 0 [.ref 10, .int x1, .int x2, .int x3, .int x4, .int x5] [] (vd_mf M f) Q = Q (vd_new (vd_mf M1 f1) 14 0 6) (.inr (vd_n M1)) := fun Q => c1 rfl (d + 15) Q
    have kk : vd_hnd (vd_HN 16) 11 (vd_k (vd_mf (vd_new M1 14 0 6) (vd_nz0 f1 (vd_n M1))) (vd_n M1)) = some 19 := by
      show vd_hnd (vd_HN 16) 11 (vd_k (vd_new M1 14 0 6) (vd_n M1)) = some 19
      rw [vd_k_new, if_pos rfl]
      rfl
    simp (disch := first | assumption | omega) only [vd_S16_0, vd_S16_19, vd_S16_23, vd_S16_11, vd_S16_14, vd_S16_15, vd_S16_16, cc, vd_rh_r kk, vd_new_mf]
  · exact absurd rfl q
theorem vd_case0 (h : vd_LW L xs Z c s M f) {i : Nat} (hi : i + 6 ≤ L) (hL : L ≤ 3072) (a5 a6 : Value) : ∃ (M' : vd_M) (f' : Nat → Nat → Int32) (a5' a6' : Value), (∀ d Q, vd_wp (d + 18) 0 96 [.ref 9, .ref 10, .ref 63, .ref 196, .int (vd_I (i : Int)), a5, a6] [] (vd_mf M f) Q = vd_wp (d + 18) 0 757 [.ref 9, .ref 10, .ref 63, .ref 196, .int (vd_I (i : Int)), a5', a6'] [] (vd_mf M' f') Q) ∧ vd_LW L xs Z (c + 9) (s + 54) M' f' := by
  have k9 := h.2.1.1
  have l9 := h.2.1.2.1
  have k10 : vd_k M 10 = 0 := by obtain ⟨⟨_, _, _, _, hA⟩, _⟩ := h; exact hA.1.1.1.k10
  obtain ⟨x1, e1⟩ : ∃ x, f 9 ((i : Int) + 1).toNat = x := ⟨_, rfl⟩
  obtain ⟨x2, e2⟩ : ∃ x, f 9 ((i : Int) + 2).toNat = x := ⟨_, rfl⟩
  obtain ⟨x3, e3⟩ : ∃ x, f 9 ((i : Int) + 3).toNat = x := ⟨_, rfl⟩
  obtain ⟨x4, e4⟩ : ∃ x, f 9 ((i : Int) + 4).toNat = x := ⟨_, rfl⟩
  obtain ⟨x5, e5⟩ : ∃ x, f 9 ((i : Int) + 5).toNat = x := ⟨_, rfl⟩
  obtain ⟨M1, f1, t, v, c0, c1, c2, ht, ⟨k196, l196, n197, h9, k9a, l9a⟩, hR⟩ := vd_one h (by decide) (fun N g _ _ _ _ hA => vd_feed hA x1 x2 x3 x4 x5)
  obtain ⟨N0, g0, eH, hp, hj⟩ := vd_hp16 x1 x2 x3 x4 x5 k10 c0 c1 c2 ht k196 l196
  obtain ⟨hN0, N2, g2, v', eR, g63, hv, hW, hj2⟩ := hR N0 g0 hp
  have k9' : vd_k N0 9 = 32 := by rw [(hp.1 9 (by omega)).1, k9a]
  have l9' : vd_l N0 9 = L := by rw [(hp.1 9 (by omega)).2, l9a]
  have k63 : vd_k N0 63 = 12 := hN0.k63
  have e1' : g0 9 ((i : Int) + 1).toNat = x1 := by rw [(hp.2.1 9 _ (by omega)).2, h9, e1]
  have e2' : g0 9 ((i : Int) + 2).toNat = x2 := by rw [(hp.2.1 9 _ (by omega)).2, h9, e2]
  have e3' : g0 9 ((i : Int) + 3).toNat = x3 := by rw [(hp.2.1 9 _ (by omega)).2, h9, e3]
  have e4' : g0 9 ((i : Int) + 4).toNat = x4 := by rw [(hp.2.1 9 _ (by omega)).2, h9, e4]
  have e5' : g0 9 ((i : Int) + 5).toNat = x5 := by rw [(hp.2.1 9 _ (by omega)).2, h9, e5]
  have b1 : ((i : Int) + 1) < (vd_l M 9 : Int) := by rw [l9]; omega
  have b1' : ((i : Int) + 1) < (vd_l N0 9 : Int) := by rw [l9']; omega
  have b2 : ((i : Int) + 2) < (vd_l M 9 : Int) := by rw [l9]; omega
  have b2' : ((i : Int) + 2) < (vd_l N0 9 : Int) := by rw [l9']; omega
  have b3 : ((i : Int) + 3) < (vd_l M 9 : Int) := by rw [l9]; omega
  have b3' : ((i : Int) + 3) < (vd_l N0 9 : Int) := by rw [l9']; omega
  have b4 : ((i : Int) + 4) < (vd_l M 9 : Int) := by rw [l9]; omega
  have b4' : ((i : Int) + 4) < (vd_l N0 9 : Int) := by rw [l9']; omega
  have b5 : ((i : Int) + 5) < (vd_l M 9 : Int) := by rw [l9]; omega
  have b5' : ((i : Int) + 5) < (vd_l N0 9 : Int) := by rw [l9']; omega
  have hN2 : vd_SR N2 := by obtain ⟨⟨_, _, _, _, hA⟩, _⟩ := hW; exact hA.1.1.2.1
  have k63' : vd_k N2 63 = 12 := hN2.k63
  have k196' : vd_k N2 196 = 35 := hW.2.2.1.1
  have l196' : (0 : Int) < (vd_l N2 196 : Int) := by rw [hW.2.2.1.2]; decide
  have t0 : (0 : Int).toNat = 0 := rfl
  refine ⟨N2, g2, .int (vd_I t), .int v', fun d Q => ?_, hW.mono (by omega) (by omega)⟩
  have eH' : ∀ Q, vd_wp (d + 17) 16 0 [.ref 10, .int x1, .int x2, .int x3, .int x4, .int x5, .ref 196, vd_U] [] (vd_mf M f) Q = Q (vd_mf N0 g0) (.inl (some (.int (vd_I t)))) := fun Q => eH d Q
  have eR' : ∀ Q, vd_wp (d + 17) 167 0 [.ref 63, .int x1, .int x2, .int x3, .int x4, .int x5, vd_U, vd_U] [] (vd_mf N0 g0) Q = Q (vd_mf N2 g2) (.inl (some (.int v'))) := fun Q => eR (d + 16) Q
  rcases ht with rfl | ⟨rfl, _⟩ | ⟨rfl, q⟩
  · have hcmp : (lg_cmp (vd_j N2 196 0) v'.toInt64).toInt = 0 := by rw [hj2, hj rfl, hv rfl, vd_cmpS]; decide
    simp (disch := first | assumption | omega) only [vd_S0_0, vd_S0_33, vd_S0_96, vd_S0_178, vd_S0_180, vd_S0_185, vd_S0_195, vd_S0_197, vd_S0_200, vd_S0_234, vd_S0_236, vd_S0_241, vd_S0_251, vd_S0_253, vd_S0_256, vd_S0_278, vd_S0_280, vd_S0_285, vd_S0_295, vd_S0_297, vd_S0_300, vd_S0_334, vd_S0_336, vd_S0_341, vd_S0_351, vd_S0_353, vd_S0_356, vd_S0_426, vd_S0_428, vd_S0_433, vd_S0_443, vd_S0_445, vd_S0_448, vd_S0_494, vd_S0_496, vd_S0_501, vd_S0_511, vd_S0_513, vd_S0_516, vd_S0_562, vd_S0_564, vd_S0_569, vd_S0_579, vd_S0_581, vd_S0_584, vd_S0_630, vd_S0_632, vd_S0_637, vd_S0_647, vd_S0_649, vd_S0_652, vd_S0_710, vd_S0_712, vd_S0_717, vd_S0_727, vd_S0_729, vd_S0_732, vd_S0_755, vd_S0_763, vd_S0_3, vd_S0_26, vd_S0_36, vd_S0_102, vd_S0_187, vd_S0_206, vd_S0_243, vd_S0_258, vd_S0_287, vd_S0_306, vd_S0_343, vd_S0_362, vd_S0_435, vd_S0_454, vd_S0_503, vd_S0_522, vd_S0_571, vd_S0_590, vd_S0_639, vd_S0_658, vd_S0_719, vd_S0_738, vd_S0_4, vd_S0_40, vd_S0_108, vd_S0_208, vd_S0_261, vd_S0_308, vd_S0_368, vd_S0_460, vd_S0_528, vd_S0_596, vd_S0_664, vd_S0_739, vd_S0_7, vd_S0_114, vd_S0_211, vd_S0_264, vd_S0_311, vd_S0_374, vd_S0_462, vd_S0_530, vd_S0_598, vd_S0_670, vd_S0_742, vd_S0_8, vd_S0_120, vd_S0_219, vd_S0_267, vd_S0_319, vd_S0_380, vd_S0_465, vd_S0_533, vd_S0_601, vd_S0_672, vd_S0_748, vd_S0_11, vd_S0_126, vd_S0_220, vd_S0_270, vd_S0_320, vd_S0_382, vd_S0_473, vd_S0_541, vd_S0_609, vd_S0_675, vd_S0_749, vd_S0_12, vd_S0_128, vd_S0_223, vd_S0_273, vd_S0_323, vd_S0_385, vd_S0_479, vd_S0_547, vd_S0_615, vd_S0_683, vd_S0_752, vd_S0_15, vd_S0_131, vd_S0_226, vd_S0_326, vd_S0_393, vd_S0_480, vd_S0_548, vd_S0_616, vd_S0_689, vd_S0_17, vd_S0_139, vd_S0_229, vd_S0_329, vd_S0_399, vd_S0_483, vd_S0_551, vd_S0_619, vd_S0_695, vd_S0_19, vd_S0_145, vd_S0_405, vd_S0_486, vd_S0_554, vd_S0_622, vd_S0_696, vd_S0_151, vd_S0_411, vd_S0_489, vd_S0_557, vd_S0_625, vd_S0_699, vd_S0_157, vd_S0_412, vd_S0_702, vd_S0_163, vd_S0_415, vd_S0_705, vd_S0_164, vd_S0_418, vd_S0_167, vd_S0_421, vd_S0_170, vd_S0_173, vd_I_add, eH', vd_rs_v, eR', vd_S166_0 hN2, g63, eq_self, if_true, vd_I_toInt, t0, hcmp, e1, e1', e2, e2', e3, e3', e4, e4', e5, e5']
  · simp (disch := first | assumption | omega) only [vd_S0_0, vd_S0_33, vd_S0_96, vd_S0_178, vd_S0_180, vd_S0_185, vd_S0_195, vd_S0_197, vd_S0_200, vd_S0_234, vd_S0_236, vd_S0_241, vd_S0_251, vd_S0_253, vd_S0_256, vd_S0_278, vd_S0_280, vd_S0_285, vd_S0_295, vd_S0_297, vd_S0_300, vd_S0_334, vd_S0_336, vd_S0_341, vd_S0_351, vd_S0_353, vd_S0_356, vd_S0_426, vd_S0_428, vd_S0_433, vd_S0_443, vd_S0_445, vd_S0_448, vd_S0_494, vd_S0_496, vd_S0_501, vd_S0_511, vd_S0_513, vd_S0_516, vd_S0_562, vd_S0_564, vd_S0_569, vd_S0_579, vd_S0_581, vd_S0_584, vd_S0_630, vd_S0_632, vd_S0_637, vd_S0_647, vd_S0_649, vd_S0_652, vd_S0_710, vd_S0_712, vd_S0_717, vd_S0_727, vd_S0_729, vd_S0_732, vd_S0_755, vd_S0_763, vd_S0_3, vd_S0_26, vd_S0_36, vd_S0_102, vd_S0_187, vd_S0_206, vd_S0_243, vd_S0_258, vd_S0_287, vd_S0_306, vd_S0_343, vd_S0_362, vd_S0_435, vd_S0_454, vd_S0_503, vd_S0_522, vd_S0_571, vd_S0_590, vd_S0_639, vd_S0_658, vd_S0_719, vd_S0_738, vd_S0_4, vd_S0_40, vd_S0_108, vd_S0_208, vd_S0_261, vd_S0_308, vd_S0_368, vd_S0_460, vd_S0_528, vd_S0_596, vd_S0_664, vd_S0_739, vd_S0_7, vd_S0_114, vd_S0_211, vd_S0_264, vd_S0_311, vd_S0_374, vd_S0_462, vd_S0_530, vd_S0_598, vd_S0_670, vd_S0_742, vd_S0_8, vd_S0_120, vd_S0_219, vd_S0_267, vd_S0_319, vd_S0_380, vd_S0_465, vd_S0_533, vd_S0_601, vd_S0_672, vd_S0_748, vd_S0_11, vd_S0_126, vd_S0_220, vd_S0_270, vd_S0_320, vd_S0_382, vd_S0_473, vd_S0_541, vd_S0_609, vd_S0_675, vd_S0_749, vd_S0_12, vd_S0_128, vd_S0_223, vd_S0_273, vd_S0_323, vd_S0_385, vd_S0_479, vd_S0_547, vd_S0_615, vd_S0_683, vd_S0_752, vd_S0_15, vd_S0_131, vd_S0_226, vd_S0_326, vd_S0_393, vd_S0_480, vd_S0_548, vd_S0_616, vd_S0_689, vd_S0_17, vd_S0_139, vd_S0_229, vd_S0_329, vd_S0_399, vd_S0_483, vd_S0_551, vd_S0_619, vd_S0_695, vd_S0_19, vd_S0_145, vd_S0_405, vd_S0_486, vd_S0_554, vd_S0_622, vd_S0_696, vd_S0_151, vd_S0_411, vd_S0_489, vd_S0_557, vd_S0_625, vd_S0_699, vd_S0_157, vd_S0_412, vd_S0_702, vd_S0_163, vd_S0_415, vd_S0_705, vd_S0_164, vd_S0_418, vd_S0_167, vd_S0_421, vd_S0_170, vd_S0_173, vd_I_add, eH', vd_rs_v, eR', vd_S166_0 hN2, g63, eq_self, if_true, vd_I_toInt, show ¬ ((1 : Int) = 0) by decide, if_false, e1, e1', e2, e2', e3, e3', e4, e4', e5, e5']
  · exact absurd rfl q
theorem vd_hp19 (x1 : Int32) {v : Int32} (k10 : vd_k M 10 = 0) (c0 : t = 0 → ∀ d Q, vd_wp (d + 1) 20 0 [.ref 10, .int x1] [] (vd_mf M f) Q = Q (vd_mf M1 f1) (.inl (some (.int v)))) (c1 : t = 1 → ∀ d Q, vd_wp (d + 1) 20 0 [.ref 10, .int x1] [] (vd_mf M f) Q = Q (vd_new (vd_mf M1 f1) 15 0 6) (.inr (vd_n M1))) (c2 : t = 2 → ∀ d Q, vd_wp (d + 1) 20 0 [.ref 10, .int x1] [] (vd_mf M f) Q = Q (vd_new (vd_mf M1 f1) 0 0 6) (.inr (vd_n M1))) (ht : t = 0 ∨ (t = 1 ∧ 15 ≠ 0) ∨ (t = 2 ∧ 0 ≠ 0)) (k196 : vd_k M1 196 = 35) (l196 : vd_l M1 196 = 1) : ∃ (N0 : vd_M) (g0 : Nat → Nat → Int32), (∀ d Q, vd_wp (d + 17) 19 0 [.ref 10, .int x1, .ref 196, vd_U] [] (vd_mf M f) Q = Q (vd_mf N0 g0) (.inl (some (.int (vd_I t))))) ∧ vd_Hp M1 N0 f1 g0 ∧ (t = 0 → vd_j N0 196 0 = v.toInt64) := by
  rcases ht with rfl | ⟨rfl, _⟩ | ⟨rfl, q⟩
  · refine ⟨vd_sj M1 196 0 v.toInt64, f1, fun d Q => ?_, vd_Hp.sj M1 f1 196 0 v.toInt64, fun _ => rfl⟩
    have cc : ∀ Q, vd_wp (d + 16) 20 0 [.ref 10, .int x1] [] (vd_mf M f) Q = Q (vd_mf M1 f1) (.inl (some (.int v))) := fun Q => c0 rfl (d + 15) Q
    have l0 : (0 : Int) < (vd_l M1 196 : Int) := by rw [l196]; decide
    have t0 : (0 : Int).toNat = 0 := rfl
    simp (disch := first | assumption | omega) only [vd_S19_0, vd_S19_12, vd_S19_15, vd_S19_4, vd_S19_7, vd_S19_8, vd_S19_9, cc, vd_rh_v, t0]
  · refine ⟨vd_new M1 15 0 6, vd_nz0 f1 (vd_n M1), fun d Q => ?_, vd_Hp.new M1 f1 15, fun h => absurd h (by decide)⟩
    have cc : ∀ Q, vd_wp (d + 16) 20 0 [.ref 10, .int x1] [] (vd_mf M f) Q = Q (vd_new (vd_mf M1 f1) 15 0 6) (.inr (vd_n M1)) := fun Q => c1 rfl (d + 15) Q
    have kk : vd_hnd (vd_HN 19) 4 (vd_k (vd_mf (vd_new M1 15 0 6) (vd_nz0 f1 (vd_n M1))) (vd_n M1)) = some 12 := by
      show vd_hnd (vd_HN 19) 4 (vd_k (vd_new M1 15 0 6) (vd_n M1)) = some 12
      rw [vd_k_new, if_pos rfl]
      rfl
    simp (disch := first | assumption | omega) only [vd_S19_0, vd_S19_12, vd_S19_15, vd_S19_4, vd_S19_7, vd_S19_8, vd_S19_9, cc, vd_rh_r kk, vd_new_mf]
  · exact absurd rfl q
theorem vd_case1 (h : vd_LW L xs Z c s M f) {i : Nat} (hi : i + 6 ≤ L) (hL : L ≤ 3072) (a5 a6 : Value) : ∃ (M' : vd_M) (f' : Nat → Nat → Int32) (a5' a6' : Value), (∀ d Q, vd_wp (d + 18) 0 200 [.ref 9, .ref 10, .ref 63, .ref 196, .int (vd_I (i : Int)), a5, a6] [] (vd_mf M f) Q = vd_wp (d + 18) 0 757 [.ref 9, .ref 10, .ref 63, .ref 196, .int (vd_I (i : Int)), a5', a6'] [] (vd_mf M' f') Q) ∧ vd_LW L xs Z (c + 9) (s + 54) M' f' := by
  have k9 := h.2.1.1
  have l9 := h.2.1.2.1
  have k10 : vd_k M 10 = 0 := by obtain ⟨⟨_, _, _, _, hA⟩, _⟩ := h; exact hA.1.1.1.k10
  obtain ⟨x1, e1⟩ : ∃ x, f 9 ((i : Int) + 1).toNat = x := ⟨_, rfl⟩
  obtain ⟨M1, f1, t, v, c0, c1, c2, ht, ⟨k196, l196, n197, h9, k9a, l9a⟩, hR⟩ := vd_one h (by decide) (fun N g _ _ _ _ hA => vd_end hA x1)
  obtain ⟨N0, g0, eH, hp, hj⟩ := vd_hp19 x1 k10 c0 c1 c2 ht k196 l196
  obtain ⟨hN0, N2, g2, v', eR, g63, hv, hW, hj2⟩ := hR N0 g0 hp
  have k9' : vd_k N0 9 = 32 := by rw [(hp.1 9 (by omega)).1, k9a]
  have l9' : vd_l N0 9 = L := by rw [(hp.1 9 (by omega)).2, l9a]
  have k63 : vd_k N0 63 = 12 := hN0.k63
  have e1' : g0 9 ((i : Int) + 1).toNat = x1 := by rw [(hp.2.1 9 _ (by omega)).2, h9, e1]
  have b1 : ((i : Int) + 1) < (vd_l M 9 : Int) := by rw [l9]; omega
  have b1' : ((i : Int) + 1) < (vd_l N0 9 : Int) := by rw [l9']; omega
  have hN2 : vd_SR N2 := by obtain ⟨⟨_, _, _, _, hA⟩, _⟩ := hW; exact hA.1.1.2.1
  have k63' : vd_k N2 63 = 12 := hN2.k63
  have k196' : vd_k N2 196 = 35 := hW.2.2.1.1
  have l196' : (0 : Int) < (vd_l N2 196 : Int) := by rw [hW.2.2.1.2]; decide
  have t0 : (0 : Int).toNat = 0 := rfl
  refine ⟨N2, g2, .int (vd_I t), .int v', fun d Q => ?_, hW.mono (by omega) (by omega)⟩
  have eH' : ∀ Q, vd_wp (d + 17) 19 0 [.ref 10, .int x1, .ref 196, vd_U] [] (vd_mf M f) Q = Q (vd_mf N0 g0) (.inl (some (.int (vd_I t)))) := fun Q => eH d Q
  have eR' : ∀ Q, vd_wp (d + 17) 169 0 [.ref 63, .int x1] [] (vd_mf N0 g0) Q = Q (vd_mf N2 g2) (.inl (some (.int v'))) := fun Q => eR (d + 16) Q
  rcases ht with rfl | ⟨rfl, _⟩ | ⟨rfl, q⟩
  · have hcmp : (lg_cmp (vd_j N2 196 0) v'.toInt64).toInt = 0 := by rw [hj2, hj rfl, hv rfl, vd_cmpS]; decide
    simp (disch := first | assumption | omega) only [vd_S0_0, vd_S0_33, vd_S0_96, vd_S0_178, vd_S0_180, vd_S0_185, vd_S0_195, vd_S0_197, vd_S0_200, vd_S0_234, vd_S0_236, vd_S0_241, vd_S0_251, vd_S0_253, vd_S0_256, vd_S0_278, vd_S0_280, vd_S0_285, vd_S0_295, vd_S0_297, vd_S0_300, vd_S0_334, vd_S0_336, vd_S0_341, vd_S0_351, vd_S0_353, vd_S0_356, vd_S0_426, vd_S0_428, vd_S0_433, vd_S0_443, vd_S0_445, vd_S0_448, vd_S0_494, vd_S0_496, vd_S0_501, vd_S0_511, vd_S0_513, vd_S0_516, vd_S0_562, vd_S0_564, vd_S0_569, vd_S0_579, vd_S0_581, vd_S0_584, vd_S0_630, vd_S0_632, vd_S0_637, vd_S0_647, vd_S0_649, vd_S0_652, vd_S0_710, vd_S0_712, vd_S0_717, vd_S0_727, vd_S0_729, vd_S0_732, vd_S0_755, vd_S0_763, vd_S0_3, vd_S0_26, vd_S0_36, vd_S0_102, vd_S0_187, vd_S0_206, vd_S0_243, vd_S0_258, vd_S0_287, vd_S0_306, vd_S0_343, vd_S0_362, vd_S0_435, vd_S0_454, vd_S0_503, vd_S0_522, vd_S0_571, vd_S0_590, vd_S0_639, vd_S0_658, vd_S0_719, vd_S0_738, vd_S0_4, vd_S0_40, vd_S0_108, vd_S0_208, vd_S0_261, vd_S0_308, vd_S0_368, vd_S0_460, vd_S0_528, vd_S0_596, vd_S0_664, vd_S0_739, vd_S0_7, vd_S0_114, vd_S0_211, vd_S0_264, vd_S0_311, vd_S0_374, vd_S0_462, vd_S0_530, vd_S0_598, vd_S0_670, vd_S0_742, vd_S0_8, vd_S0_120, vd_S0_219, vd_S0_267, vd_S0_319, vd_S0_380, vd_S0_465, vd_S0_533, vd_S0_601, vd_S0_672, vd_S0_748, vd_S0_11, vd_S0_126, vd_S0_220, vd_S0_270, vd_S0_320, vd_S0_382, vd_S0_473, vd_S0_541, vd_S0_609, vd_S0_675, vd_S0_749, vd_S0_12, vd_S0_128, vd_S0_223, vd_S0_273, vd_S0_323, vd_S0_385, vd_S0_479, vd_S0_547, vd_S0_615, vd_S0_683, vd_S0_752, vd_S0_15, vd_S0_131, vd_S0_226, vd_S0_326, vd_S0_393, vd_S0_480, vd_S0_548, vd_S0_616, vd_S0_689, vd_S0_17, vd_S0_139, vd_S0_229, vd_S0_329, vd_S0_399, vd_S0_483, vd_S0_551, vd_S0_619, vd_S0_695, vd_S0_19, vd_S0_145, vd_S0_405, vd_S0_486, vd_S0_554, vd_S0_622, vd_S0_696, vd_S0_151, vd_S0_411, vd_S0_489, vd_S0_557, vd_S0_625, vd_S0_699, vd_S0_157, vd_S0_412, vd_S0_702, vd_S0_163, vd_S0_415, vd_S0_705, vd_S0_164, vd_S0_418, vd_S0_167, vd_S0_421, vd_S0_170, vd_S0_173, vd_I_add, eH', vd_rs_v, eR', vd_S166_0 hN2, g63, eq_self, if_true, vd_I_toInt, t0, hcmp, e1, e1']
  · simp (disch := first | assumption | omega) only [vd_S0_0, vd_S0_33, vd_S0_96, vd_S0_178, vd_S0_180, vd_S0_185, vd_S0_195, vd_S0_197, vd_S0_200, vd_S0_234, vd_S0_236, vd_S0_241, vd_S0_251, vd_S0_253, vd_S0_256, vd_S0_278, vd_S0_280, vd_S0_285, vd_S0_295, vd_S0_297, vd_S0_300, vd_S0_334, vd_S0_336, vd_S0_341, vd_S0_351, vd_S0_353, vd_S0_356, vd_S0_426, vd_S0_428, vd_S0_433, vd_S0_443, vd_S0_445, vd_S0_448, vd_S0_494, vd_S0_496, vd_S0_501, vd_S0_511, vd_S0_513, vd_S0_516, vd_S0_562, vd_S0_564, vd_S0_569, vd_S0_579, vd_S0_581, vd_S0_584, vd_S0_630, vd_S0_632, vd_S0_637, vd_S0_647, vd_S0_649, vd_S0_652, vd_S0_710, vd_S0_712, vd_S0_717, vd_S0_727, vd_S0_729, vd_S0_732, vd_S0_755, vd_S0_763, vd_S0_3, vd_S0_26, vd_S0_36, vd_S0_102, vd_S0_187, vd_S0_206, vd_S0_243, vd_S0_258, vd_S0_287, vd_S0_306, vd_S0_343, vd_S0_362, vd_S0_435, vd_S0_454, vd_S0_503, vd_S0_522, vd_S0_571, vd_S0_590, vd_S0_639, vd_S0_658, vd_S0_719, vd_S0_738, vd_S0_4, vd_S0_40, vd_S0_108, vd_S0_208, vd_S0_261, vd_S0_308, vd_S0_368, vd_S0_460, vd_S0_528, vd_S0_596, vd_S0_664, vd_S0_739, vd_S0_7, vd_S0_114, vd_S0_211, vd_S0_264, vd_S0_311, vd_S0_374, vd_S0_462, vd_S0_530, vd_S0_598, vd_S0_670, vd_S0_742, vd_S0_8, vd_S0_120, vd_S0_219, vd_S0_267, vd_S0_319, vd_S0_380, vd_S0_465, vd_S0_533, vd_S0_601, vd_S0_672, vd_S0_748, vd_S0_11, vd_S0_126, vd_S0_220, vd_S0_270, vd_S0_320, vd_S0_382, vd_S0_473, vd_S0_541, vd_S0_609, vd_S0_675, vd_S0_749, vd_S0_12, vd_S0_128, vd_S0_223, vd_S0_273, vd_S0_323, vd_S0_385, vd_S0_479, vd_S0_547, vd_S0_615, vd_S0_683, vd_S0_752, vd_S0_15, vd_S0_131, vd_S0_226, vd_S0_326, vd_S0_393, vd_S0_480, vd_S0_548, vd_S0_616, vd_S0_689, vd_S0_17, vd_S0_139, vd_S0_229, vd_S0_329, vd_S0_399, vd_S0_483, vd_S0_551, vd_S0_619, vd_S0_695, vd_S0_19, vd_S0_145, vd_S0_405, vd_S0_486, vd_S0_554, vd_S0_622, vd_S0_696, vd_S0_151, vd_S0_411, vd_S0_489, vd_S0_557, vd_S0_625, vd_S0_699, vd_S0_157, vd_S0_412, vd_S0_702, vd_S0_163, vd_S0_415, vd_S0_705, vd_S0_164, vd_S0_418, vd_S0_167, vd_S0_421, vd_S0_170, vd_S0_173, vd_I_add, eH', vd_rs_v, eR', vd_S166_0 hN2, g63, eq_self, if_true, vd_I_toInt, show ¬ ((1 : Int) = 0) by decide, if_false, e1, e1']
  · exact absurd rfl q
theorem vd_hp21 {v : Int32} (k10 : vd_k M 10 = 0) (c0 : t = 0 → ∀ d Q, vd_wp (d + 11) 22 0 [.ref 10, vd_U, vd_U, vd_U, vd_U, vd_U, vd_U, vd_U] [] (vd_mf M f) Q = Q (vd_mf M1 f1) (.inl (some (.int v)))) (c1 : t = 1 → ∀ d Q, vd_wp (d + 11) 22 0 [.ref 10, vd_U, vd_U, vd_U, vd_U, vd_U, vd_U, vd_U] [] (vd_mf M f) Q = Q (vd_new (vd_mf M1 f1) 16 0 6) (.inr (vd_n M1))) (c2 : t = 2 → ∀ d Q, vd_wp (d + 11) 22 0 [.ref 10, vd_U, vd_U, vd_U, vd_U, vd_U, vd_U, vd_U] [] (vd_mf M f) Q = Q (vd_new (vd_mf M1 f1) 0 0 6) (.inr (vd_n M1))) (ht : t = 0 ∨ (t = 1 ∧ 16 ≠ 0) ∨ (t = 2 ∧ 0 ≠ 0)) (k196 : vd_k M1 196 = 35) (l196 : vd_l M1 196 = 1) : ∃ (N0 : vd_M) (g0 : Nat → Nat → Int32), (∀ d Q, vd_wp (d + 17) 21 0 [.ref 10, .ref 196, vd_U] [] (vd_mf M f) Q = Q (vd_mf N0 g0) (.inl (some (.int (vd_I t))))) ∧ vd_Hp M1 N0 f1 g0 ∧ (t = 0 → vd_j N0 196 0 = v.toInt64) := by
  rcases ht with rfl | ⟨rfl, _⟩ | ⟨rfl, q⟩
  · refine ⟨vd_sj M1 196 0 v.toInt64, f1, fun d Q => ?_, vd_Hp.sj M1 f1 196 0 v.toInt64, fun _ => rfl⟩
    have cc : ∀ Q, vd_wp (d + 16) 22 0 [.ref 10, vd_U, vd_U, vd_U, vd_U, vd_U, vd_U, vd_U] [] (vd_mf M f) Q = Q (vd_mf M1 f1) (.inl (some (.int v))) := fun Q => c0 rfl (d + 5) Q
    have l0 : (0 : Int) < (vd_l M1 196 : Int) := by rw [l196]; decide
    have t0 : (0 : Int).toNat = 0 := rfl
    simp (disch := first | assumption | omega) only [vd_S21_0, vd_S21_11, vd_S21_14, vd_S21_3, vd_S21_6, vd_S21_7, vd_S21_8, cc, vd_rh_v, t0]
  · refine ⟨vd_new M1 16 0 6, vd_nz0 f1 (vd_n M1), fun d Q => ?_, vd_Hp.new M1 f1 16, fun h => absurd h (by decide)⟩
    have cc : ∀ Q, vd_wp (d + 16) 22 0 [.ref 10, vd_U, vd_U, vd_U, vd_U, vd_U, vd_U, vd_U] [] (vd_mf M f) Q = Q (vd_new (vd_mf M1 f1) 16 0 6) (.inr (vd_n M1)) := fun Q => c1 rfl (d + 5) Q
    have kk : vd_hnd (vd_HN 21) 3 (vd_k (vd_mf (vd_new M1 16 0 6) (vd_nz0 f1 (vd_n M1))) (vd_n M1)) = some 11 := by
      show vd_hnd (vd_HN 21) 3 (vd_k (vd_new M1 16 0 6) (vd_n M1)) = some 11
      rw [vd_k_new, if_pos rfl]
      rfl
    simp (disch := first | assumption | omega) only [vd_S21_0, vd_S21_11, vd_S21_14, vd_S21_3, vd_S21_6, vd_S21_7, vd_S21_8, cc, vd_rh_r kk, vd_new_mf]
  · exact absurd rfl q
theorem vd_case2 (h : vd_LW L xs Z c s M f) {i : Nat} (hi : i + 6 ≤ L) (hL : L ≤ 3072) (a5 a6 : Value) : ∃ (M' : vd_M) (f' : Nat → Nat → Int32) (a5' a6' : Value), (∀ d Q, vd_wp (d + 18) 0 256 [.ref 9, .ref 10, .ref 63, .ref 196, .int (vd_I (i : Int)), a5, a6] [] (vd_mf M f) Q = vd_wp (d + 18) 0 757 [.ref 9, .ref 10, .ref 63, .ref 196, .int (vd_I (i : Int)), a5', a6'] [] (vd_mf M' f') Q) ∧ vd_LW L xs Z (c + 9) (s + 54) M' f' := by
  have k9 := h.2.1.1
  have l9 := h.2.1.2.1
  have k10 : vd_k M 10 = 0 := by obtain ⟨⟨_, _, _, _, hA⟩, _⟩ := h; exact hA.1.1.1.k10
  obtain ⟨M1, f1, t, v, c0, c1, c2, ht, ⟨k196, l196, n197, h9, k9a, l9a⟩, hR⟩ := vd_one h (by decide) (fun N g _ _ _ _ hA => vd_decode hA)
  obtain ⟨N0, g0, eH, hp, hj⟩ := vd_hp21 k10 c0 c1 c2 ht k196 l196
  obtain ⟨hN0, N2, g2, v', eR, g63, hv, hW, hj2⟩ := hR N0 g0 hp
  have k9' : vd_k N0 9 = 32 := by rw [(hp.1 9 (by omega)).1, k9a]
  have l9' : vd_l N0 9 = L := by rw [(hp.1 9 (by omega)).2, l9a]
  have k63 : vd_k N0 63 = 12 := hN0.k63
  have hN2 : vd_SR N2 := by obtain ⟨⟨_, _, _, _, hA⟩, _⟩ := hW; exact hA.1.1.2.1
  have k63' : vd_k N2 63 = 12 := hN2.k63
  have k196' : vd_k N2 196 = 35 := hW.2.2.1.1
  have l196' : (0 : Int) < (vd_l N2 196 : Int) := by rw [hW.2.2.1.2]; decide
  have t0 : (0 : Int).toNat = 0 := rfl
  refine ⟨N2, g2, .int (vd_I t), .int v', fun d Q => ?_, hW.mono (by omega) (by omega)⟩
  have eH' : ∀ Q, vd_wp (d + 17) 21 0 [.ref 10, .ref 196, vd_U] [] (vd_mf M f) Q = Q (vd_mf N0 g0) (.inl (some (.int (vd_I t)))) := fun Q => eH d Q
  have eR' : ∀ Q, vd_wp (d + 17) 170 0 [.ref 63, vd_U, vd_U, vd_U, vd_U, vd_U, vd_U] [] (vd_mf N0 g0) Q = Q (vd_mf N2 g2) (.inl (some (.int v'))) := fun Q => eR (d + 1) Q
  rcases ht with rfl | ⟨rfl, _⟩ | ⟨rfl, q⟩
  · have hcmp : (lg_cmp (vd_j N2 196 0) v'.toInt64).toInt = 0 := by rw [hj2, hj rfl, hv rfl, vd_cmpS]; decide
    simp (disch := first | assumption | omega) only [vd_S0_0, vd_S0_33, vd_S0_96, vd_S0_178, vd_S0_180, vd_S0_185, vd_S0_195, vd_S0_197, vd_S0_200, vd_S0_234, vd_S0_236, vd_S0_241, vd_S0_251, vd_S0_253, vd_S0_256, vd_S0_278, vd_S0_280, vd_S0_285, vd_S0_295, vd_S0_297, vd_S0_300, vd_S0_334, vd_S0_336, vd_S0_341, vd_S0_351, vd_S0_353, vd_S0_356, vd_S0_426, vd_S0_428, vd_S0_433, vd_S0_443, vd_S0_445, vd_S0_448, vd_S0_494, vd_S0_496, vd_S0_501, vd_S0_511, vd_S0_513, vd_S0_516, vd_S0_562, vd_S0_564, vd_S0_569, vd_S0_579, vd_S0_581, vd_S0_584, vd_S0_630, vd_S0_632, vd_S0_637, vd_S0_647, vd_S0_649, vd_S0_652, vd_S0_710, vd_S0_712, vd_S0_717, vd_S0_727, vd_S0_729, vd_S0_732, vd_S0_755, vd_S0_763, vd_S0_3, vd_S0_26, vd_S0_36, vd_S0_102, vd_S0_187, vd_S0_206, vd_S0_243, vd_S0_258, vd_S0_287, vd_S0_306, vd_S0_343, vd_S0_362, vd_S0_435, vd_S0_454, vd_S0_503, vd_S0_522, vd_S0_571, vd_S0_590, vd_S0_639, vd_S0_658, vd_S0_719, vd_S0_738, vd_S0_4, vd_S0_40, vd_S0_108, vd_S0_208, vd_S0_261, vd_S0_308, vd_S0_368, vd_S0_460, vd_S0_528, vd_S0_596, vd_S0_664, vd_S0_739, vd_S0_7, vd_S0_114, vd_S0_211, vd_S0_264, vd_S0_311, vd_S0_374, vd_S0_462, vd_S0_530, vd_S0_598, vd_S0_670, vd_S0_742, vd_S0_8, vd_S0_120, vd_S0_219, vd_S0_267, vd_S0_319, vd_S0_380, vd_S0_465, vd_S0_533, vd_S0_601, vd_S0_672, vd_S0_748, vd_S0_11, vd_S0_126, vd_S0_220, vd_S0_270, vd_S0_320, vd_S0_382, vd_S0_473, vd_S0_541, vd_S0_609, vd_S0_675, vd_S0_749, vd_S0_12, vd_S0_128, vd_S0_223, vd_S0_273, vd_S0_323, vd_S0_385, vd_S0_479, vd_S0_547, vd_S0_615, vd_S0_683, vd_S0_752, vd_S0_15, vd_S0_131, vd_S0_226, vd_S0_326, vd_S0_393, vd_S0_480, vd_S0_548, vd_S0_616, vd_S0_689, vd_S0_17, vd_S0_139, vd_S0_229, vd_S0_329, vd_S0_399, vd_S0_483, vd_S0_551, vd_S0_619, vd_S0_695, vd_S0_19, vd_S0_145, vd_S0_405, vd_S0_486, vd_S0_554, vd_S0_622, vd_S0_696, vd_S0_151, vd_S0_411, vd_S0_489, vd_S0_557, vd_S0_625, vd_S0_699, vd_S0_157, vd_S0_412, vd_S0_702, vd_S0_163, vd_S0_415, vd_S0_705, vd_S0_164, vd_S0_418, vd_S0_167, vd_S0_421, vd_S0_170, vd_S0_173, vd_I_add, eH', vd_rs_v, eR', vd_S166_0 hN2, g63, eq_self, if_true, vd_I_toInt, t0, hcmp]
  · simp (disch := first | assumption | omega) only [vd_S0_0, vd_S0_33, vd_S0_96, vd_S0_178, vd_S0_180, vd_S0_185, vd_S0_195, vd_S0_197, vd_S0_200, vd_S0_234, vd_S0_236, vd_S0_241, vd_S0_251, vd_S0_253, vd_S0_256, vd_S0_278, vd_S0_280, vd_S0_285, vd_S0_295, vd_S0_297, vd_S0_300, vd_S0_334, vd_S0_336, vd_S0_341, vd_S0_351, vd_S0_353, vd_S0_356, vd_S0_426, vd_S0_428, vd_S0_433, vd_S0_443, vd_S0_445, vd_S0_448, vd_S0_494, vd_S0_496, vd_S0_501, vd_S0_511, vd_S0_513, vd_S0_516, vd_S0_562, vd_S0_564, vd_S0_569, vd_S0_579, vd_S0_581, vd_S0_584, vd_S0_630, vd_S0_632, vd_S0_637, vd_S0_647, vd_S0_649, vd_S0_652, vd_S0_710, vd_S0_712, vd_S0_717, vd_S0_727, vd_S0_729, vd_S0_732, vd_S0_755, vd_S0_763, vd_S0_3, vd_S0_26, vd_S0_36, vd_S0_102, vd_S0_187, vd_S0_206, vd_S0_243, vd_S0_258, vd_S0_287, vd_S0_306, vd_S0_343, vd_S0_362, vd_S0_435, vd_S0_454, vd_S0_503, vd_S0_522, vd_S0_571, vd_S0_590, vd_S0_639, vd_S0_658, vd_S0_719, vd_S0_738, vd_S0_4, vd_S0_40, vd_S0_108, vd_S0_208, vd_S0_261, vd_S0_308, vd_S0_368, vd_S0_460, vd_S0_528, vd_S0_596, vd_S0_664, vd_S0_739, vd_S0_7, vd_S0_114, vd_S0_211, vd_S0_264, vd_S0_311, vd_S0_374, vd_S0_462, vd_S0_530, vd_S0_598, vd_S0_670, vd_S0_742, vd_S0_8, vd_S0_120, vd_S0_219, vd_S0_267, vd_S0_319, vd_S0_380, vd_S0_465, vd_S0_533, vd_S0_601, vd_S0_672, vd_S0_748, vd_S0_11, vd_S0_126, vd_S0_220, vd_S0_270, vd_S0_320, vd_S0_382, vd_S0_473, vd_S0_541, vd_S0_609, vd_S0_675, vd_S0_749, vd_S0_12, vd_S0_128, vd_S0_223, vd_S0_273, vd_S0_323, vd_S0_385, vd_S0_479, vd_S0_547, vd_S0_615, vd_S0_683, vd_S0_752, vd_S0_15, vd_S0_131, vd_S0_226, vd_S0_326, vd_S0_393, vd_S0_480, vd_S0_548, vd_S0_616, vd_S0_689, vd_S0_17, vd_S0_139, vd_S0_229, vd_S0_329, vd_S0_399, vd_S0_483, vd_S0_551, vd_S0_619, vd_S0_695, vd_S0_19, vd_S0_145, vd_S0_405, vd_S0_486, vd_S0_554, vd_S0_622, vd_S0_696, vd_S0_151, vd_S0_411, vd_S0_489, vd_S0_557, vd_S0_625, vd_S0_699, vd_S0_157, vd_S0_412, vd_S0_702, vd_S0_163, vd_S0_415, vd_S0_705, vd_S0_164, vd_S0_418, vd_S0_167, vd_S0_421, vd_S0_170, vd_S0_173, vd_I_add, eH', vd_rs_v, eR', vd_S166_0 hN2, g63, eq_self, if_true, vd_I_toInt, show ¬ ((1 : Int) = 0) by decide, if_false]
  · exact absurd rfl q
theorem vd_hp150 (x1 : Int32) {v : Int32} (k10 : vd_k M 10 = 0) (c0 : t = 0 → ∀ d Q, vd_wp (d + 1) 151 0 [.ref 10, .int x1] [] (vd_mf M f) Q = Q (vd_mf M1 f1) (.inl (some (.int v)))) (c1 : t = 1 → ∀ d Q, vd_wp (d + 1) 151 0 [.ref 10, .int x1] [] (vd_mf M f) Q = Q (vd_new (vd_mf M1 f1) 15 0 6) (.inr (vd_n M1))) (c2 : t = 2 → ∀ d Q, vd_wp (d + 1) 151 0 [.ref 10, .int x1] [] (vd_mf M f) Q = Q (vd_new (vd_mf M1 f1) 0 0 6) (.inr (vd_n M1))) (ht : t = 0 ∨ (t = 1 ∧ 15 ≠ 0) ∨ (t = 2 ∧ 0 ≠ 0)) (k196 : vd_k M1 196 = 35) (l196 : vd_l M1 196 = 1) : ∃ (N0 : vd_M) (g0 : Nat → Nat → Int32), (∀ d Q, vd_wp (d + 17) 150 0 [.ref 10, .int x1, .ref 196, vd_U] [] (vd_mf M f) Q = Q (vd_mf N0 g0) (.inl (some (.int (vd_I t))))) ∧ vd_Hp M1 N0 f1 g0 ∧ (t = 0 → vd_j N0 196 0 = v.toInt64) := by
  rcases ht with rfl | ⟨rfl, _⟩ | ⟨rfl, q⟩
  · refine ⟨vd_sj M1 196 0 v.toInt64, f1, fun d Q => ?_, vd_Hp.sj M1 f1 196 0 v.toInt64, fun _ => rfl⟩
    have cc : ∀ Q, vd_wp (d + 16) 151 0 [.ref 10, .int x1] [] (vd_mf M f) Q = Q (vd_mf M1 f1) (.inl (some (.int v))) := fun Q => c0 rfl (d + 15) Q
    have l0 : (0 : Int) < (vd_l M1 196 : Int) := by rw [l196]; decide
    have t0 : (0 : Int).toNat = 0 := rfl
    simp (disch := first | assumption | omega) only [vd_S150_0, vd_S150_12, vd_S150_15, vd_S150_4, vd_S150_7, vd_S150_8, vd_S150_9, cc, vd_rh_v, t0]
  · refine ⟨vd_new M1 15 0 6, vd_nz0 f1 (vd_n M1), fun d Q => ?_, vd_Hp.new M1 f1 15, fun h => absurd h (by decide)⟩
    have cc : ∀ Q, vd_wp (d + 16) 151 0 [.ref 10, .int x1] [] (vd_mf M f) Q = Q (vd_new (vd_mf M1 f1) 15 0 6) (.inr (vd_n M1)) := fun Q => c1 rfl (d + 15) Q
    have kk : vd_hnd (vd_HN 150) 4 (vd_k (vd_mf (vd_new M1 15 0 6) (vd_nz0 f1 (vd_n M1))) (vd_n M1)) = some 12 := by
      show vd_hnd (vd_HN 150) 4 (vd_k (vd_new M1 15 0 6) (vd_n M1)) = some 12
      rw [vd_k_new, if_pos rfl]
      rfl
    simp (disch := first | assumption | omega) only [vd_S150_0, vd_S150_12, vd_S150_15, vd_S150_4, vd_S150_7, vd_S150_8, vd_S150_9, cc, vd_rh_r kk, vd_new_mf]
  · exact absurd rfl q
theorem vd_case3 (h : vd_LW L xs Z c s M f) {i : Nat} (hi : i + 6 ≤ L) (hL : L ≤ 3072) (a5 a6 : Value) : ∃ (M' : vd_M) (f' : Nat → Nat → Int32) (a5' a6' : Value), (∀ d Q, vd_wp (d + 18) 0 300 [.ref 9, .ref 10, .ref 63, .ref 196, .int (vd_I (i : Int)), a5, a6] [] (vd_mf M f) Q = vd_wp (d + 18) 0 757 [.ref 9, .ref 10, .ref 63, .ref 196, .int (vd_I (i : Int)), a5', a6'] [] (vd_mf M' f') Q) ∧ vd_LW L xs Z (c + 9) (s + 54) M' f' := by
  have k9 := h.2.1.1
  have l9 := h.2.1.2.1
  have k10 : vd_k M 10 = 0 := by obtain ⟨⟨_, _, _, _, hA⟩, _⟩ := h; exact hA.1.1.1.k10
  obtain ⟨x1, e1⟩ : ∃ x, f 9 ((i : Int) + 1).toNat = x := ⟨_, rfl⟩
  obtain ⟨M1, f1, t, v, c0, c1, c2, ht, ⟨k196, l196, n197, h9, k9a, l9a⟩, hR⟩ := vd_one h (by decide) (fun N g _ _ _ _ hA => vd_fault hA x1)
  obtain ⟨N0, g0, eH, hp, hj⟩ := vd_hp150 x1 k10 c0 c1 c2 ht k196 l196
  obtain ⟨hN0, N2, g2, v', eR, g63, hv, hW, hj2⟩ := hR N0 g0 hp
  have k9' : vd_k N0 9 = 32 := by rw [(hp.1 9 (by omega)).1, k9a]
  have l9' : vd_l N0 9 = L := by rw [(hp.1 9 (by omega)).2, l9a]
  have k63 : vd_k N0 63 = 12 := hN0.k63
  have e1' : g0 9 ((i : Int) + 1).toNat = x1 := by rw [(hp.2.1 9 _ (by omega)).2, h9, e1]
  have b1 : ((i : Int) + 1) < (vd_l M 9 : Int) := by rw [l9]; omega
  have b1' : ((i : Int) + 1) < (vd_l N0 9 : Int) := by rw [l9']; omega
  have hN2 : vd_SR N2 := by obtain ⟨⟨_, _, _, _, hA⟩, _⟩ := hW; exact hA.1.1.2.1
  have k63' : vd_k N2 63 = 12 := hN2.k63
  have k196' : vd_k N2 196 = 35 := hW.2.2.1.1
  have l196' : (0 : Int) < (vd_l N2 196 : Int) := by rw [hW.2.2.1.2]; decide
  have t0 : (0 : Int).toNat = 0 := rfl
  refine ⟨N2, g2, .int (vd_I t), .int v', fun d Q => ?_, hW.mono (by omega) (by omega)⟩
  have eH' : ∀ Q, vd_wp (d + 17) 150 0 [.ref 10, .int x1, .ref 196, vd_U] [] (vd_mf M f) Q = Q (vd_mf N0 g0) (.inl (some (.int (vd_I t)))) := fun Q => eH d Q
  have eR' : ∀ Q, vd_wp (d + 17) 284 0 [.ref 63, .int x1] [] (vd_mf N0 g0) Q = Q (vd_mf N2 g2) (.inl (some (.int v'))) := fun Q => eR (d + 16) Q
  rcases ht with rfl | ⟨rfl, _⟩ | ⟨rfl, q⟩
  · have hcmp : (lg_cmp (vd_j N2 196 0) v'.toInt64).toInt = 0 := by rw [hj2, hj rfl, hv rfl, vd_cmpS]; decide
    simp (disch := first | assumption | omega) only [vd_S0_0, vd_S0_33, vd_S0_96, vd_S0_178, vd_S0_180, vd_S0_185, vd_S0_195, vd_S0_197, vd_S0_200, vd_S0_234, vd_S0_236, vd_S0_241, vd_S0_251, vd_S0_253, vd_S0_256, vd_S0_278, vd_S0_280, vd_S0_285, vd_S0_295, vd_S0_297, vd_S0_300, vd_S0_334, vd_S0_336, vd_S0_341, vd_S0_351, vd_S0_353, vd_S0_356, vd_S0_426, vd_S0_428, vd_S0_433, vd_S0_443, vd_S0_445, vd_S0_448, vd_S0_494, vd_S0_496, vd_S0_501, vd_S0_511, vd_S0_513, vd_S0_516, vd_S0_562, vd_S0_564, vd_S0_569, vd_S0_579, vd_S0_581, vd_S0_584, vd_S0_630, vd_S0_632, vd_S0_637, vd_S0_647, vd_S0_649, vd_S0_652, vd_S0_710, vd_S0_712, vd_S0_717, vd_S0_727, vd_S0_729, vd_S0_732, vd_S0_755, vd_S0_763, vd_S0_3, vd_S0_26, vd_S0_36, vd_S0_102, vd_S0_187, vd_S0_206, vd_S0_243, vd_S0_258, vd_S0_287, vd_S0_306, vd_S0_343, vd_S0_362, vd_S0_435, vd_S0_454, vd_S0_503, vd_S0_522, vd_S0_571, vd_S0_590, vd_S0_639, vd_S0_658, vd_S0_719, vd_S0_738, vd_S0_4, vd_S0_40, vd_S0_108, vd_S0_208, vd_S0_261, vd_S0_308, vd_S0_368, vd_S0_460, vd_S0_528, vd_S0_596, vd_S0_664, vd_S0_739, vd_S0_7, vd_S0_114, vd_S0_211, vd_S0_264, vd_S0_311, vd_S0_374, vd_S0_462, vd_S0_530, vd_S0_598, vd_S0_670, vd_S0_742, vd_S0_8, vd_S0_120, vd_S0_219, vd_S0_267, vd_S0_319, vd_S0_380, vd_S0_465, vd_S0_533, vd_S0_601, vd_S0_672, vd_S0_748, vd_S0_11, vd_S0_126, vd_S0_220, vd_S0_270, vd_S0_320, vd_S0_382, vd_S0_473, vd_S0_541, vd_S0_609, vd_S0_675, vd_S0_749, vd_S0_12, vd_S0_128, vd_S0_223, vd_S0_273, vd_S0_323, vd_S0_385, vd_S0_479, vd_S0_547, vd_S0_615, vd_S0_683, vd_S0_752, vd_S0_15, vd_S0_131, vd_S0_226, vd_S0_326, vd_S0_393, vd_S0_480, vd_S0_548, vd_S0_616, vd_S0_689, vd_S0_17, vd_S0_139, vd_S0_229, vd_S0_329, vd_S0_399, vd_S0_483, vd_S0_551, vd_S0_619, vd_S0_695, vd_S0_19, vd_S0_145, vd_S0_405, vd_S0_486, vd_S0_554, vd_S0_622, vd_S0_696, vd_S0_151, vd_S0_411, vd_S0_489, vd_S0_557, vd_S0_625, vd_S0_699, vd_S0_157, vd_S0_412, vd_S0_702, vd_S0_163, vd_S0_415, vd_S0_705, vd_S0_164, vd_S0_418, vd_S0_167, vd_S0_421, vd_S0_170, vd_S0_173, vd_I_add, eH', vd_rs_v, eR', vd_S166_0 hN2, g63, eq_self, if_true, vd_I_toInt, t0, hcmp, e1, e1']
  · simp (disch := first | assumption | omega) only [vd_S0_0, vd_S0_33, vd_S0_96, vd_S0_178, vd_S0_180, vd_S0_185, vd_S0_195, vd_S0_197, vd_S0_200, vd_S0_234, vd_S0_236, vd_S0_241, vd_S0_251, vd_S0_253, vd_S0_256, vd_S0_278, vd_S0_280, vd_S0_285, vd_S0_295, vd_S0_297, vd_S0_300, vd_S0_334, vd_S0_336, vd_S0_341, vd_S0_351, vd_S0_353, vd_S0_356, vd_S0_426, vd_S0_428, vd_S0_433, vd_S0_443, vd_S0_445, vd_S0_448, vd_S0_494, vd_S0_496, vd_S0_501, vd_S0_511, vd_S0_513, vd_S0_516, vd_S0_562, vd_S0_564, vd_S0_569, vd_S0_579, vd_S0_581, vd_S0_584, vd_S0_630, vd_S0_632, vd_S0_637, vd_S0_647, vd_S0_649, vd_S0_652, vd_S0_710, vd_S0_712, vd_S0_717, vd_S0_727, vd_S0_729, vd_S0_732, vd_S0_755, vd_S0_763, vd_S0_3, vd_S0_26, vd_S0_36, vd_S0_102, vd_S0_187, vd_S0_206, vd_S0_243, vd_S0_258, vd_S0_287, vd_S0_306, vd_S0_343, vd_S0_362, vd_S0_435, vd_S0_454, vd_S0_503, vd_S0_522, vd_S0_571, vd_S0_590, vd_S0_639, vd_S0_658, vd_S0_719, vd_S0_738, vd_S0_4, vd_S0_40, vd_S0_108, vd_S0_208, vd_S0_261, vd_S0_308, vd_S0_368, vd_S0_460, vd_S0_528, vd_S0_596, vd_S0_664, vd_S0_739, vd_S0_7, vd_S0_114, vd_S0_211, vd_S0_264, vd_S0_311, vd_S0_374, vd_S0_462, vd_S0_530, vd_S0_598, vd_S0_670, vd_S0_742, vd_S0_8, vd_S0_120, vd_S0_219, vd_S0_267, vd_S0_319, vd_S0_380, vd_S0_465, vd_S0_533, vd_S0_601, vd_S0_672, vd_S0_748, vd_S0_11, vd_S0_126, vd_S0_220, vd_S0_270, vd_S0_320, vd_S0_382, vd_S0_473, vd_S0_541, vd_S0_609, vd_S0_675, vd_S0_749, vd_S0_12, vd_S0_128, vd_S0_223, vd_S0_273, vd_S0_323, vd_S0_385, vd_S0_479, vd_S0_547, vd_S0_615, vd_S0_683, vd_S0_752, vd_S0_15, vd_S0_131, vd_S0_226, vd_S0_326, vd_S0_393, vd_S0_480, vd_S0_548, vd_S0_616, vd_S0_689, vd_S0_17, vd_S0_139, vd_S0_229, vd_S0_329, vd_S0_399, vd_S0_483, vd_S0_551, vd_S0_619, vd_S0_695, vd_S0_19, vd_S0_145, vd_S0_405, vd_S0_486, vd_S0_554, vd_S0_622, vd_S0_696, vd_S0_151, vd_S0_411, vd_S0_489, vd_S0_557, vd_S0_625, vd_S0_699, vd_S0_157, vd_S0_412, vd_S0_702, vd_S0_163, vd_S0_415, vd_S0_705, vd_S0_164, vd_S0_418, vd_S0_167, vd_S0_421, vd_S0_170, vd_S0_173, vd_I_add, eH', vd_rs_v, eR', vd_S166_0 hN2, g63, eq_self, if_true, vd_I_toInt, show ¬ ((1 : Int) = 0) by decide, if_false, e1, e1']
  · exact absurd rfl q
theorem vd_hp152 (x1 x2 x3 x4 : Int32) {v : Int32} (k10 : vd_k M 10 = 0) (c0 : t = 0 → ∀ d Q, vd_wp (d + 1) 153 0 [.ref 10, .int x1, .int x2, .int x3, .int x4, vd_U] [] (vd_mf M f) Q = Q (vd_mf M1 f1) (.inl (some (.int v)))) (c1 : t = 1 → ∀ d Q, vd_wp (d + 1) 153 0 [.ref 10, .int x1, .int x2, .int x3, .int x4, vd_U] [] (vd_mf M f) Q = Q (vd_new (vd_mf M1 f1) 17 0 6) (.inr (vd_n M1))) (c2 : t = 2 → ∀ d Q, vd_wp (d + 1) 153 0 [.ref 10, .int x1, .int x2, .int x3, .int x4, vd_U] [] (vd_mf M f) Q = Q (vd_new (vd_mf M1 f1) 18 0 6) (.inr (vd_n M1))) (ht : t = 0 ∨ (t = 1 ∧ 17 ≠ 0) ∨ (t = 2 ∧ 18 ≠ 0)) (k196 : vd_k M1 196 = 35) (l196 : vd_l M1 196 = 1) : ∃ (N0 : vd_M) (g0 : Nat → Nat → Int32), (∀ d Q, vd_wp (d + 17) 152 0 [.ref 10, .int x1, .int x2, .int x3, .int x4, .ref 196, vd_U] [] (vd_mf M f) Q = Q (vd_mf N0 g0) (.inl (some (.int (vd_I t))))) ∧ vd_Hp M1 N0 f1 g0 ∧ (t = 0 → vd_j N0 196 0 = v.toInt64) := by
  rcases ht with rfl | ⟨rfl, _⟩ | ⟨rfl, q⟩
  · refine ⟨vd_sj M1 196 0 v.toInt64, f1, fun d Q => ?_, vd_Hp.sj M1 f1 196 0 v.toInt64, fun _ => rfl⟩
    have cc : ∀ Q, vd_wp (d + 16) 153 0 [.ref 10, .int x1, .int x2, .int x3, .int x4, vd_U] [] (vd_mf M f) Q = Q (vd_mf M1 f1) (.inl (some (.int v))) := fun Q => c0 rfl (d + 15) Q
    have l0 : (0 : Int) < (vd_l M1 196 : Int) := by rw [l196]; decide
    have t0 : (0 : Int).toNat = 0 := rfl
    simp (disch := first | assumption | omega) only [vd_S152_0, vd_S152_17, vd_S152_21, vd_S152_25, vd_S152_9, vd_S152_12, vd_S152_13, vd_S152_14, cc, vd_rh_v, t0]
  · refine ⟨vd_new M1 17 0 6, vd_nz0 f1 (vd_n M1), fun d Q => ?_, vd_Hp.new M1 f1 17, fun h => absurd h (by decide)⟩
    have cc : ∀ Q, vd_wp (d + 16) 153 0 [.ref 10, .int x1, .int x2, .int x3, .int x4, vd_U] [] (vd_mf M f) Q = Q (vd_new (vd_mf M1 f1) 17 0 6) (.inr (vd_n M1)) := fun Q => c1 rfl (d + 15) Q
    have kk : vd_hnd (vd_HN 152) 9 (vd_k (vd_mf (vd_new M1 17 0 6) (vd_nz0 f1 (vd_n M1))) (vd_n M1)) = some 17 := by
      show vd_hnd (vd_HN 152) 9 (vd_k (vd_new M1 17 0 6) (vd_n M1)) = some 17
      rw [vd_k_new, if_pos rfl]
      rfl
    simp (disch := first | assumption | omega) only [vd_S152_0, vd_S152_17, vd_S152_21, vd_S152_25, vd_S152_9, vd_S152_12, vd_S152_13, vd_S152_14, cc, vd_rh_r kk, vd_new_mf]
  · refine ⟨vd_new M1 18 0 6, vd_nz0 f1 (vd_n M1), fun d Q => ?_, vd_Hp.new M1 f1 18, fun h => absurd h (by decide)⟩
    have cc : ∀ Q, vd_wp (d + 16) 153 0 [.ref 10, .int x1, .int x2, .int x3, .int x4, vd_U] [] (vd_mf M f) Q = Q (vd_new (vd_mf M1 f1) 18 0 6) (.inr (vd_n M1)) := fun Q => c2 rfl (d + 15) Q
    have kk : vd_hnd (vd_HN 152) 9 (vd_k (vd_mf (vd_new M1 18 0 6) (vd_nz0 f1 (vd_n M1))) (vd_n M1)) = some 21 := by
      show vd_hnd (vd_HN 152) 9 (vd_k (vd_new M1 18 0 6) (vd_n M1)) = some 21
      rw [vd_k_new, if_pos rfl]
      rfl
    simp (disch := first | assumption | omega) only [vd_S152_0, vd_S152_17, vd_S152_21, vd_S152_25, vd_S152_9, vd_S152_12, vd_S152_13, vd_S152_14, cc, vd_rh_r kk, vd_new_mf]
theorem vd_case4 (h : vd_LW L xs Z c s M f) {i : Nat} (hi : i + 6 ≤ L) (hL : L ≤ 3072) (a5 a6 : Value) : ∃ (M' : vd_M) (f' : Nat → Nat → Int32) (a5' a6' : Value), (∀ d Q, vd_wp (d + 18) 0 356 [.ref 9, .ref 10, .ref 63, .ref 196, .int (vd_I (i : Int)), a5, a6] [] (vd_mf M f) Q = vd_wp (d + 18) 0 757 [.ref 9, .ref 10, .ref 63, .ref 196, .int (vd_I (i : Int)), a5', a6'] [] (vd_mf M' f') Q) ∧ vd_LW L xs Z (c + 9) (s + 54) M' f' := by
  have k9 := h.2.1.1
  have l9 := h.2.1.2.1
  have k10 : vd_k M 10 = 0 := by obtain ⟨⟨_, _, _, _, hA⟩, _⟩ := h; exact hA.1.1.1.k10
  obtain ⟨x1, e1⟩ : ∃ x, f 9 ((i : Int) + 1).toNat = x := ⟨_, rfl⟩
  obtain ⟨x2, e2⟩ : ∃ x, f 9 ((i : Int) + 2).toNat = x := ⟨_, rfl⟩
  obtain ⟨x3, e3⟩ : ∃ x, f 9 ((i : Int) + 3).toNat = x := ⟨_, rfl⟩
  obtain ⟨x4, e4⟩ : ∃ x, f 9 ((i : Int) + 4).toNat = x := ⟨_, rfl⟩
  obtain ⟨M1, f1, t, v, c0, c1, c2, ht, ⟨k196, l196, n197, h9, k9a, l9a⟩, hR⟩ := vd_one h (by decide) (fun N g _ _ _ _ hA => vd_sample hA x1 x2 x3 x4)
  obtain ⟨N0, g0, eH, hp, hj⟩ := vd_hp152 x1 x2 x3 x4 k10 c0 c1 c2 ht k196 l196
  obtain ⟨hN0, N2, g2, v', eR, g63, hv, hW, hj2⟩ := hR N0 g0 hp
  have k9' : vd_k N0 9 = 32 := by rw [(hp.1 9 (by omega)).1, k9a]
  have l9' : vd_l N0 9 = L := by rw [(hp.1 9 (by omega)).2, l9a]
  have k63 : vd_k N0 63 = 12 := hN0.k63
  have e1' : g0 9 ((i : Int) + 1).toNat = x1 := by rw [(hp.2.1 9 _ (by omega)).2, h9, e1]
  have e2' : g0 9 ((i : Int) + 2).toNat = x2 := by rw [(hp.2.1 9 _ (by omega)).2, h9, e2]
  have e3' : g0 9 ((i : Int) + 3).toNat = x3 := by rw [(hp.2.1 9 _ (by omega)).2, h9, e3]
  have e4' : g0 9 ((i : Int) + 4).toNat = x4 := by rw [(hp.2.1 9 _ (by omega)).2, h9, e4]
  have b1 : ((i : Int) + 1) < (vd_l M 9 : Int) := by rw [l9]; omega
  have b1' : ((i : Int) + 1) < (vd_l N0 9 : Int) := by rw [l9']; omega
  have b2 : ((i : Int) + 2) < (vd_l M 9 : Int) := by rw [l9]; omega
  have b2' : ((i : Int) + 2) < (vd_l N0 9 : Int) := by rw [l9']; omega
  have b3 : ((i : Int) + 3) < (vd_l M 9 : Int) := by rw [l9]; omega
  have b3' : ((i : Int) + 3) < (vd_l N0 9 : Int) := by rw [l9']; omega
  have b4 : ((i : Int) + 4) < (vd_l M 9 : Int) := by rw [l9]; omega
  have b4' : ((i : Int) + 4) < (vd_l N0 9 : Int) := by rw [l9']; omega
  have hN2 : vd_SR N2 := by obtain ⟨⟨_, _, _, _, hA⟩, _⟩ := hW; exact hA.1.1.2.1
  have k63' : vd_k N2 63 = 12 := hN2.k63
  have k196' : vd_k N2 196 = 35 := hW.2.2.1.1
  have l196' : (0 : Int) < (vd_l N2 196 : Int) := by rw [hW.2.2.1.2]; decide
  have t0 : (0 : Int).toNat = 0 := rfl
  refine ⟨N2, g2, .int (vd_I t), .int v', fun d Q => ?_, hW.mono (by omega) (by omega)⟩
  have eH' : ∀ Q, vd_wp (d + 17) 152 0 [.ref 10, .int x1, .int x2, .int x3, .int x4, .ref 196, vd_U] [] (vd_mf M f) Q = Q (vd_mf N0 g0) (.inl (some (.int (vd_I t)))) := fun Q => eH d Q
  have eR' : ∀ Q, vd_wp (d + 17) 278 0 [.ref 63, .int x1, .int x2, .int x3, .int x4, vd_U] [] (vd_mf N0 g0) Q = Q (vd_mf N2 g2) (.inl (some (.int v'))) := fun Q => eR (d + 15) Q
  rcases ht with rfl | ⟨rfl, _⟩ | ⟨rfl, q⟩
  · have hcmp : (lg_cmp (vd_j N2 196 0) v'.toInt64).toInt = 0 := by rw [hj2, hj rfl, hv rfl, vd_cmpS]; decide
    simp (disch := first | assumption | omega) only [vd_S0_0, vd_S0_33, vd_S0_96, vd_S0_178, vd_S0_180, vd_S0_185, vd_S0_195, vd_S0_197, vd_S0_200, vd_S0_234, vd_S0_236, vd_S0_241, vd_S0_251, vd_S0_253, vd_S0_256, vd_S0_278, vd_S0_280, vd_S0_285, vd_S0_295, vd_S0_297, vd_S0_300, vd_S0_334, vd_S0_336, vd_S0_341, vd_S0_351, vd_S0_353, vd_S0_356, vd_S0_426, vd_S0_428, vd_S0_433, vd_S0_443, vd_S0_445, vd_S0_448, vd_S0_494, vd_S0_496, vd_S0_501, vd_S0_511, vd_S0_513, vd_S0_516, vd_S0_562, vd_S0_564, vd_S0_569, vd_S0_579, vd_S0_581, vd_S0_584, vd_S0_630, vd_S0_632, vd_S0_637, vd_S0_647, vd_S0_649, vd_S0_652, vd_S0_710, vd_S0_712, vd_S0_717, vd_S0_727, vd_S0_729, vd_S0_732, vd_S0_755, vd_S0_763, vd_S0_3, vd_S0_26, vd_S0_36, vd_S0_102, vd_S0_187, vd_S0_206, vd_S0_243, vd_S0_258, vd_S0_287, vd_S0_306, vd_S0_343, vd_S0_362, vd_S0_435, vd_S0_454, vd_S0_503, vd_S0_522, vd_S0_571, vd_S0_590, vd_S0_639, vd_S0_658, vd_S0_719, vd_S0_738, vd_S0_4, vd_S0_40, vd_S0_108, vd_S0_208, vd_S0_261, vd_S0_308, vd_S0_368, vd_S0_460, vd_S0_528, vd_S0_596, vd_S0_664, vd_S0_739, vd_S0_7, vd_S0_114, vd_S0_211, vd_S0_264, vd_S0_311, vd_S0_374, vd_S0_462, vd_S0_530, vd_S0_598, vd_S0_670, vd_S0_742, vd_S0_8, vd_S0_120, vd_S0_219, vd_S0_267, vd_S0_319, vd_S0_380, vd_S0_465, vd_S0_533, vd_S0_601, vd_S0_672, vd_S0_748, vd_S0_11, vd_S0_126, vd_S0_220, vd_S0_270, vd_S0_320, vd_S0_382, vd_S0_473, vd_S0_541, vd_S0_609, vd_S0_675, vd_S0_749, vd_S0_12, vd_S0_128, vd_S0_223, vd_S0_273, vd_S0_323, vd_S0_385, vd_S0_479, vd_S0_547, vd_S0_615, vd_S0_683, vd_S0_752, vd_S0_15, vd_S0_131, vd_S0_226, vd_S0_326, vd_S0_393, vd_S0_480, vd_S0_548, vd_S0_616, vd_S0_689, vd_S0_17, vd_S0_139, vd_S0_229, vd_S0_329, vd_S0_399, vd_S0_483, vd_S0_551, vd_S0_619, vd_S0_695, vd_S0_19, vd_S0_145, vd_S0_405, vd_S0_486, vd_S0_554, vd_S0_622, vd_S0_696, vd_S0_151, vd_S0_411, vd_S0_489, vd_S0_557, vd_S0_625, vd_S0_699, vd_S0_157, vd_S0_412, vd_S0_702, vd_S0_163, vd_S0_415, vd_S0_705, vd_S0_164, vd_S0_418, vd_S0_167, vd_S0_421, vd_S0_170, vd_S0_173, vd_I_add, eH', vd_rs_v, eR', vd_S166_0 hN2, g63, eq_self, if_true, vd_I_toInt, t0, hcmp, e1, e1', e2, e2', e3, e3', e4, e4']
  · simp (disch := first | assumption | omega) only [vd_S0_0, vd_S0_33, vd_S0_96, vd_S0_178, vd_S0_180, vd_S0_185, vd_S0_195, vd_S0_197, vd_S0_200, vd_S0_234, vd_S0_236, vd_S0_241, vd_S0_251, vd_S0_253, vd_S0_256, vd_S0_278, vd_S0_280, vd_S0_285, vd_S0_295, vd_S0_297, vd_S0_300, vd_S0_334, vd_S0_336, vd_S0_341, vd_S0_351, vd_S0_353, vd_S0_356, vd_S0_426, vd_S0_428, vd_S0_433, vd_S0_443, vd_S0_445, vd_S0_448, vd_S0_494, vd_S0_496, vd_S0_501, vd_S0_511, vd_S0_513, vd_S0_516, vd_S0_562, vd_S0_564, vd_S0_569, vd_S0_579, vd_S0_581, vd_S0_584, vd_S0_630, vd_S0_632, vd_S0_637, vd_S0_647, vd_S0_649, vd_S0_652, vd_S0_710, vd_S0_712, vd_S0_717, vd_S0_727, vd_S0_729, vd_S0_732, vd_S0_755, vd_S0_763, vd_S0_3, vd_S0_26, vd_S0_36, vd_S0_102, vd_S0_187, vd_S0_206, vd_S0_243, vd_S0_258, vd_S0_287, vd_S0_306, vd_S0_343, vd_S0_362, vd_S0_435, vd_S0_454, vd_S0_503, vd_S0_522, vd_S0_571, vd_S0_590, vd_S0_639, vd_S0_658, vd_S0_719, vd_S0_738, vd_S0_4, vd_S0_40, vd_S0_108, vd_S0_208, vd_S0_261, vd_S0_308, vd_S0_368, vd_S0_460, vd_S0_528, vd_S0_596, vd_S0_664, vd_S0_739, vd_S0_7, vd_S0_114, vd_S0_211, vd_S0_264, vd_S0_311, vd_S0_374, vd_S0_462, vd_S0_530, vd_S0_598, vd_S0_670, vd_S0_742, vd_S0_8, vd_S0_120, vd_S0_219, vd_S0_267, vd_S0_319, vd_S0_380, vd_S0_465, vd_S0_533, vd_S0_601, vd_S0_672, vd_S0_748, vd_S0_11, vd_S0_126, vd_S0_220, vd_S0_270, vd_S0_320, vd_S0_382, vd_S0_473, vd_S0_541, vd_S0_609, vd_S0_675, vd_S0_749, vd_S0_12, vd_S0_128, vd_S0_223, vd_S0_273, vd_S0_323, vd_S0_385, vd_S0_479, vd_S0_547, vd_S0_615, vd_S0_683, vd_S0_752, vd_S0_15, vd_S0_131, vd_S0_226, vd_S0_326, vd_S0_393, vd_S0_480, vd_S0_548, vd_S0_616, vd_S0_689, vd_S0_17, vd_S0_139, vd_S0_229, vd_S0_329, vd_S0_399, vd_S0_483, vd_S0_551, vd_S0_619, vd_S0_695, vd_S0_19, vd_S0_145, vd_S0_405, vd_S0_486, vd_S0_554, vd_S0_622, vd_S0_696, vd_S0_151, vd_S0_411, vd_S0_489, vd_S0_557, vd_S0_625, vd_S0_699, vd_S0_157, vd_S0_412, vd_S0_702, vd_S0_163, vd_S0_415, vd_S0_705, vd_S0_164, vd_S0_418, vd_S0_167, vd_S0_421, vd_S0_170, vd_S0_173, vd_I_add, eH', vd_rs_v, eR', vd_S166_0 hN2, g63, eq_self, if_true, vd_I_toInt, show ¬ ((1 : Int) = 0) by decide, if_false, e1, e1', e2, e2', e3, e3', e4, e4']
  · simp (disch := first | assumption | omega) only [vd_S0_0, vd_S0_33, vd_S0_96, vd_S0_178, vd_S0_180, vd_S0_185, vd_S0_195, vd_S0_197, vd_S0_200, vd_S0_234, vd_S0_236, vd_S0_241, vd_S0_251, vd_S0_253, vd_S0_256, vd_S0_278, vd_S0_280, vd_S0_285, vd_S0_295, vd_S0_297, vd_S0_300, vd_S0_334, vd_S0_336, vd_S0_341, vd_S0_351, vd_S0_353, vd_S0_356, vd_S0_426, vd_S0_428, vd_S0_433, vd_S0_443, vd_S0_445, vd_S0_448, vd_S0_494, vd_S0_496, vd_S0_501, vd_S0_511, vd_S0_513, vd_S0_516, vd_S0_562, vd_S0_564, vd_S0_569, vd_S0_579, vd_S0_581, vd_S0_584, vd_S0_630, vd_S0_632, vd_S0_637, vd_S0_647, vd_S0_649, vd_S0_652, vd_S0_710, vd_S0_712, vd_S0_717, vd_S0_727, vd_S0_729, vd_S0_732, vd_S0_755, vd_S0_763, vd_S0_3, vd_S0_26, vd_S0_36, vd_S0_102, vd_S0_187, vd_S0_206, vd_S0_243, vd_S0_258, vd_S0_287, vd_S0_306, vd_S0_343, vd_S0_362, vd_S0_435, vd_S0_454, vd_S0_503, vd_S0_522, vd_S0_571, vd_S0_590, vd_S0_639, vd_S0_658, vd_S0_719, vd_S0_738, vd_S0_4, vd_S0_40, vd_S0_108, vd_S0_208, vd_S0_261, vd_S0_308, vd_S0_368, vd_S0_460, vd_S0_528, vd_S0_596, vd_S0_664, vd_S0_739, vd_S0_7, vd_S0_114, vd_S0_211, vd_S0_264, vd_S0_311, vd_S0_374, vd_S0_462, vd_S0_530, vd_S0_598, vd_S0_670, vd_S0_742, vd_S0_8, vd_S0_120, vd_S0_219, vd_S0_267, vd_S0_319, vd_S0_380, vd_S0_465, vd_S0_533, vd_S0_601, vd_S0_672, vd_S0_748, vd_S0_11, vd_S0_126, vd_S0_220, vd_S0_270, vd_S0_320, vd_S0_382, vd_S0_473, vd_S0_541, vd_S0_609, vd_S0_675, vd_S0_749, vd_S0_12, vd_S0_128, vd_S0_223, vd_S0_273, vd_S0_323, vd_S0_385, vd_S0_479, vd_S0_547, vd_S0_615, vd_S0_683, vd_S0_752, vd_S0_15, vd_S0_131, vd_S0_226, vd_S0_326, vd_S0_393, vd_S0_480, vd_S0_548, vd_S0_616, vd_S0_689, vd_S0_17, vd_S0_139, vd_S0_229, vd_S0_329, vd_S0_399, vd_S0_483, vd_S0_551, vd_S0_619, vd_S0_695, vd_S0_19, vd_S0_145, vd_S0_405, vd_S0_486, vd_S0_554, vd_S0_622, vd_S0_696, vd_S0_151, vd_S0_411, vd_S0_489, vd_S0_557, vd_S0_625, vd_S0_699, vd_S0_157, vd_S0_412, vd_S0_702, vd_S0_163, vd_S0_415, vd_S0_705, vd_S0_164, vd_S0_418, vd_S0_167, vd_S0_421, vd_S0_170, vd_S0_173, vd_I_add, eH', vd_rs_v, eR', vd_S166_0 hN2, g63, eq_self, if_true, vd_I_toInt, show ¬ ((2 : Int) = 0) by decide, if_false, e1, e1', e2, e2', e3, e3', e4, e4']
theorem vd_hp155 (x1 x2 : Int32) {v : Int32} (k10 : vd_k M 10 = 0) (c0 : t = 0 → ∀ d Q, vd_wp (d + 1) 156 0 [.ref 10, .int x1, .int x2, vd_U, vd_U, vd_U, vd_U, vd_U] [] (vd_mf M f) Q = Q (vd_mf M1 f1) (.inl (some (.int v)))) (c1 : t = 1 → ∀ d Q, vd_wp (d + 1) 156 0 [.ref 10, .int x1, .int x2, vd_U, vd_U, vd_U, vd_U, vd_U] [] (vd_mf M f) Q = Q (vd_new (vd_mf M1 f1) 17 0 6) (.inr (vd_n M1))) (c2 : t = 2 → ∀ d Q, vd_wp (d + 1) 156 0 [.ref 10, .int x1, .int x2, vd_U, vd_U, vd_U, vd_U, vd_U] [] (vd_mf M f) Q = Q (vd_new (vd_mf M1 f1) 18 0 6) (.inr (vd_n M1))) (ht : t = 0 ∨ (t = 1 ∧ 17 ≠ 0) ∨ (t = 2 ∧ 18 ≠ 0)) (k196 : vd_k M1 196 = 35) (l196 : vd_l M1 196 = 1) : ∃ (N0 : vd_M) (g0 : Nat → Nat → Int32), (∀ d Q, vd_wp (d + 17) 155 0 [.ref 10, .int x1, .int x2, .ref 196, vd_U] [] (vd_mf M f) Q = Q (vd_mf N0 g0) (.inl (some (.int (vd_I t))))) ∧ vd_Hp M1 N0 f1 g0 ∧ (t = 0 → vd_j N0 196 0 = v.toInt64) := by
  rcases ht with rfl | ⟨rfl, _⟩ | ⟨rfl, q⟩
  · refine ⟨vd_sj M1 196 0 v.toInt64, f1, fun d Q => ?_, vd_Hp.sj M1 f1 196 0 v.toInt64, fun _ => rfl⟩
    have cc : ∀ Q, vd_wp (d + 16) 156 0 [.ref 10, .int x1, .int x2, vd_U, vd_U, vd_U, vd_U, vd_U] [] (vd_mf M f) Q = Q (vd_mf M1 f1) (.inl (some (.int v))) := fun Q => c0 rfl (d + 15) Q
    have l0 : (0 : Int) < (vd_l M1 196 : Int) := by rw [l196]; decide
    have t0 : (0 : Int).toNat = 0 := rfl
    simp (disch := first | assumption | omega) only [vd_S155_0, vd_S155_13, vd_S155_17, vd_S155_21, vd_S155_5, vd_S155_8, vd_S155_9, vd_S155_10, cc, vd_rh_v, t0]
  · refine ⟨vd_new M1 17 0 6, vd_nz0 f1 (vd_n M1), fun d Q => ?_, vd_Hp.new M1 f1 17, fun h => absurd h (by decide)⟩
    have cc : ∀ Q, vd_wp (d + 16) 156 0 [.ref 10, .int x1, .int x2, vd_U, vd_U, vd_U, vd_U, vd_U] [] (vd_mf M f) Q = Q (vd_new (vd_mf M1 f1) 17 0 6) (.inr (vd_n M1)) := fun Q => c1 rfl (d + 15) Q
    have kk : vd_hnd (vd_HN 155) 5 (vd_k (vd_mf (vd_new M1 17 0 6) (vd_nz0 f1 (vd_n M1))) (vd_n M1)) = some 13 := by
      show vd_hnd (vd_HN 155) 5 (vd_k (vd_new M1 17 0 6) (vd_n M1)) = some 13
      rw [vd_k_new, if_pos rfl]
      rfl
    simp (disch := first | assumption | omega) only [vd_S155_0, vd_S155_13, vd_S155_17, vd_S155_21, vd_S155_5, vd_S155_8, vd_S155_9, vd_S155_10, cc, vd_rh_r kk, vd_new_mf]
  · refine ⟨vd_new M1 18 0 6, vd_nz0 f1 (vd_n M1), fun d Q => ?_, vd_Hp.new M1 f1 18, fun h => absurd h (by decide)⟩
    have cc : ∀ Q, vd_wp (d + 16) 156 0 [.ref 10, .int x1, .int x2, vd_U, vd_U, vd_U, vd_U, vd_U] [] (vd_mf M f) Q = Q (vd_new (vd_mf M1 f1) 18 0 6) (.inr (vd_n M1)) := fun Q => c2 rfl (d + 15) Q
    have kk : vd_hnd (vd_HN 155) 5 (vd_k (vd_mf (vd_new M1 18 0 6) (vd_nz0 f1 (vd_n M1))) (vd_n M1)) = some 17 := by
      show vd_hnd (vd_HN 155) 5 (vd_k (vd_new M1 18 0 6) (vd_n M1)) = some 17
      rw [vd_k_new, if_pos rfl]
      rfl
    simp (disch := first | assumption | omega) only [vd_S155_0, vd_S155_13, vd_S155_17, vd_S155_21, vd_S155_5, vd_S155_8, vd_S155_9, vd_S155_10, cc, vd_rh_r kk, vd_new_mf]
theorem vd_case5 (h : vd_LW L xs Z c s M f) {i : Nat} (hi : i + 6 ≤ L) (hL : L ≤ 3072) (a5 a6 : Value) : ∃ (M' : vd_M) (f' : Nat → Nat → Int32) (a5' a6' : Value), (∀ d Q, vd_wp (d + 18) 0 448 [.ref 9, .ref 10, .ref 63, .ref 196, .int (vd_I (i : Int)), a5, a6] [] (vd_mf M f) Q = vd_wp (d + 18) 0 757 [.ref 9, .ref 10, .ref 63, .ref 196, .int (vd_I (i : Int)), a5', a6'] [] (vd_mf M' f') Q) ∧ vd_LW L xs Z (c + 9) (s + 54) M' f' := by
  have k9 := h.2.1.1
  have l9 := h.2.1.2.1
  have k10 : vd_k M 10 = 0 := by obtain ⟨⟨_, _, _, _, hA⟩, _⟩ := h; exact hA.1.1.1.k10
  obtain ⟨x1, e1⟩ : ∃ x, f 9 ((i : Int) + 1).toNat = x := ⟨_, rfl⟩
  obtain ⟨x2, e2⟩ : ∃ x, f 9 ((i : Int) + 2).toNat = x := ⟨_, rfl⟩
  obtain ⟨M1, f1, t, v, c0, c1, c2, ht, ⟨k196, l196, n197, h9, k9a, l9a⟩, hR⟩ := vd_one h (by decide) (fun N g _ _ _ _ hA => vd_check hA x1 x2)
  obtain ⟨N0, g0, eH, hp, hj⟩ := vd_hp155 x1 x2 k10 c0 c1 c2 ht k196 l196
  obtain ⟨hN0, N2, g2, v', eR, g63, hv, hW, hj2⟩ := hR N0 g0 hp
  have k9' : vd_k N0 9 = 32 := by rw [(hp.1 9 (by omega)).1, k9a]
  have l9' : vd_l N0 9 = L := by rw [(hp.1 9 (by omega)).2, l9a]
  have k63 : vd_k N0 63 = 12 := hN0.k63
  have e1' : g0 9 ((i : Int) + 1).toNat = x1 := by rw [(hp.2.1 9 _ (by omega)).2, h9, e1]
  have e2' : g0 9 ((i : Int) + 2).toNat = x2 := by rw [(hp.2.1 9 _ (by omega)).2, h9, e2]
  have b1 : ((i : Int) + 1) < (vd_l M 9 : Int) := by rw [l9]; omega
  have b1' : ((i : Int) + 1) < (vd_l N0 9 : Int) := by rw [l9']; omega
  have b2 : ((i : Int) + 2) < (vd_l M 9 : Int) := by rw [l9]; omega
  have b2' : ((i : Int) + 2) < (vd_l N0 9 : Int) := by rw [l9']; omega
  have hN2 : vd_SR N2 := by obtain ⟨⟨_, _, _, _, hA⟩, _⟩ := hW; exact hA.1.1.2.1
  have k63' : vd_k N2 63 = 12 := hN2.k63
  have k196' : vd_k N2 196 = 35 := hW.2.2.1.1
  have l196' : (0 : Int) < (vd_l N2 196 : Int) := by rw [hW.2.2.1.2]; decide
  have t0 : (0 : Int).toNat = 0 := rfl
  refine ⟨N2, g2, .int (vd_I t), .int v', fun d Q => ?_, hW.mono (by omega) (by omega)⟩
  have eH' : ∀ Q, vd_wp (d + 17) 155 0 [.ref 10, .int x1, .int x2, .ref 196, vd_U] [] (vd_mf M f) Q = Q (vd_mf N0 g0) (.inl (some (.int (vd_I t)))) := fun Q => eH d Q
  have eR' : ∀ Q, vd_wp (d + 17) 280 0 [.ref 63, .int x1, .int x2, vd_U, vd_U, vd_U, vd_U, vd_U] [] (vd_mf N0 g0) Q = Q (vd_mf N2 g2) (.inl (some (.int v'))) := fun Q => eR (d + 15) Q
  rcases ht with rfl | ⟨rfl, _⟩ | ⟨rfl, q⟩
  · have hcmp : (lg_cmp (vd_j N2 196 0) v'.toInt64).toInt = 0 := by rw [hj2, hj rfl, hv rfl, vd_cmpS]; decide
    simp (disch := first | assumption | omega) only [vd_S0_0, vd_S0_33, vd_S0_96, vd_S0_178, vd_S0_180, vd_S0_185, vd_S0_195, vd_S0_197, vd_S0_200, vd_S0_234, vd_S0_236, vd_S0_241, vd_S0_251, vd_S0_253, vd_S0_256, vd_S0_278, vd_S0_280, vd_S0_285, vd_S0_295, vd_S0_297, vd_S0_300, vd_S0_334, vd_S0_336, vd_S0_341, vd_S0_351, vd_S0_353, vd_S0_356, vd_S0_426, vd_S0_428, vd_S0_433, vd_S0_443, vd_S0_445, vd_S0_448, vd_S0_494, vd_S0_496, vd_S0_501, vd_S0_511, vd_S0_513, vd_S0_516, vd_S0_562, vd_S0_564, vd_S0_569, vd_S0_579, vd_S0_581, vd_S0_584, vd_S0_630, vd_S0_632, vd_S0_637, vd_S0_647, vd_S0_649, vd_S0_652, vd_S0_710, vd_S0_712, vd_S0_717, vd_S0_727, vd_S0_729, vd_S0_732, vd_S0_755, vd_S0_763, vd_S0_3, vd_S0_26, vd_S0_36, vd_S0_102, vd_S0_187, vd_S0_206, vd_S0_243, vd_S0_258, vd_S0_287, vd_S0_306, vd_S0_343, vd_S0_362, vd_S0_435, vd_S0_454, vd_S0_503, vd_S0_522, vd_S0_571, vd_S0_590, vd_S0_639, vd_S0_658, vd_S0_719, vd_S0_738, vd_S0_4, vd_S0_40, vd_S0_108, vd_S0_208, vd_S0_261, vd_S0_308, vd_S0_368, vd_S0_460, vd_S0_528, vd_S0_596, vd_S0_664, vd_S0_739, vd_S0_7, vd_S0_114, vd_S0_211, vd_S0_264, vd_S0_311, vd_S0_374, vd_S0_462, vd_S0_530, vd_S0_598, vd_S0_670, vd_S0_742, vd_S0_8, vd_S0_120, vd_S0_219, vd_S0_267, vd_S0_319, vd_S0_380, vd_S0_465, vd_S0_533, vd_S0_601, vd_S0_672, vd_S0_748, vd_S0_11, vd_S0_126, vd_S0_220, vd_S0_270, vd_S0_320, vd_S0_382, vd_S0_473, vd_S0_541, vd_S0_609, vd_S0_675, vd_S0_749, vd_S0_12, vd_S0_128, vd_S0_223, vd_S0_273, vd_S0_323, vd_S0_385, vd_S0_479, vd_S0_547, vd_S0_615, vd_S0_683, vd_S0_752, vd_S0_15, vd_S0_131, vd_S0_226, vd_S0_326, vd_S0_393, vd_S0_480, vd_S0_548, vd_S0_616, vd_S0_689, vd_S0_17, vd_S0_139, vd_S0_229, vd_S0_329, vd_S0_399, vd_S0_483, vd_S0_551, vd_S0_619, vd_S0_695, vd_S0_19, vd_S0_145, vd_S0_405, vd_S0_486, vd_S0_554, vd_S0_622, vd_S0_696, vd_S0_151, vd_S0_411, vd_S0_489, vd_S0_557, vd_S0_625, vd_S0_699, vd_S0_157, vd_S0_412, vd_S0_702, vd_S0_163, vd_S0_415, vd_S0_705, vd_S0_164, vd_S0_418, vd_S0_167, vd_S0_421, vd_S0_170, vd_S0_173, vd_I_add, eH', vd_rs_v, eR', vd_S166_0 hN2, g63, eq_self, if_true, vd_I_toInt, t0, hcmp, e1, e1', e2, e2']
  · simp (disch := first | assumption | omega) only [vd_S0_0, vd_S0_33, vd_S0_96, vd_S0_178, vd_S0_180, vd_S0_185, vd_S0_195, vd_S0_197, vd_S0_200, vd_S0_234, vd_S0_236, vd_S0_241, vd_S0_251, vd_S0_253, vd_S0_256, vd_S0_278, vd_S0_280, vd_S0_285, vd_S0_295, vd_S0_297, vd_S0_300, vd_S0_334, vd_S0_336, vd_S0_341, vd_S0_351, vd_S0_353, vd_S0_356, vd_S0_426, vd_S0_428, vd_S0_433, vd_S0_443, vd_S0_445, vd_S0_448, vd_S0_494, vd_S0_496, vd_S0_501, vd_S0_511, vd_S0_513, vd_S0_516, vd_S0_562, vd_S0_564, vd_S0_569, vd_S0_579, vd_S0_581, vd_S0_584, vd_S0_630, vd_S0_632, vd_S0_637, vd_S0_647, vd_S0_649, vd_S0_652, vd_S0_710, vd_S0_712, vd_S0_717, vd_S0_727, vd_S0_729, vd_S0_732, vd_S0_755, vd_S0_763, vd_S0_3, vd_S0_26, vd_S0_36, vd_S0_102, vd_S0_187, vd_S0_206, vd_S0_243, vd_S0_258, vd_S0_287, vd_S0_306, vd_S0_343, vd_S0_362, vd_S0_435, vd_S0_454, vd_S0_503, vd_S0_522, vd_S0_571, vd_S0_590, vd_S0_639, vd_S0_658, vd_S0_719, vd_S0_738, vd_S0_4, vd_S0_40, vd_S0_108, vd_S0_208, vd_S0_261, vd_S0_308, vd_S0_368, vd_S0_460, vd_S0_528, vd_S0_596, vd_S0_664, vd_S0_739, vd_S0_7, vd_S0_114, vd_S0_211, vd_S0_264, vd_S0_311, vd_S0_374, vd_S0_462, vd_S0_530, vd_S0_598, vd_S0_670, vd_S0_742, vd_S0_8, vd_S0_120, vd_S0_219, vd_S0_267, vd_S0_319, vd_S0_380, vd_S0_465, vd_S0_533, vd_S0_601, vd_S0_672, vd_S0_748, vd_S0_11, vd_S0_126, vd_S0_220, vd_S0_270, vd_S0_320, vd_S0_382, vd_S0_473, vd_S0_541, vd_S0_609, vd_S0_675, vd_S0_749, vd_S0_12, vd_S0_128, vd_S0_223, vd_S0_273, vd_S0_323, vd_S0_385, vd_S0_479, vd_S0_547, vd_S0_615, vd_S0_683, vd_S0_752, vd_S0_15, vd_S0_131, vd_S0_226, vd_S0_326, vd_S0_393, vd_S0_480, vd_S0_548, vd_S0_616, vd_S0_689, vd_S0_17, vd_S0_139, vd_S0_229, vd_S0_329, vd_S0_399, vd_S0_483, vd_S0_551, vd_S0_619, vd_S0_695, vd_S0_19, vd_S0_145, vd_S0_405, vd_S0_486, vd_S0_554, vd_S0_622, vd_S0_696, vd_S0_151, vd_S0_411, vd_S0_489, vd_S0_557, vd_S0_625, vd_S0_699, vd_S0_157, vd_S0_412, vd_S0_702, vd_S0_163, vd_S0_415, vd_S0_705, vd_S0_164, vd_S0_418, vd_S0_167, vd_S0_421, vd_S0_170, vd_S0_173, vd_I_add, eH', vd_rs_v, eR', vd_S166_0 hN2, g63, eq_self, if_true, vd_I_toInt, show ¬ ((1 : Int) = 0) by decide, if_false, e1, e1', e2, e2']
  · simp (disch := first | assumption | omega) only [vd_S0_0, vd_S0_33, vd_S0_96, vd_S0_178, vd_S0_180, vd_S0_185, vd_S0_195, vd_S0_197, vd_S0_200, vd_S0_234, vd_S0_236, vd_S0_241, vd_S0_251, vd_S0_253, vd_S0_256, vd_S0_278, vd_S0_280, vd_S0_285, vd_S0_295, vd_S0_297, vd_S0_300, vd_S0_334, vd_S0_336, vd_S0_341, vd_S0_351, vd_S0_353, vd_S0_356, vd_S0_426, vd_S0_428, vd_S0_433, vd_S0_443, vd_S0_445, vd_S0_448, vd_S0_494, vd_S0_496, vd_S0_501, vd_S0_511, vd_S0_513, vd_S0_516, vd_S0_562, vd_S0_564, vd_S0_569, vd_S0_579, vd_S0_581, vd_S0_584, vd_S0_630, vd_S0_632, vd_S0_637, vd_S0_647, vd_S0_649, vd_S0_652, vd_S0_710, vd_S0_712, vd_S0_717, vd_S0_727, vd_S0_729, vd_S0_732, vd_S0_755, vd_S0_763, vd_S0_3, vd_S0_26, vd_S0_36, vd_S0_102, vd_S0_187, vd_S0_206, vd_S0_243, vd_S0_258, vd_S0_287, vd_S0_306, vd_S0_343, vd_S0_362, vd_S0_435, vd_S0_454, vd_S0_503, vd_S0_522, vd_S0_571, vd_S0_590, vd_S0_639, vd_S0_658, vd_S0_719, vd_S0_738, vd_S0_4, vd_S0_40, vd_S0_108, vd_S0_208, vd_S0_261, vd_S0_308, vd_S0_368, vd_S0_460, vd_S0_528, vd_S0_596, vd_S0_664, vd_S0_739, vd_S0_7, vd_S0_114, vd_S0_211, vd_S0_264, vd_S0_311, vd_S0_374, vd_S0_462, vd_S0_530, vd_S0_598, vd_S0_670, vd_S0_742, vd_S0_8, vd_S0_120, vd_S0_219, vd_S0_267, vd_S0_319, vd_S0_380, vd_S0_465, vd_S0_533, vd_S0_601, vd_S0_672, vd_S0_748, vd_S0_11, vd_S0_126, vd_S0_220, vd_S0_270, vd_S0_320, vd_S0_382, vd_S0_473, vd_S0_541, vd_S0_609, vd_S0_675, vd_S0_749, vd_S0_12, vd_S0_128, vd_S0_223, vd_S0_273, vd_S0_323, vd_S0_385, vd_S0_479, vd_S0_547, vd_S0_615, vd_S0_683, vd_S0_752, vd_S0_15, vd_S0_131, vd_S0_226, vd_S0_326, vd_S0_393, vd_S0_480, vd_S0_548, vd_S0_616, vd_S0_689, vd_S0_17, vd_S0_139, vd_S0_229, vd_S0_329, vd_S0_399, vd_S0_483, vd_S0_551, vd_S0_619, vd_S0_695, vd_S0_19, vd_S0_145, vd_S0_405, vd_S0_486, vd_S0_554, vd_S0_622, vd_S0_696, vd_S0_151, vd_S0_411, vd_S0_489, vd_S0_557, vd_S0_625, vd_S0_699, vd_S0_157, vd_S0_412, vd_S0_702, vd_S0_163, vd_S0_415, vd_S0_705, vd_S0_164, vd_S0_418, vd_S0_167, vd_S0_421, vd_S0_170, vd_S0_173, vd_I_add, eH', vd_rs_v, eR', vd_S166_0 hN2, g63, eq_self, if_true, vd_I_toInt, show ¬ ((2 : Int) = 0) by decide, if_false, e1, e1', e2, e2']
theorem vd_hp157 (x1 x2 : Int32) {v : Int32} (k10 : vd_k M 10 = 0) (c0 : t = 0 → ∀ d Q, vd_wp (d + 1) 158 0 [.ref 10, .int x1, .int x2, vd_U] [] (vd_mf M f) Q = Q (vd_mf M1 f1) (.inl (some (.int v)))) (c1 : t = 1 → ∀ d Q, vd_wp (d + 1) 158 0 [.ref 10, .int x1, .int x2, vd_U] [] (vd_mf M f) Q = Q (vd_new (vd_mf M1 f1) 17 0 6) (.inr (vd_n M1))) (c2 : t = 2 → ∀ d Q, vd_wp (d + 1) 158 0 [.ref 10, .int x1, .int x2, vd_U] [] (vd_mf M f) Q = Q (vd_new (vd_mf M1 f1) 15 0 6) (.inr (vd_n M1))) (ht : t = 0 ∨ (t = 1 ∧ 17 ≠ 0) ∨ (t = 2 ∧ 15 ≠ 0)) (k196 : vd_k M1 196 = 35) (l196 : vd_l M1 196 = 1) : ∃ (N0 : vd_M) (g0 : Nat → Nat → Int32), (∀ d Q, vd_wp (d + 17) 157 0 [.ref 10, .int x1, .int x2, .ref 196, vd_U] [] (vd_mf M f) Q = Q (vd_mf N0 g0) (.inl (some (.int (vd_I t))))) ∧ vd_Hp M1 N0 f1 g0 ∧ (t = 0 → vd_j N0 196 0 = v.toInt64) := by
  rcases ht with rfl | ⟨rfl, _⟩ | ⟨rfl, q⟩
  · refine ⟨vd_sj M1 196 0 v.toInt64, f1, fun d Q => ?_, vd_Hp.sj M1 f1 196 0 v.toInt64, fun _ => rfl⟩
    have cc : ∀ Q, vd_wp (d + 16) 158 0 [.ref 10, .int x1, .int x2, vd_U] [] (vd_mf M f) Q = Q (vd_mf M1 f1) (.inl (some (.int v))) := fun Q => c0 rfl (d + 15) Q
    have l0 : (0 : Int) < (vd_l M1 196 : Int) := by rw [l196]; decide
    have t0 : (0 : Int).toNat = 0 := rfl
    simp (disch := first | assumption | omega) only [vd_S157_0, vd_S157_13, vd_S157_17, vd_S157_21, vd_S157_5, vd_S157_8, vd_S157_9, vd_S157_10, cc, vd_rh_v, t0]
  · refine ⟨vd_new M1 17 0 6, vd_nz0 f1 (vd_n M1), fun d Q => ?_, vd_Hp.new M1 f1 17, fun h => absurd h (by decide)⟩
    have cc : ∀ Q, vd_wp (d + 16) 158 0 [.ref 10, .int x1, .int x2, vd_U] [] (vd_mf M f) Q = Q (vd_new (vd_mf M1 f1) 17 0 6) (.inr (vd_n M1)) := fun Q => c1 rfl (d + 15) Q
    have kk : vd_hnd (vd_HN 157) 5 (vd_k (vd_mf (vd_new M1 17 0 6) (vd_nz0 f1 (vd_n M1))) (vd_n M1)) = some 13 := by
      show vd_hnd (vd_HN 157) 5 (vd_k (vd_new M1 17 0 6) (vd_n M1)) = some 13
      rw [vd_k_new, if_pos rfl]
      rfl
    simp (disch := first | assumption | omega) only [vd_S157_0, vd_S157_13, vd_S157_17, vd_S157_21, vd_S157_5, vd_S157_8, vd_S157_9, vd_S157_10, cc, vd_rh_r kk, vd_new_mf]
  · refine ⟨vd_new M1 15 0 6, vd_nz0 f1 (vd_n M1), fun d Q => ?_, vd_Hp.new M1 f1 15, fun h => absurd h (by decide)⟩
    have cc : ∀ Q, vd_wp (d + 16) 158 0 [.ref 10, .int x1, .int x2, vd_U] [] (vd_mf M f) Q = Q (vd_new (vd_mf M1 f1) 15 0 6) (.inr (vd_n M1)) := fun Q => c2 rfl (d + 15) Q
    have kk : vd_hnd (vd_HN 157) 5 (vd_k (vd_mf (vd_new M1 15 0 6) (vd_nz0 f1 (vd_n M1))) (vd_n M1)) = some 17 := by
      show vd_hnd (vd_HN 157) 5 (vd_k (vd_new M1 15 0 6) (vd_n M1)) = some 17
      rw [vd_k_new, if_pos rfl]
      rfl
    simp (disch := first | assumption | omega) only [vd_S157_0, vd_S157_13, vd_S157_17, vd_S157_21, vd_S157_5, vd_S157_8, vd_S157_9, vd_S157_10, cc, vd_rh_r kk, vd_new_mf]
theorem vd_case6 (h : vd_LW L xs Z c s M f) {i : Nat} (hi : i + 6 ≤ L) (hL : L ≤ 3072) (a5 a6 : Value) : ∃ (M' : vd_M) (f' : Nat → Nat → Int32) (a5' a6' : Value), (∀ d Q, vd_wp (d + 18) 0 516 [.ref 9, .ref 10, .ref 63, .ref 196, .int (vd_I (i : Int)), a5, a6] [] (vd_mf M f) Q = vd_wp (d + 18) 0 757 [.ref 9, .ref 10, .ref 63, .ref 196, .int (vd_I (i : Int)), a5', a6'] [] (vd_mf M' f') Q) ∧ vd_LW L xs Z (c + 9) (s + 54) M' f' := by
  have k9 := h.2.1.1
  have l9 := h.2.1.2.1
  have k10 : vd_k M 10 = 0 := by obtain ⟨⟨_, _, _, _, hA⟩, _⟩ := h; exact hA.1.1.1.k10
  obtain ⟨x1, e1⟩ : ∃ x, f 9 ((i : Int) + 1).toNat = x := ⟨_, rfl⟩
  obtain ⟨x2, e2⟩ : ∃ x, f 9 ((i : Int) + 2).toNat = x := ⟨_, rfl⟩
  obtain ⟨M1, f1, t, v, c0, c1, c2, ht, ⟨k196, l196, n197, h9, k9a, l9a⟩, hR⟩ := vd_one h (by decide) (fun N g _ _ _ _ hA => vd_sizeA hA x1 x2)
  obtain ⟨N0, g0, eH, hp, hj⟩ := vd_hp157 x1 x2 k10 c0 c1 c2 ht k196 l196
  obtain ⟨hN0, N2, g2, v', eR, g63, hv, hW, hj2⟩ := hR N0 g0 hp
  have k9' : vd_k N0 9 = 32 := by rw [(hp.1 9 (by omega)).1, k9a]
  have l9' : vd_l N0 9 = L := by rw [(hp.1 9 (by omega)).2, l9a]
  have k63 : vd_k N0 63 = 12 := hN0.k63
  have e1' : g0 9 ((i : Int) + 1).toNat = x1 := by rw [(hp.2.1 9 _ (by omega)).2, h9, e1]
  have e2' : g0 9 ((i : Int) + 2).toNat = x2 := by rw [(hp.2.1 9 _ (by omega)).2, h9, e2]
  have b1 : ((i : Int) + 1) < (vd_l M 9 : Int) := by rw [l9]; omega
  have b1' : ((i : Int) + 1) < (vd_l N0 9 : Int) := by rw [l9']; omega
  have b2 : ((i : Int) + 2) < (vd_l M 9 : Int) := by rw [l9]; omega
  have b2' : ((i : Int) + 2) < (vd_l N0 9 : Int) := by rw [l9']; omega
  have hN2 : vd_SR N2 := by obtain ⟨⟨_, _, _, _, hA⟩, _⟩ := hW; exact hA.1.1.2.1
  have k63' : vd_k N2 63 = 12 := hN2.k63
  have k196' : vd_k N2 196 = 35 := hW.2.2.1.1
  have l196' : (0 : Int) < (vd_l N2 196 : Int) := by rw [hW.2.2.1.2]; decide
  have t0 : (0 : Int).toNat = 0 := rfl
  refine ⟨N2, g2, .int (vd_I t), .int v', fun d Q => ?_, hW.mono (by omega) (by omega)⟩
  have eH' : ∀ Q, vd_wp (d + 17) 157 0 [.ref 10, .int x1, .int x2, .ref 196, vd_U] [] (vd_mf M f) Q = Q (vd_mf N0 g0) (.inl (some (.int (vd_I t)))) := fun Q => eH d Q
  have eR' : ∀ Q, vd_wp (d + 17) 281 0 [.ref 63, .int x1, .int x2, vd_U] [] (vd_mf N0 g0) Q = Q (vd_mf N2 g2) (.inl (some (.int v'))) := fun Q => eR (d + 16) Q
  rcases ht with rfl | ⟨rfl, _⟩ | ⟨rfl, q⟩
  · have hcmp : (lg_cmp (vd_j N2 196 0) v'.toInt64).toInt = 0 := by rw [hj2, hj rfl, hv rfl, vd_cmpS]; decide
    simp (disch := first | assumption | omega) only [vd_S0_0, vd_S0_33, vd_S0_96, vd_S0_178, vd_S0_180, vd_S0_185, vd_S0_195, vd_S0_197, vd_S0_200, vd_S0_234, vd_S0_236, vd_S0_241, vd_S0_251, vd_S0_253, vd_S0_256, vd_S0_278, vd_S0_280, vd_S0_285, vd_S0_295, vd_S0_297, vd_S0_300, vd_S0_334, vd_S0_336, vd_S0_341, vd_S0_351, vd_S0_353, vd_S0_356, vd_S0_426, vd_S0_428, vd_S0_433, vd_S0_443, vd_S0_445, vd_S0_448, vd_S0_494, vd_S0_496, vd_S0_501, vd_S0_511, vd_S0_513, vd_S0_516, vd_S0_562, vd_S0_564, vd_S0_569, vd_S0_579, vd_S0_581, vd_S0_584, vd_S0_630, vd_S0_632, vd_S0_637, vd_S0_647, vd_S0_649, vd_S0_652, vd_S0_710, vd_S0_712, vd_S0_717, vd_S0_727, vd_S0_729, vd_S0_732, vd_S0_755, vd_S0_763, vd_S0_3, vd_S0_26, vd_S0_36, vd_S0_102, vd_S0_187, vd_S0_206, vd_S0_243, vd_S0_258, vd_S0_287, vd_S0_306, vd_S0_343, vd_S0_362, vd_S0_435, vd_S0_454, vd_S0_503, vd_S0_522, vd_S0_571, vd_S0_590, vd_S0_639, vd_S0_658, vd_S0_719, vd_S0_738, vd_S0_4, vd_S0_40, vd_S0_108, vd_S0_208, vd_S0_261, vd_S0_308, vd_S0_368, vd_S0_460, vd_S0_528, vd_S0_596, vd_S0_664, vd_S0_739, vd_S0_7, vd_S0_114, vd_S0_211, vd_S0_264, vd_S0_311, vd_S0_374, vd_S0_462, vd_S0_530, vd_S0_598, vd_S0_670, vd_S0_742, vd_S0_8, vd_S0_120, vd_S0_219, vd_S0_267, vd_S0_319, vd_S0_380, vd_S0_465, vd_S0_533, vd_S0_601, vd_S0_672, vd_S0_748, vd_S0_11, vd_S0_126, vd_S0_220, vd_S0_270, vd_S0_320, vd_S0_382, vd_S0_473, vd_S0_541, vd_S0_609, vd_S0_675, vd_S0_749, vd_S0_12, vd_S0_128, vd_S0_223, vd_S0_273, vd_S0_323, vd_S0_385, vd_S0_479, vd_S0_547, vd_S0_615, vd_S0_683, vd_S0_752, vd_S0_15, vd_S0_131, vd_S0_226, vd_S0_326, vd_S0_393, vd_S0_480, vd_S0_548, vd_S0_616, vd_S0_689, vd_S0_17, vd_S0_139, vd_S0_229, vd_S0_329, vd_S0_399, vd_S0_483, vd_S0_551, vd_S0_619, vd_S0_695, vd_S0_19, vd_S0_145, vd_S0_405, vd_S0_486, vd_S0_554, vd_S0_622, vd_S0_696, vd_S0_151, vd_S0_411, vd_S0_489, vd_S0_557, vd_S0_625, vd_S0_699, vd_S0_157, vd_S0_412, vd_S0_702, vd_S0_163, vd_S0_415, vd_S0_705, vd_S0_164, vd_S0_418, vd_S0_167, vd_S0_421, vd_S0_170, vd_S0_173, vd_I_add, eH', vd_rs_v, eR', vd_S166_0 hN2, g63, eq_self, if_true, vd_I_toInt, t0, hcmp, e1, e1', e2, e2']
  · simp (disch := first | assumption | omega) only [vd_S0_0, vd_S0_33, vd_S0_96, vd_S0_178, vd_S0_180, vd_S0_185, vd_S0_195, vd_S0_197, vd_S0_200, vd_S0_234, vd_S0_236, vd_S0_241, vd_S0_251, vd_S0_253, vd_S0_256, vd_S0_278, vd_S0_280, vd_S0_285, vd_S0_295, vd_S0_297, vd_S0_300, vd_S0_334, vd_S0_336, vd_S0_341, vd_S0_351, vd_S0_353, vd_S0_356, vd_S0_426, vd_S0_428, vd_S0_433, vd_S0_443, vd_S0_445, vd_S0_448, vd_S0_494, vd_S0_496, vd_S0_501, vd_S0_511, vd_S0_513, vd_S0_516, vd_S0_562, vd_S0_564, vd_S0_569, vd_S0_579, vd_S0_581, vd_S0_584, vd_S0_630, vd_S0_632, vd_S0_637, vd_S0_647, vd_S0_649, vd_S0_652, vd_S0_710, vd_S0_712, vd_S0_717, vd_S0_727, vd_S0_729, vd_S0_732, vd_S0_755, vd_S0_763, vd_S0_3, vd_S0_26, vd_S0_36, vd_S0_102, vd_S0_187, vd_S0_206, vd_S0_243, vd_S0_258, vd_S0_287, vd_S0_306, vd_S0_343, vd_S0_362, vd_S0_435, vd_S0_454, vd_S0_503, vd_S0_522, vd_S0_571, vd_S0_590, vd_S0_639, vd_S0_658, vd_S0_719, vd_S0_738, vd_S0_4, vd_S0_40, vd_S0_108, vd_S0_208, vd_S0_261, vd_S0_308, vd_S0_368, vd_S0_460, vd_S0_528, vd_S0_596, vd_S0_664, vd_S0_739, vd_S0_7, vd_S0_114, vd_S0_211, vd_S0_264, vd_S0_311, vd_S0_374, vd_S0_462, vd_S0_530, vd_S0_598, vd_S0_670, vd_S0_742, vd_S0_8, vd_S0_120, vd_S0_219, vd_S0_267, vd_S0_319, vd_S0_380, vd_S0_465, vd_S0_533, vd_S0_601, vd_S0_672, vd_S0_748, vd_S0_11, vd_S0_126, vd_S0_220, vd_S0_270, vd_S0_320, vd_S0_382, vd_S0_473, vd_S0_541, vd_S0_609, vd_S0_675, vd_S0_749, vd_S0_12, vd_S0_128, vd_S0_223, vd_S0_273, vd_S0_323, vd_S0_385, vd_S0_479, vd_S0_547, vd_S0_615, vd_S0_683, vd_S0_752, vd_S0_15, vd_S0_131, vd_S0_226, vd_S0_326, vd_S0_393, vd_S0_480, vd_S0_548, vd_S0_616, vd_S0_689, vd_S0_17, vd_S0_139, vd_S0_229, vd_S0_329, vd_S0_399, vd_S0_483, vd_S0_551, vd_S0_619, vd_S0_695, vd_S0_19, vd_S0_145, vd_S0_405, vd_S0_486, vd_S0_554, vd_S0_622, vd_S0_696, vd_S0_151, vd_S0_411, vd_S0_489, vd_S0_557, vd_S0_625, vd_S0_699, vd_S0_157, vd_S0_412, vd_S0_702, vd_S0_163, vd_S0_415, vd_S0_705, vd_S0_164, vd_S0_418, vd_S0_167, vd_S0_421, vd_S0_170, vd_S0_173, vd_I_add, eH', vd_rs_v, eR', vd_S166_0 hN2, g63, eq_self, if_true, vd_I_toInt, show ¬ ((1 : Int) = 0) by decide, if_false, e1, e1', e2, e2']
  · simp (disch := first | assumption | omega) only [vd_S0_0, vd_S0_33, vd_S0_96, vd_S0_178, vd_S0_180, vd_S0_185, vd_S0_195, vd_S0_197, vd_S0_200, vd_S0_234, vd_S0_236, vd_S0_241, vd_S0_251, vd_S0_253, vd_S0_256, vd_S0_278, vd_S0_280, vd_S0_285, vd_S0_295, vd_S0_297, vd_S0_300, vd_S0_334, vd_S0_336, vd_S0_341, vd_S0_351, vd_S0_353, vd_S0_356, vd_S0_426, vd_S0_428, vd_S0_433, vd_S0_443, vd_S0_445, vd_S0_448, vd_S0_494, vd_S0_496, vd_S0_501, vd_S0_511, vd_S0_513, vd_S0_516, vd_S0_562, vd_S0_564, vd_S0_569, vd_S0_579, vd_S0_581, vd_S0_584, vd_S0_630, vd_S0_632, vd_S0_637, vd_S0_647, vd_S0_649, vd_S0_652, vd_S0_710, vd_S0_712, vd_S0_717, vd_S0_727, vd_S0_729, vd_S0_732, vd_S0_755, vd_S0_763, vd_S0_3, vd_S0_26, vd_S0_36, vd_S0_102, vd_S0_187, vd_S0_206, vd_S0_243, vd_S0_258, vd_S0_287, vd_S0_306, vd_S0_343, vd_S0_362, vd_S0_435, vd_S0_454, vd_S0_503, vd_S0_522, vd_S0_571, vd_S0_590, vd_S0_639, vd_S0_658, vd_S0_719, vd_S0_738, vd_S0_4, vd_S0_40, vd_S0_108, vd_S0_208, vd_S0_261, vd_S0_308, vd_S0_368, vd_S0_460, vd_S0_528, vd_S0_596, vd_S0_664, vd_S0_739, vd_S0_7, vd_S0_114, vd_S0_211, vd_S0_264, vd_S0_311, vd_S0_374, vd_S0_462, vd_S0_530, vd_S0_598, vd_S0_670, vd_S0_742, vd_S0_8, vd_S0_120, vd_S0_219, vd_S0_267, vd_S0_319, vd_S0_380, vd_S0_465, vd_S0_533, vd_S0_601, vd_S0_672, vd_S0_748, vd_S0_11, vd_S0_126, vd_S0_220, vd_S0_270, vd_S0_320, vd_S0_382, vd_S0_473, vd_S0_541, vd_S0_609, vd_S0_675, vd_S0_749, vd_S0_12, vd_S0_128, vd_S0_223, vd_S0_273, vd_S0_323, vd_S0_385, vd_S0_479, vd_S0_547, vd_S0_615, vd_S0_683, vd_S0_752, vd_S0_15, vd_S0_131, vd_S0_226, vd_S0_326, vd_S0_393, vd_S0_480, vd_S0_548, vd_S0_616, vd_S0_689, vd_S0_17, vd_S0_139, vd_S0_229, vd_S0_329, vd_S0_399, vd_S0_483, vd_S0_551, vd_S0_619, vd_S0_695, vd_S0_19, vd_S0_145, vd_S0_405, vd_S0_486, vd_S0_554, vd_S0_622, vd_S0_696, vd_S0_151, vd_S0_411, vd_S0_489, vd_S0_557, vd_S0_625, vd_S0_699, vd_S0_157, vd_S0_412, vd_S0_702, vd_S0_163, vd_S0_415, vd_S0_705, vd_S0_164, vd_S0_418, vd_S0_167, vd_S0_421, vd_S0_170, vd_S0_173, vd_I_add, eH', vd_rs_v, eR', vd_S166_0 hN2, g63, eq_self, if_true, vd_I_toInt, show ¬ ((2 : Int) = 0) by decide, if_false, e1, e1', e2, e2']
theorem vd_hp159 (x1 x2 : Int32) {v : Int32} (k10 : vd_k M 10 = 0) (c0 : t = 0 → ∀ d Q, vd_wp (d + 1) 160 0 [.ref 10, .int x1, .int x2] [] (vd_mf M f) Q = Q (vd_mf M1 f1) (.inl (some (.int v)))) (c1 : t = 1 → ∀ d Q, vd_wp (d + 1) 160 0 [.ref 10, .int x1, .int x2] [] (vd_mf M f) Q = Q (vd_new (vd_mf M1 f1) 18 0 6) (.inr (vd_n M1))) (c2 : t = 2 → ∀ d Q, vd_wp (d + 1) 160 0 [.ref 10, .int x1, .int x2] [] (vd_mf M f) Q = Q (vd_new (vd_mf M1 f1) 0 0 6) (.inr (vd_n M1))) (ht : t = 0 ∨ (t = 1 ∧ 18 ≠ 0) ∨ (t = 2 ∧ 0 ≠ 0)) (k196 : vd_k M1 196 = 35) (l196 : vd_l M1 196 = 1) : ∃ (N0 : vd_M) (g0 : Nat → Nat → Int32), (∀ d Q, vd_wp (d + 17) 159 0 [.ref 10, .int x1, .int x2, .ref 196, vd_U] [] (vd_mf M f) Q = Q (vd_mf N0 g0) (.inl (some (.int (vd_I t))))) ∧ vd_Hp M1 N0 f1 g0 ∧ (t = 0 → vd_j N0 196 0 = v.toInt64) := by
  rcases ht with rfl | ⟨rfl, _⟩ | ⟨rfl, q⟩
  · refine ⟨vd_sj M1 196 0 v.toInt64, f1, fun d Q => ?_, vd_Hp.sj M1 f1 196 0 v.toInt64, fun _ => rfl⟩
    have cc : ∀ Q, vd_wp (d + 16) 160 0 [.ref 10, .int x1, .int x2] [] (vd_mf M f) Q = Q (vd_mf M1 f1) (.inl (some (.int v))) := fun Q => c0 rfl (d + 15) Q
    have l0 : (0 : Int) < (vd_l M1 196 : Int) := by rw [l196]; decide
    have t0 : (0 : Int).toNat = 0 := rfl
    simp (disch := first | assumption | omega) only [vd_S159_0, vd_S159_13, vd_S159_17, vd_S159_5, vd_S159_8, vd_S159_9, vd_S159_10, cc, vd_rh_v, t0]
  · refine ⟨vd_new M1 18 0 6, vd_nz0 f1 (vd_n M1), fun d Q => ?_, vd_Hp.new M1 f1 18, fun h => absurd h (by decide)⟩
    have cc : ∀ Q, vd_wp (d + 16) 160 0 [.ref 10, .int x1, .int x2] [] (vd_mf M f) Q = Q (vd_new (vd_mf M1 f1) 18 0 6) (.inr (vd_n M1)) := fun Q => c1 rfl (d + 15) Q
    have kk : vd_hnd (vd_HN 159) 5 (vd_k (vd_mf (vd_new M1 18 0 6) (vd_nz0 f1 (vd_n M1))) (vd_n M1)) = some 13 := by
      show vd_hnd (vd_HN 159) 5 (vd_k (vd_new M1 18 0 6) (vd_n M1)) = some 13
      rw [vd_k_new, if_pos rfl]
      rfl
    simp (disch := first | assumption | omega) only [vd_S159_0, vd_S159_13, vd_S159_17, vd_S159_5, vd_S159_8, vd_S159_9, vd_S159_10, cc, vd_rh_r kk, vd_new_mf]
  · exact absurd rfl q
theorem vd_case7 (h : vd_LW L xs Z c s M f) {i : Nat} (hi : i + 6 ≤ L) (hL : L ≤ 3072) (a5 a6 : Value) : ∃ (M' : vd_M) (f' : Nat → Nat → Int32) (a5' a6' : Value), (∀ d Q, vd_wp (d + 18) 0 584 [.ref 9, .ref 10, .ref 63, .ref 196, .int (vd_I (i : Int)), a5, a6] [] (vd_mf M f) Q = vd_wp (d + 18) 0 757 [.ref 9, .ref 10, .ref 63, .ref 196, .int (vd_I (i : Int)), a5', a6'] [] (vd_mf M' f') Q) ∧ vd_LW L xs Z (c + 9) (s + 54) M' f' := by
  have k9 := h.2.1.1
  have l9 := h.2.1.2.1
  have k10 : vd_k M 10 = 0 := by obtain ⟨⟨_, _, _, _, hA⟩, _⟩ := h; exact hA.1.1.1.k10
  obtain ⟨x1, e1⟩ : ∃ x, f 9 ((i : Int) + 1).toNat = x := ⟨_, rfl⟩
  obtain ⟨x2, e2⟩ : ∃ x, f 9 ((i : Int) + 2).toNat = x := ⟨_, rfl⟩
  obtain ⟨M1, f1, t, v, c0, c1, c2, ht, ⟨k196, l196, n197, h9, k9a, l9a⟩, hR⟩ := vd_one h (by decide) (fun N g _ _ _ _ hA => vd_model hA x1 x2)
  obtain ⟨N0, g0, eH, hp, hj⟩ := vd_hp159 x1 x2 k10 c0 c1 c2 ht k196 l196
  obtain ⟨hN0, N2, g2, v', eR, g63, hv, hW, hj2⟩ := hR N0 g0 hp
  have k9' : vd_k N0 9 = 32 := by rw [(hp.1 9 (by omega)).1, k9a]
  have l9' : vd_l N0 9 = L := by rw [(hp.1 9 (by omega)).2, l9a]
  have k63 : vd_k N0 63 = 12 := hN0.k63
  have e1' : g0 9 ((i : Int) + 1).toNat = x1 := by rw [(hp.2.1 9 _ (by omega)).2, h9, e1]
  have e2' : g0 9 ((i : Int) + 2).toNat = x2 := by rw [(hp.2.1 9 _ (by omega)).2, h9, e2]
  have b1 : ((i : Int) + 1) < (vd_l M 9 : Int) := by rw [l9]; omega
  have b1' : ((i : Int) + 1) < (vd_l N0 9 : Int) := by rw [l9']; omega
  have b2 : ((i : Int) + 2) < (vd_l M 9 : Int) := by rw [l9]; omega
  have b2' : ((i : Int) + 2) < (vd_l N0 9 : Int) := by rw [l9']; omega
  have hN2 : vd_SR N2 := by obtain ⟨⟨_, _, _, _, hA⟩, _⟩ := hW; exact hA.1.1.2.1
  have k63' : vd_k N2 63 = 12 := hN2.k63
  have k196' : vd_k N2 196 = 35 := hW.2.2.1.1
  have l196' : (0 : Int) < (vd_l N2 196 : Int) := by rw [hW.2.2.1.2]; decide
  have t0 : (0 : Int).toNat = 0 := rfl
  refine ⟨N2, g2, .int (vd_I t), .int v', fun d Q => ?_, hW.mono (by omega) (by omega)⟩
  have eH' : ∀ Q, vd_wp (d + 17) 159 0 [.ref 10, .int x1, .int x2, .ref 196, vd_U] [] (vd_mf M f) Q = Q (vd_mf N0 g0) (.inl (some (.int (vd_I t)))) := fun Q => eH d Q
  have eR' : ∀ Q, vd_wp (d + 17) 282 0 [.ref 63, .int x1, .int x2] [] (vd_mf N0 g0) Q = Q (vd_mf N2 g2) (.inl (some (.int v'))) := fun Q => eR (d + 16) Q
  rcases ht with rfl | ⟨rfl, _⟩ | ⟨rfl, q⟩
  · have hcmp : (lg_cmp (vd_j N2 196 0) v'.toInt64).toInt = 0 := by rw [hj2, hj rfl, hv rfl, vd_cmpS]; decide
    simp (disch := first | assumption | omega) only [vd_S0_0, vd_S0_33, vd_S0_96, vd_S0_178, vd_S0_180, vd_S0_185, vd_S0_195, vd_S0_197, vd_S0_200, vd_S0_234, vd_S0_236, vd_S0_241, vd_S0_251, vd_S0_253, vd_S0_256, vd_S0_278, vd_S0_280, vd_S0_285, vd_S0_295, vd_S0_297, vd_S0_300, vd_S0_334, vd_S0_336, vd_S0_341, vd_S0_351, vd_S0_353, vd_S0_356, vd_S0_426, vd_S0_428, vd_S0_433, vd_S0_443, vd_S0_445, vd_S0_448, vd_S0_494, vd_S0_496, vd_S0_501, vd_S0_511, vd_S0_513, vd_S0_516, vd_S0_562, vd_S0_564, vd_S0_569, vd_S0_579, vd_S0_581, vd_S0_584, vd_S0_630, vd_S0_632, vd_S0_637, vd_S0_647, vd_S0_649, vd_S0_652, vd_S0_710, vd_S0_712, vd_S0_717, vd_S0_727, vd_S0_729, vd_S0_732, vd_S0_755, vd_S0_763, vd_S0_3, vd_S0_26, vd_S0_36, vd_S0_102, vd_S0_187, vd_S0_206, vd_S0_243, vd_S0_258, vd_S0_287, vd_S0_306, vd_S0_343, vd_S0_362, vd_S0_435, vd_S0_454, vd_S0_503, vd_S0_522, vd_S0_571, vd_S0_590, vd_S0_639, vd_S0_658, vd_S0_719, vd_S0_738, vd_S0_4, vd_S0_40, vd_S0_108, vd_S0_208, vd_S0_261, vd_S0_308, vd_S0_368, vd_S0_460, vd_S0_528, vd_S0_596, vd_S0_664, vd_S0_739, vd_S0_7, vd_S0_114, vd_S0_211, vd_S0_264, vd_S0_311, vd_S0_374, vd_S0_462, vd_S0_530, vd_S0_598, vd_S0_670, vd_S0_742, vd_S0_8, vd_S0_120, vd_S0_219, vd_S0_267, vd_S0_319, vd_S0_380, vd_S0_465, vd_S0_533, vd_S0_601, vd_S0_672, vd_S0_748, vd_S0_11, vd_S0_126, vd_S0_220, vd_S0_270, vd_S0_320, vd_S0_382, vd_S0_473, vd_S0_541, vd_S0_609, vd_S0_675, vd_S0_749, vd_S0_12, vd_S0_128, vd_S0_223, vd_S0_273, vd_S0_323, vd_S0_385, vd_S0_479, vd_S0_547, vd_S0_615, vd_S0_683, vd_S0_752, vd_S0_15, vd_S0_131, vd_S0_226, vd_S0_326, vd_S0_393, vd_S0_480, vd_S0_548, vd_S0_616, vd_S0_689, vd_S0_17, vd_S0_139, vd_S0_229, vd_S0_329, vd_S0_399, vd_S0_483, vd_S0_551, vd_S0_619, vd_S0_695, vd_S0_19, vd_S0_145, vd_S0_405, vd_S0_486, vd_S0_554, vd_S0_622, vd_S0_696, vd_S0_151, vd_S0_411, vd_S0_489, vd_S0_557, vd_S0_625, vd_S0_699, vd_S0_157, vd_S0_412, vd_S0_702, vd_S0_163, vd_S0_415, vd_S0_705, vd_S0_164, vd_S0_418, vd_S0_167, vd_S0_421, vd_S0_170, vd_S0_173, vd_I_add, eH', vd_rs_v, eR', vd_S166_0 hN2, g63, eq_self, if_true, vd_I_toInt, t0, hcmp, e1, e1', e2, e2']
  · simp (disch := first | assumption | omega) only [vd_S0_0, vd_S0_33, vd_S0_96, vd_S0_178, vd_S0_180, vd_S0_185, vd_S0_195, vd_S0_197, vd_S0_200, vd_S0_234, vd_S0_236, vd_S0_241, vd_S0_251, vd_S0_253, vd_S0_256, vd_S0_278, vd_S0_280, vd_S0_285, vd_S0_295, vd_S0_297, vd_S0_300, vd_S0_334, vd_S0_336, vd_S0_341, vd_S0_351, vd_S0_353, vd_S0_356, vd_S0_426, vd_S0_428, vd_S0_433, vd_S0_443, vd_S0_445, vd_S0_448, vd_S0_494, vd_S0_496, vd_S0_501, vd_S0_511, vd_S0_513, vd_S0_516, vd_S0_562, vd_S0_564, vd_S0_569, vd_S0_579, vd_S0_581, vd_S0_584, vd_S0_630, vd_S0_632, vd_S0_637, vd_S0_647, vd_S0_649, vd_S0_652, vd_S0_710, vd_S0_712, vd_S0_717, vd_S0_727, vd_S0_729, vd_S0_732, vd_S0_755, vd_S0_763, vd_S0_3, vd_S0_26, vd_S0_36, vd_S0_102, vd_S0_187, vd_S0_206, vd_S0_243, vd_S0_258, vd_S0_287, vd_S0_306, vd_S0_343, vd_S0_362, vd_S0_435, vd_S0_454, vd_S0_503, vd_S0_522, vd_S0_571, vd_S0_590, vd_S0_639, vd_S0_658, vd_S0_719, vd_S0_738, vd_S0_4, vd_S0_40, vd_S0_108, vd_S0_208, vd_S0_261, vd_S0_308, vd_S0_368, vd_S0_460, vd_S0_528, vd_S0_596, vd_S0_664, vd_S0_739, vd_S0_7, vd_S0_114, vd_S0_211, vd_S0_264, vd_S0_311, vd_S0_374, vd_S0_462, vd_S0_530, vd_S0_598, vd_S0_670, vd_S0_742, vd_S0_8, vd_S0_120, vd_S0_219, vd_S0_267, vd_S0_319, vd_S0_380, vd_S0_465, vd_S0_533, vd_S0_601, vd_S0_672, vd_S0_748, vd_S0_11, vd_S0_126, vd_S0_220, vd_S0_270, vd_S0_320, vd_S0_382, vd_S0_473, vd_S0_541, vd_S0_609, vd_S0_675, vd_S0_749, vd_S0_12, vd_S0_128, vd_S0_223, vd_S0_273, vd_S0_323, vd_S0_385, vd_S0_479, vd_S0_547, vd_S0_615, vd_S0_683, vd_S0_752, vd_S0_15, vd_S0_131, vd_S0_226, vd_S0_326, vd_S0_393, vd_S0_480, vd_S0_548, vd_S0_616, vd_S0_689, vd_S0_17, vd_S0_139, vd_S0_229, vd_S0_329, vd_S0_399, vd_S0_483, vd_S0_551, vd_S0_619, vd_S0_695, vd_S0_19, vd_S0_145, vd_S0_405, vd_S0_486, vd_S0_554, vd_S0_622, vd_S0_696, vd_S0_151, vd_S0_411, vd_S0_489, vd_S0_557, vd_S0_625, vd_S0_699, vd_S0_157, vd_S0_412, vd_S0_702, vd_S0_163, vd_S0_415, vd_S0_705, vd_S0_164, vd_S0_418, vd_S0_167, vd_S0_421, vd_S0_170, vd_S0_173, vd_I_add, eH', vd_rs_v, eR', vd_S166_0 hN2, g63, eq_self, if_true, vd_I_toInt, show ¬ ((1 : Int) = 0) by decide, if_false, e1, e1', e2, e2']
  · exact absurd rfl q
theorem vd_hp161 (x1 x2 x3 : Int32) {v : Int32} (k10 : vd_k M 10 = 0) (c0 : t = 0 → ∀ d Q, vd_wp (d + 2) 162 0 [.ref 10, .int x1, .int x2, .int x3, vd_U] [] (vd_mf M f) Q = Q (vd_mf M1 f1) (.inl (some (.int v)))) (c1 : t = 1 → ∀ d Q, vd_wp (d + 2) 162 0 [.ref 10, .int x1, .int x2, .int x3, vd_U] [] (vd_mf M f) Q = Q (vd_new (vd_mf M1 f1) 18 0 6) (.inr (vd_n M1))) (c2 : t = 2 → ∀ d Q, vd_wp (d + 2) 162 0 [.ref 10, .int x1, .int x2, .int x3, vd_U] [] (vd_mf M f) Q = Q (vd_new (vd_mf M1 f1) 15 0 6) (.inr (vd_n M1))) (ht : t = 0 ∨ (t = 1 ∧ 18 ≠ 0) ∨ (t = 2 ∧ 15 ≠ 0)) (k196 : vd_k M1 196 = 35) (l196 : vd_l M1 196 = 1) : ∃ (N0 : vd_M) (g0 : Nat → Nat → Int32), (∀ d Q, vd_wp (d + 17) 161 0 [.ref 10, .int x1, .int x2, .int x3, .ref 196, vd_U] [] (vd_mf M f) Q = Q (vd_mf N0 g0) (.inl (some (.int (vd_I t))))) ∧ vd_Hp M1 N0 f1 g0 ∧ (t = 0 → vd_j N0 196 0 = v.toInt64) := by
  rcases ht with rfl | ⟨rfl, _⟩ | ⟨rfl, q⟩
  · refine ⟨vd_sj M1 196 0 v.toInt64, f1, fun d Q => ?_, vd_Hp.sj M1 f1 196 0 v.toInt64, fun _ => rfl⟩
    have cc : ∀ Q, vd_wp (d + 16) 162 0 [.ref 10, .int x1, .int x2, .int x3, vd_U] [] (vd_mf M f) Q = Q (vd_mf M1 f1) (.inl (some (.int v))) := fun Q => c0 rfl (d + 14) Q
    have l0 : (0 : Int) < (vd_l M1 196 : Int) := by rw [l196]; decide
    have t0 : (0 : Int).toNat = 0 := rfl
    simp (disch := first | assumption | omega) only [vd_S161_0, vd_S161_15, vd_S161_19, vd_S161_23, vd_S161_7, vd_S161_10, vd_S161_11, vd_S161_12, cc, vd_rh_v, t0]
  · refine ⟨vd_new M1 18 0 6, vd_nz0 f1 (vd_n M1), fun d Q => ?_, vd_Hp.new M1 f1 18, fun h => absurd h (by decide)⟩
    have cc : ∀ Q, vd_wp (d + 16) 162 0 [.ref 10, .int x1, .int x2, .int x3, vd_U] [] (vd_mf M f) Q = Q (vd_new (vd_mf M1 f1) 18 0 6) (.inr (vd_n M1)) := fun Q => c1 rfl (d + 14) Q
    have kk : vd_hnd (vd_HN 161) 7 (vd_k (vd_mf (vd_new M1 18 0 6) (vd_nz0 f1 (vd_n M1))) (vd_n M1)) = some 15 := by
      show vd_hnd (vd_HN 161) 7 (vd_k (vd_new M1 18 0 6) (vd_n M1)) = some 15
      rw [vd_k_new, if_pos rfl]
      rfl
    simp (disch := first | assumption | omega) only [vd_S161_0, vd_S161_15, vd_S161_19, vd_S161_23, vd_S161_7, vd_S161_10, vd_S161_11, vd_S161_12, cc, vd_rh_r kk, vd_new_mf]
  · refine ⟨vd_new M1 15 0 6, vd_nz0 f1 (vd_n M1), fun d Q => ?_, vd_Hp.new M1 f1 15, fun h => absurd h (by decide)⟩
    have cc : ∀ Q, vd_wp (d + 16) 162 0 [.ref 10, .int x1, .int x2, .int x3, vd_U] [] (vd_mf M f) Q = Q (vd_new (vd_mf M1 f1) 15 0 6) (.inr (vd_n M1)) := fun Q => c2 rfl (d + 14) Q
    have kk : vd_hnd (vd_HN 161) 7 (vd_k (vd_mf (vd_new M1 15 0 6) (vd_nz0 f1 (vd_n M1))) (vd_n M1)) = some 19 := by
      show vd_hnd (vd_HN 161) 7 (vd_k (vd_new M1 15 0 6) (vd_n M1)) = some 19
      rw [vd_k_new, if_pos rfl]
      rfl
    simp (disch := first | assumption | omega) only [vd_S161_0, vd_S161_15, vd_S161_19, vd_S161_23, vd_S161_7, vd_S161_10, vd_S161_11, vd_S161_12, cc, vd_rh_r kk, vd_new_mf]
theorem vd_case8 (h : vd_LW L xs Z c s M f) {i : Nat} (hi : i + 6 ≤ L) (hL : L ≤ 3072) (a5 a6 : Value) : ∃ (M' : vd_M) (f' : Nat → Nat → Int32) (a5' a6' : Value), (∀ d Q, vd_wp (d + 18) 0 652 [.ref 9, .ref 10, .ref 63, .ref 196, .int (vd_I (i : Int)), a5, a6] [] (vd_mf M f) Q = vd_wp (d + 18) 0 757 [.ref 9, .ref 10, .ref 63, .ref 196, .int (vd_I (i : Int)), a5', a6'] [] (vd_mf M' f') Q) ∧ vd_LW L xs Z (c + 9) (s + 54) M' f' := by
  have k9 := h.2.1.1
  have l9 := h.2.1.2.1
  have k10 : vd_k M 10 = 0 := by obtain ⟨⟨_, _, _, _, hA⟩, _⟩ := h; exact hA.1.1.1.k10
  obtain ⟨x1, e1⟩ : ∃ x, f 9 ((i : Int) + 1).toNat = x := ⟨_, rfl⟩
  obtain ⟨x2, e2⟩ : ∃ x, f 9 ((i : Int) + 2).toNat = x := ⟨_, rfl⟩
  obtain ⟨x3, e3⟩ : ∃ x, f 9 ((i : Int) + 3).toNat = x := ⟨_, rfl⟩
  obtain ⟨M1, f1, t, v, c0, c1, c2, ht, ⟨k196, l196, n197, h9, k9a, l9a⟩, hR⟩ := vd_one h (by decide) (fun N g _ _ _ _ hA => vd_block hA x1 x2 x3)
  obtain ⟨N0, g0, eH, hp, hj⟩ := vd_hp161 x1 x2 x3 k10 c0 c1 c2 ht k196 l196
  obtain ⟨hN0, N2, g2, v', eR, g63, hv, hW, hj2⟩ := hR N0 g0 hp
  have k9' : vd_k N0 9 = 32 := by rw [(hp.1 9 (by omega)).1, k9a]
  have l9' : vd_l N0 9 = L := by rw [(hp.1 9 (by omega)).2, l9a]
  have k63 : vd_k N0 63 = 12 := hN0.k63
  have e1' : g0 9 ((i : Int) + 1).toNat = x1 := by rw [(hp.2.1 9 _ (by omega)).2, h9, e1]
  have e2' : g0 9 ((i : Int) + 2).toNat = x2 := by rw [(hp.2.1 9 _ (by omega)).2, h9, e2]
  have e3' : g0 9 ((i : Int) + 3).toNat = x3 := by rw [(hp.2.1 9 _ (by omega)).2, h9, e3]
  have b1 : ((i : Int) + 1) < (vd_l M 9 : Int) := by rw [l9]; omega
  have b1' : ((i : Int) + 1) < (vd_l N0 9 : Int) := by rw [l9']; omega
  have b2 : ((i : Int) + 2) < (vd_l M 9 : Int) := by rw [l9]; omega
  have b2' : ((i : Int) + 2) < (vd_l N0 9 : Int) := by rw [l9']; omega
  have b3 : ((i : Int) + 3) < (vd_l M 9 : Int) := by rw [l9]; omega
  have b3' : ((i : Int) + 3) < (vd_l N0 9 : Int) := by rw [l9']; omega
  have hN2 : vd_SR N2 := by obtain ⟨⟨_, _, _, _, hA⟩, _⟩ := hW; exact hA.1.1.2.1
  have k63' : vd_k N2 63 = 12 := hN2.k63
  have k196' : vd_k N2 196 = 35 := hW.2.2.1.1
  have l196' : (0 : Int) < (vd_l N2 196 : Int) := by rw [hW.2.2.1.2]; decide
  have t0 : (0 : Int).toNat = 0 := rfl
  refine ⟨N2, g2, .int (vd_I t), .int v', fun d Q => ?_, hW.mono (by omega) (by omega)⟩
  have eH' : ∀ Q, vd_wp (d + 17) 161 0 [.ref 10, .int x1, .int x2, .int x3, .ref 196, vd_U] [] (vd_mf M f) Q = Q (vd_mf N0 g0) (.inl (some (.int (vd_I t)))) := fun Q => eH d Q
  have eR' : ∀ Q, vd_wp (d + 17) 283 0 [.ref 63, .int x1, .int x2, .int x3, vd_U] [] (vd_mf N0 g0) Q = Q (vd_mf N2 g2) (.inl (some (.int v'))) := fun Q => eR (d + 16) Q
  rcases ht with rfl | ⟨rfl, _⟩ | ⟨rfl, q⟩
  · have hcmp : (lg_cmp (vd_j N2 196 0) v'.toInt64).toInt = 0 := by rw [hj2, hj rfl, hv rfl, vd_cmpS]; decide
    simp (disch := first | assumption | omega) only [vd_S0_0, vd_S0_33, vd_S0_96, vd_S0_178, vd_S0_180, vd_S0_185, vd_S0_195, vd_S0_197, vd_S0_200, vd_S0_234, vd_S0_236, vd_S0_241, vd_S0_251, vd_S0_253, vd_S0_256, vd_S0_278, vd_S0_280, vd_S0_285, vd_S0_295, vd_S0_297, vd_S0_300, vd_S0_334, vd_S0_336, vd_S0_341, vd_S0_351, vd_S0_353, vd_S0_356, vd_S0_426, vd_S0_428, vd_S0_433, vd_S0_443, vd_S0_445, vd_S0_448, vd_S0_494, vd_S0_496, vd_S0_501, vd_S0_511, vd_S0_513, vd_S0_516, vd_S0_562, vd_S0_564, vd_S0_569, vd_S0_579, vd_S0_581, vd_S0_584, vd_S0_630, vd_S0_632, vd_S0_637, vd_S0_647, vd_S0_649, vd_S0_652, vd_S0_710, vd_S0_712, vd_S0_717, vd_S0_727, vd_S0_729, vd_S0_732, vd_S0_755, vd_S0_763, vd_S0_3, vd_S0_26, vd_S0_36, vd_S0_102, vd_S0_187, vd_S0_206, vd_S0_243, vd_S0_258, vd_S0_287, vd_S0_306, vd_S0_343, vd_S0_362, vd_S0_435, vd_S0_454, vd_S0_503, vd_S0_522, vd_S0_571, vd_S0_590, vd_S0_639, vd_S0_658, vd_S0_719, vd_S0_738, vd_S0_4, vd_S0_40, vd_S0_108, vd_S0_208, vd_S0_261, vd_S0_308, vd_S0_368, vd_S0_460, vd_S0_528, vd_S0_596, vd_S0_664, vd_S0_739, vd_S0_7, vd_S0_114, vd_S0_211, vd_S0_264, vd_S0_311, vd_S0_374, vd_S0_462, vd_S0_530, vd_S0_598, vd_S0_670, vd_S0_742, vd_S0_8, vd_S0_120, vd_S0_219, vd_S0_267, vd_S0_319, vd_S0_380, vd_S0_465, vd_S0_533, vd_S0_601, vd_S0_672, vd_S0_748, vd_S0_11, vd_S0_126, vd_S0_220, vd_S0_270, vd_S0_320, vd_S0_382, vd_S0_473, vd_S0_541, vd_S0_609, vd_S0_675, vd_S0_749, vd_S0_12, vd_S0_128, vd_S0_223, vd_S0_273, vd_S0_323, vd_S0_385, vd_S0_479, vd_S0_547, vd_S0_615, vd_S0_683, vd_S0_752, vd_S0_15, vd_S0_131, vd_S0_226, vd_S0_326, vd_S0_393, vd_S0_480, vd_S0_548, vd_S0_616, vd_S0_689, vd_S0_17, vd_S0_139, vd_S0_229, vd_S0_329, vd_S0_399, vd_S0_483, vd_S0_551, vd_S0_619, vd_S0_695, vd_S0_19, vd_S0_145, vd_S0_405, vd_S0_486, vd_S0_554, vd_S0_622, vd_S0_696, vd_S0_151, vd_S0_411, vd_S0_489, vd_S0_557, vd_S0_625, vd_S0_699, vd_S0_157, vd_S0_412, vd_S0_702, vd_S0_163, vd_S0_415, vd_S0_705, vd_S0_164, vd_S0_418, vd_S0_167, vd_S0_421, vd_S0_170, vd_S0_173, vd_I_add, eH', vd_rs_v, eR', vd_S166_0 hN2, g63, eq_self, if_true, vd_I_toInt, t0, hcmp, e1, e1', e2, e2', e3, e3']
  · simp (disch := first | assumption | omega) only [vd_S0_0, vd_S0_33, vd_S0_96, vd_S0_178, vd_S0_180, vd_S0_185, vd_S0_195, vd_S0_197, vd_S0_200, vd_S0_234, vd_S0_236, vd_S0_241, vd_S0_251, vd_S0_253, vd_S0_256, vd_S0_278, vd_S0_280, vd_S0_285, vd_S0_295, vd_S0_297, vd_S0_300, vd_S0_334, vd_S0_336, vd_S0_341, vd_S0_351, vd_S0_353, vd_S0_356, vd_S0_426, vd_S0_428, vd_S0_433, vd_S0_443, vd_S0_445, vd_S0_448, vd_S0_494, vd_S0_496, vd_S0_501, vd_S0_511, vd_S0_513, vd_S0_516, vd_S0_562, vd_S0_564, vd_S0_569, vd_S0_579, vd_S0_581, vd_S0_584, vd_S0_630, vd_S0_632, vd_S0_637, vd_S0_647, vd_S0_649, vd_S0_652, vd_S0_710, vd_S0_712, vd_S0_717, vd_S0_727, vd_S0_729, vd_S0_732, vd_S0_755, vd_S0_763, vd_S0_3, vd_S0_26, vd_S0_36, vd_S0_102, vd_S0_187, vd_S0_206, vd_S0_243, vd_S0_258, vd_S0_287, vd_S0_306, vd_S0_343, vd_S0_362, vd_S0_435, vd_S0_454, vd_S0_503, vd_S0_522, vd_S0_571, vd_S0_590, vd_S0_639, vd_S0_658, vd_S0_719, vd_S0_738, vd_S0_4, vd_S0_40, vd_S0_108, vd_S0_208, vd_S0_261, vd_S0_308, vd_S0_368, vd_S0_460, vd_S0_528, vd_S0_596, vd_S0_664, vd_S0_739, vd_S0_7, vd_S0_114, vd_S0_211, vd_S0_264, vd_S0_311, vd_S0_374, vd_S0_462, vd_S0_530, vd_S0_598, vd_S0_670, vd_S0_742, vd_S0_8, vd_S0_120, vd_S0_219, vd_S0_267, vd_S0_319, vd_S0_380, vd_S0_465, vd_S0_533, vd_S0_601, vd_S0_672, vd_S0_748, vd_S0_11, vd_S0_126, vd_S0_220, vd_S0_270, vd_S0_320, vd_S0_382, vd_S0_473, vd_S0_541, vd_S0_609, vd_S0_675, vd_S0_749, vd_S0_12, vd_S0_128, vd_S0_223, vd_S0_273, vd_S0_323, vd_S0_385, vd_S0_479, vd_S0_547, vd_S0_615, vd_S0_683, vd_S0_752, vd_S0_15, vd_S0_131, vd_S0_226, vd_S0_326, vd_S0_393, vd_S0_480, vd_S0_548, vd_S0_616, vd_S0_689, vd_S0_17, vd_S0_139, vd_S0_229, vd_S0_329, vd_S0_399, vd_S0_483, vd_S0_551, vd_S0_619, vd_S0_695, vd_S0_19, vd_S0_145, vd_S0_405, vd_S0_486, vd_S0_554, vd_S0_622, vd_S0_696, vd_S0_151, vd_S0_411, vd_S0_489, vd_S0_557, vd_S0_625, vd_S0_699, vd_S0_157, vd_S0_412, vd_S0_702, vd_S0_163, vd_S0_415, vd_S0_705, vd_S0_164, vd_S0_418, vd_S0_167, vd_S0_421, vd_S0_170, vd_S0_173, vd_I_add, eH', vd_rs_v, eR', vd_S166_0 hN2, g63, eq_self, if_true, vd_I_toInt, show ¬ ((1 : Int) = 0) by decide, if_false, e1, e1', e2, e2', e3, e3']
  · simp (disch := first | assumption | omega) only [vd_S0_0, vd_S0_33, vd_S0_96, vd_S0_178, vd_S0_180, vd_S0_185, vd_S0_195, vd_S0_197, vd_S0_200, vd_S0_234, vd_S0_236, vd_S0_241, vd_S0_251, vd_S0_253, vd_S0_256, vd_S0_278, vd_S0_280, vd_S0_285, vd_S0_295, vd_S0_297, vd_S0_300, vd_S0_334, vd_S0_336, vd_S0_341, vd_S0_351, vd_S0_353, vd_S0_356, vd_S0_426, vd_S0_428, vd_S0_433, vd_S0_443, vd_S0_445, vd_S0_448, vd_S0_494, vd_S0_496, vd_S0_501, vd_S0_511, vd_S0_513, vd_S0_516, vd_S0_562, vd_S0_564, vd_S0_569, vd_S0_579, vd_S0_581, vd_S0_584, vd_S0_630, vd_S0_632, vd_S0_637, vd_S0_647, vd_S0_649, vd_S0_652, vd_S0_710, vd_S0_712, vd_S0_717, vd_S0_727, vd_S0_729, vd_S0_732, vd_S0_755, vd_S0_763, vd_S0_3, vd_S0_26, vd_S0_36, vd_S0_102, vd_S0_187, vd_S0_206, vd_S0_243, vd_S0_258, vd_S0_287, vd_S0_306, vd_S0_343, vd_S0_362, vd_S0_435, vd_S0_454, vd_S0_503, vd_S0_522, vd_S0_571, vd_S0_590, vd_S0_639, vd_S0_658, vd_S0_719, vd_S0_738, vd_S0_4, vd_S0_40, vd_S0_108, vd_S0_208, vd_S0_261, vd_S0_308, vd_S0_368, vd_S0_460, vd_S0_528, vd_S0_596, vd_S0_664, vd_S0_739, vd_S0_7, vd_S0_114, vd_S0_211, vd_S0_264, vd_S0_311, vd_S0_374, vd_S0_462, vd_S0_530, vd_S0_598, vd_S0_670, vd_S0_742, vd_S0_8, vd_S0_120, vd_S0_219, vd_S0_267, vd_S0_319, vd_S0_380, vd_S0_465, vd_S0_533, vd_S0_601, vd_S0_672, vd_S0_748, vd_S0_11, vd_S0_126, vd_S0_220, vd_S0_270, vd_S0_320, vd_S0_382, vd_S0_473, vd_S0_541, vd_S0_609, vd_S0_675, vd_S0_749, vd_S0_12, vd_S0_128, vd_S0_223, vd_S0_273, vd_S0_323, vd_S0_385, vd_S0_479, vd_S0_547, vd_S0_615, vd_S0_683, vd_S0_752, vd_S0_15, vd_S0_131, vd_S0_226, vd_S0_326, vd_S0_393, vd_S0_480, vd_S0_548, vd_S0_616, vd_S0_689, vd_S0_17, vd_S0_139, vd_S0_229, vd_S0_329, vd_S0_399, vd_S0_483, vd_S0_551, vd_S0_619, vd_S0_695, vd_S0_19, vd_S0_145, vd_S0_405, vd_S0_486, vd_S0_554, vd_S0_622, vd_S0_696, vd_S0_151, vd_S0_411, vd_S0_489, vd_S0_557, vd_S0_625, vd_S0_699, vd_S0_157, vd_S0_412, vd_S0_702, vd_S0_163, vd_S0_415, vd_S0_705, vd_S0_164, vd_S0_418, vd_S0_167, vd_S0_421, vd_S0_170, vd_S0_173, vd_I_add, eH', vd_rs_v, eR', vd_S166_0 hN2, g63, eq_self, if_true, vd_I_toInt, show ¬ ((2 : Int) = 0) by decide, if_false, e1, e1', e2, e2', e3, e3']
theorem vd_case9 (h : vd_LW L xs Z c s M f) {i : Nat} (hi : i + 6 ≤ L) (hL : L ≤ 3072) (a5 a6 : Value) : ∃ (M' : vd_M) (f' : Nat → Nat → Int32) (a5' a6' : Value), (∀ d Q, vd_wp (d + 18) 0 732 [.ref 9, .ref 10, .ref 63, .ref 196, .int (vd_I (i : Int)), a5, a6] [] (vd_mf M f) Q = vd_wp (d + 18) 0 757 [.ref 9, .ref 10, .ref 63, .ref 196, .int (vd_I (i : Int)), a5', a6'] [] (vd_mf M' f') Q) ∧ vd_LW L xs Z (c + 9) (s + 54) M' f' := by
  have k9 := h.2.1.1
  have l9 := h.2.1.2.1
  have k10 : vd_k M 10 = 0 := by obtain ⟨⟨_, _, _, _, hA⟩, _⟩ := h; exact hA.1.1.1.k10
  obtain ⟨x1, e1⟩ : ∃ x, f 9 ((i : Int) + 1).toNat = x := ⟨_, rfl⟩
  obtain ⟨M1, f1, t, v, c0, c1, c2, ht, ⟨k196, l196, n197, h9, k9', l9'⟩, hR⟩ := vd_one h (by decide) (fun N g _ _ _ _ hA => vd_count hA x1)
  obtain ⟨hN0, N2, g2, v', eR, g63, hv, hW, hj2⟩ := hR M1 f1 (vd_Hp.refl M1 f1)
  have k63 : vd_k M1 63 = 12 := hN0.k63
  have e1' : f1 9 ((i : Int) + 1).toNat = x1 := by rw [h9, e1]
  have b1 : ((i : Int) + 1) < (vd_l M 9 : Int) := by rw [l9]; omega
  have b1' : ((i : Int) + 1) < (vd_l M1 9 : Int) := by rw [l9']; omega
  refine ⟨N2, g2, a5, a6, fun d Q => ?_, hW.mono (by omega) (by omega)⟩
  rcases ht with rfl | ⟨rfl, q⟩ | ⟨rfl, q⟩
  · have eH' : ∀ Q, vd_wp (d + 17) 15 0 [.ref 10, .int x1] [] (vd_mf M f) Q = Q (vd_mf M1 f1) (.inl (some (.int v))) := fun Q => c0 rfl (d + 16) Q
    have eR' : ∀ Q, vd_wp (d + 17) 285 0 [.ref 63, .int x1] [] (vd_mf M1 f1) Q = Q (vd_mf N2 g2) (.inl (some (.int v'))) := fun Q => eR (d + 16) Q
    have hv' := hv rfl
    subst hv'
    simp (disch := first | assumption | omega) only [vd_S0_0, vd_S0_33, vd_S0_96, vd_S0_178, vd_S0_180, vd_S0_185, vd_S0_195, vd_S0_197, vd_S0_200, vd_S0_234, vd_S0_236, vd_S0_241, vd_S0_251, vd_S0_253, vd_S0_256, vd_S0_278, vd_S0_280, vd_S0_285, vd_S0_295, vd_S0_297, vd_S0_300, vd_S0_334, vd_S0_336, vd_S0_341, vd_S0_351, vd_S0_353, vd_S0_356, vd_S0_426, vd_S0_428, vd_S0_433, vd_S0_443, vd_S0_445, vd_S0_448, vd_S0_494, vd_S0_496, vd_S0_501, vd_S0_511, vd_S0_513, vd_S0_516, vd_S0_562, vd_S0_564, vd_S0_569, vd_S0_579, vd_S0_581, vd_S0_584, vd_S0_630, vd_S0_632, vd_S0_637, vd_S0_647, vd_S0_649, vd_S0_652, vd_S0_710, vd_S0_712, vd_S0_717, vd_S0_727, vd_S0_729, vd_S0_732, vd_S0_755, vd_S0_763, vd_S0_3, vd_S0_26, vd_S0_36, vd_S0_102, vd_S0_187, vd_S0_206, vd_S0_243, vd_S0_258, vd_S0_287, vd_S0_306, vd_S0_343, vd_S0_362, vd_S0_435, vd_S0_454, vd_S0_503, vd_S0_522, vd_S0_571, vd_S0_590, vd_S0_639, vd_S0_658, vd_S0_719, vd_S0_738, vd_S0_4, vd_S0_40, vd_S0_108, vd_S0_208, vd_S0_261, vd_S0_308, vd_S0_368, vd_S0_460, vd_S0_528, vd_S0_596, vd_S0_664, vd_S0_739, vd_S0_7, vd_S0_114, vd_S0_211, vd_S0_264, vd_S0_311, vd_S0_374, vd_S0_462, vd_S0_530, vd_S0_598, vd_S0_670, vd_S0_742, vd_S0_8, vd_S0_120, vd_S0_219, vd_S0_267, vd_S0_319, vd_S0_380, vd_S0_465, vd_S0_533, vd_S0_601, vd_S0_672, vd_S0_748, vd_S0_11, vd_S0_126, vd_S0_220, vd_S0_270, vd_S0_320, vd_S0_382, vd_S0_473, vd_S0_541, vd_S0_609, vd_S0_675, vd_S0_749, vd_S0_12, vd_S0_128, vd_S0_223, vd_S0_273, vd_S0_323, vd_S0_385, vd_S0_479, vd_S0_547, vd_S0_615, vd_S0_683, vd_S0_752, vd_S0_15, vd_S0_131, vd_S0_226, vd_S0_326, vd_S0_393, vd_S0_480, vd_S0_548, vd_S0_616, vd_S0_689, vd_S0_17, vd_S0_139, vd_S0_229, vd_S0_329, vd_S0_399, vd_S0_483, vd_S0_551, vd_S0_619, vd_S0_695, vd_S0_19, vd_S0_145, vd_S0_405, vd_S0_486, vd_S0_554, vd_S0_622, vd_S0_696, vd_S0_151, vd_S0_411, vd_S0_489, vd_S0_557, vd_S0_625, vd_S0_699, vd_S0_157, vd_S0_412, vd_S0_702, vd_S0_163, vd_S0_415, vd_S0_705, vd_S0_164, vd_S0_418, vd_S0_167, vd_S0_421, vd_S0_170, vd_S0_173, vd_I_add, eH', vd_rs_v, eR', eq_self, if_true, e1, e1']
  · exact absurd rfl q
  · exact absurd rfl q
/-- one turn of the law's loop -/
theorem vd_lturn (h : vd_LW L xs Z c s M f) {i : Nat} (hi : i + 6 ≤ L) (hL : L ≤ 3072) (a5 a6 : Value) : ∃ (M' : vd_M) (f' : Nat → Nat → Int32) (a5' a6' : Value), (∀ d Q, vd_wp (d + 18) 0 33 [.ref 9, .ref 10, .ref 63, .ref 196, .int (vd_I (i : Int)), a5, a6] [] (vd_mf M f) Q = vd_wp (d + 18) 0 757 [.ref 9, .ref 10, .ref 63, .ref 196, .int (vd_I (i : Int)), a5', a6'] [] (vd_mf M' f') Q) ∧ vd_LW L xs Z (c + 9) (s + 54) M' f' := by
  have k9 := h.2.1.1
  have l9 := h.2.1.2.1
  have b0 : (i : Int) < (vd_l M 9 : Int) := by rw [l9]; omega
  obtain ⟨z, hz, z0, z1⟩ := vd_I_of (f 9 i &&& vd_I 15)
  have eS : ∀ d Q, vd_wp (d + 18) 0 33 [.ref 9, .ref 10, .ref 63, .ref 196, .int (vd_I (i : Int)), a5, a6] [] (vd_mf M f) Q = vd_wp (d + 18) 0 (vd_tsw 40 717 0 9 #[56, 160, 216, 260, 316, 408, 476, 544, 612, 692] (vd_I z)) [.ref 9, .ref 10, .ref 63, .ref 196, .int (vd_I (i : Int)), a5, a6] [] (vd_mf M f) Q := fun d Q => by
    simp (disch := first | assumption | omega) only [vd_S0_33, vd_S0_36, Int.toNat_natCast, hz, vd_S0_40]
  by_cases hd : z < 0 ∨ 9 < z
  · refine ⟨M, f, a5, a6, fun d Q => ?_, h.mono (by omega) (by omega)⟩
    have e : vd_tsw 40 717 0 9 #[56, 160, 216, 260, 316, 408, 476, 544, 612, 692] (vd_I z) = 757 := by
      unfold vd_tsw
      rw [vd_I_toInt z0 z1, if_pos (by omega)]
      rfl
    rw [eS d Q, e]
  · have : z = 0 ∨ z = 1 ∨ z = 2 ∨ z = 3 ∨ z = 4 ∨ z = 5 ∨ z = 6 ∨ z = 7 ∨ z = 8 ∨ z = 9 := by omega
    rcases this with rfl | rfl | rfl | rfl | rfl | rfl | rfl | rfl | rfl | rfl
    · obtain ⟨M', f', b5, b6, e, hW⟩ := vd_case0 h hi hL a5 a6
      exact ⟨M', f', b5, b6, fun d Q => by rw [eS d Q, show vd_tsw 40 717 0 9 #[56, 160, 216, 260, 316, 408, 476, 544, 612, 692] (vd_I 0) = 96 by decide]; exact e d Q, hW⟩
    · obtain ⟨M', f', b5, b6, e, hW⟩ := vd_case1 h hi hL a5 a6
      exact ⟨M', f', b5, b6, fun d Q => by rw [eS d Q, show vd_tsw 40 717 0 9 #[56, 160, 216, 260, 316, 408, 476, 544, 612, 692] (vd_I 1) = 200 by decide]; exact e d Q, hW⟩
    · obtain ⟨M', f', b5, b6, e, hW⟩ := vd_case2 h hi hL a5 a6
      exact ⟨M', f', b5, b6, fun d Q => by rw [eS d Q, show vd_tsw 40 717 0 9 #[56, 160, 216, 260, 316, 408, 476, 544, 612, 692] (vd_I 2) = 256 by decide]; exact e d Q, hW⟩
    · obtain ⟨M', f', b5, b6, e, hW⟩ := vd_case3 h hi hL a5 a6
      exact ⟨M', f', b5, b6, fun d Q => by rw [eS d Q, show vd_tsw 40 717 0 9 #[56, 160, 216, 260, 316, 408, 476, 544, 612, 692] (vd_I 3) = 300 by decide]; exact e d Q, hW⟩
    · obtain ⟨M', f', b5, b6, e, hW⟩ := vd_case4 h hi hL a5 a6
      exact ⟨M', f', b5, b6, fun d Q => by rw [eS d Q, show vd_tsw 40 717 0 9 #[56, 160, 216, 260, 316, 408, 476, 544, 612, 692] (vd_I 4) = 356 by decide]; exact e d Q, hW⟩
    · obtain ⟨M', f', b5, b6, e, hW⟩ := vd_case5 h hi hL a5 a6
      exact ⟨M', f', b5, b6, fun d Q => by rw [eS d Q, show vd_tsw 40 717 0 9 #[56, 160, 216, 260, 316, 408, 476, 544, 612, 692] (vd_I 5) = 448 by decide]; exact e d Q, hW⟩
    · obtain ⟨M', f', b5, b6, e, hW⟩ := vd_case6 h hi hL a5 a6
      exact ⟨M', f', b5, b6, fun d Q => by rw [eS d Q, show vd_tsw 40 717 0 9 #[56, 160, 216, 260, 316, 408, 476, 544, 612, 692] (vd_I 6) = 516 by decide]; exact e d Q, hW⟩
    · obtain ⟨M', f', b5, b6, e, hW⟩ := vd_case7 h hi hL a5 a6
      exact ⟨M', f', b5, b6, fun d Q => by rw [eS d Q, show vd_tsw 40 717 0 9 #[56, 160, 216, 260, 316, 408, 476, 544, 612, 692] (vd_I 7) = 584 by decide]; exact e d Q, hW⟩
    · obtain ⟨M', f', b5, b6, e, hW⟩ := vd_case8 h hi hL a5 a6
      exact ⟨M', f', b5, b6, fun d Q => by rw [eS d Q, show vd_tsw 40 717 0 9 #[56, 160, 216, 260, 316, 408, 476, 544, 612, 692] (vd_I 8) = 652 by decide]; exact e d Q, hW⟩
    · obtain ⟨M', f', b5, b6, e, hW⟩ := vd_case9 h hi hL a5 a6
      exact ⟨M', f', b5, b6, fun d Q => by rw [eS d Q, show vd_tsw 40 717 0 9 #[56, 160, 216, 260, 316, 408, 476, 544, 612, 692] (vd_I 9) = 732 by decide]; exact e d Q, hW⟩
theorem vd_loop (hL : L ≤ 3072) (m : Nat) : ∀ (i c s : Nat) (M : vd_M) (f : Nat → Nat → Int32) (a5 a6 : Value), L < i + 6 + 6 * m → i ≤ L + 6 → vd_LW L xs Z c s M f → ∃ (M' : vd_M) (f' : Nat → Nat → Int32), (∀ d Q, vd_wp (d + 18) 0 23 [.ref 9, .ref 10, .ref 63, .ref 196, .int (vd_I (i : Int)), a5, a6] [] (vd_mf M f) Q = Q (vd_mf M' f') (.inl (some (.int (vd_I 1))))) ∧ vd_c M' ≤ c + 9 * m ∧ vd_s M' ≤ s + 54 * m := by
  have out : ∀ (i c s : Nat) (M : vd_M) (f : Nat → Nat → Int32) (a5 a6 : Value), L < i + 6 → i ≤ L + 6 → vd_LW L xs Z c s M f → (∀ d Q, vd_wp (d + 18) 0 23 [.ref 9, .ref 10, .ref 63, .ref 196, .int (vd_I (i : Int)), a5, a6] [] (vd_mf M f) Q = Q (vd_mf M f) (.inl (some (.int (vd_I 1))))) ∧ vd_c M ≤ c ∧ vd_s M ≤ s := fun i c s M f a5 a6 h1 h2 h => by
    have k9 := h.2.1.1
    have l9 := h.2.1.2.1
    have kk : 32 ≤ vd_k M 9 := by rw [k9]; decide
    have kk' : vd_k M 9 < 41 := by rw [k9]; decide
    have lt : (L : Int) - 6 < (i : Int) := by omega
    refine ⟨fun d Q => ?_, by have := h.2.2.2; omega, by have := h.2.2.2; omega⟩
    rw [vd_S0_23]
    simp (disch := first | assumption | omega) only [vd_S0_26, l9, vd_I_sub, vd_I_toInt, lt, if_true, vd_S0_763]
  induction m with
  | zero =>
    intro i c s M f a5 a6 h1 h2 h
    obtain ⟨q1, q2, q3⟩ := out i c s M f a5 a6 (by omega) h2 h
    exact ⟨M, f, q1, by omega, by omega⟩
  | succ m ih =>
    intro i c s M f a5 a6 h1 h2 h
    by_cases hi : i + 6 ≤ L
    · obtain ⟨M1, f1, b5, b6, e1, hW⟩ := vd_lturn h hi hL a5 a6
      obtain ⟨M', f', e2, r1, r2⟩ := ih (i + 6) (c + 9) (s + 54) M1 f1 b5 b6 (by omega) (by omega) hW
      have e6 : (i : Int) + 6 = ((i + 6 : Nat) : Int) := by omega
      have k9 := h.2.1.1
      have l9 := h.2.1.2.1
      have kk : 32 ≤ vd_k M 9 := by rw [k9]; decide
      have kk' : vd_k M 9 < 41 := by rw [k9]; decide
      have lt : ¬ ((L : Int) - 6 < (i : Int)) := by omega
      refine ⟨M', f', fun d Q => ?_, by omega, by omega⟩
      rw [vd_S0_23]
      simp (disch := first | assumption | omega) only [vd_S0_26, l9, vd_I_sub, vd_I_toInt, lt, if_false, e1, vd_S0_757, vd_I_add, e6, e2]
    · obtain ⟨q1, q2, q3⟩ := out i c s M f a5 a6 (by omega) h2 h
      exact ⟨M, f, q1, by omega, by omega⟩
end VDLA
