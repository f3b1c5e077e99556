/-! ===== a difference to what was found ===== -/
section VDVE
variable {M N : vd_M} {ow fa lo lf : Nat} {n : Nat} {f g : Nat → Nat → Int32}
theorem vd_RD.upg {c i : Nat} {v : Int32} (h : vd_RD n f g) (hc : 83 ≤ c) : vd_RD n f (vd_up g c i v) := h.keep (fun _ _ _ => rfl) (fun a j q => vd_up_ne (by omega))
theorem vd_ladS (hM : vd_SC M ow fa lo lf) (hN : vd_SR N) {z w j : Int} (z0 : 0 ≤ z) (w1 : w ≤ 100) (z1 : z + w ≤ 2941) (j0 : 0 ≤ j) (jw : j < w) (hn : n + 1 ≤ 8000000) (h : vd_RD n f g) : ∃ (f1 g1 : Nat → Nat → Int32) (b : Int), (∀ d Q, vd_wp (d + 1) 202 0 [.ref 63, .int (vd_I (z + j)), vd_U] [] (vd_mf N g) Q = Q (vd_mf N g1) (.inl (some (.int (vd_I b))))) ∧ ((b = 0 ∧ ∀ d Q, vd_wp (d + 1) 86 5 [.ref 34, .int (vd_I z), .int (vd_I w), .int (vd_I j), .int (vd_I 1)] [] (vd_mf M f) Q = Q (vd_mf M f1) (.inl (some (.int (vd_I j))))) ∨ (b = 1 ∧ ∀ d Q, vd_wp (d + 1) 86 5 [.ref 34, .int (vd_I z), .int (vd_I w), .int (vd_I j), .int (vd_I 1)] [] (vd_mf M f) Q = vd_wp (d + 1) 86 5 [.ref 34, .int (vd_I z), .int (vd_I w), .int (vd_I (j + 1)), .int (vd_I 1)] [] (vd_mf M f1) Q)) ∧ vd_RD (n + 1) f1 g1 ∧ vd_fD f f1 ∧ vd_gD g g1 := by
  obtain ⟨k, hk⟩ := Int.eq_ofNat_of_zero_le (show 0 ≤ z + j by omega)
  obtain ⟨f1, g1, b, q1, q2, q3, q4, q5, q6⟩ := vd_readC hM hN h (by omega) (show k < 2941 by omega)
  have hb : 0 ≤ 2 * (k : Int) + b ∧ 2 * (k : Int) + b < 5882 := by omega
  refine ⟨vd_tF f1 k b, vd_tG g1 k b, b, fun d Q => by rw [hk]; exact q2 d Q, ?_, q4, q5, q6⟩
  rcases q3 with rfl | rfl
  · refine Or.inl ⟨rfl, fun d Q => ?_⟩
    simp (disch := omega) only [vd_S86_5 hM, vd_S86_0 hM, vd_S86_10 hM, vd_S86_16 hM, vd_S86_65 hM, vd_S86_24 hM, vd_S86_25 hM, vd_S86_28 hM, vd_S86_43 hM, vd_S86_46 hM, vd_I_toInt, jw, if_true, eq_self, vd_I_add, hk, Int.toNat_natCast, q1, vd_rs_v, vd_rs_n, vd_I_mul, Int.add_zero]
    simp (disch := omega) only [vd_S86_5 hM, vd_S86_0 hM, vd_S86_10 hM, vd_S86_16 hM, vd_S86_65 hM, vd_S86_24 hM, vd_S86_25 hM, vd_S86_28 hM, vd_S86_43 hM, vd_S86_46 hM, vd_I_toInt, jw, if_true, show ¬ ((0 : Int) = 1) by decide, if_false]
    rfl
  · refine Or.inr ⟨rfl, fun d Q => ?_⟩
    conv => lhs; rw [vd_S86_5 hM]
    simp (disch := omega) only [vd_S86_0 hM, vd_S86_10 hM, vd_S86_16 hM, vd_S86_65 hM, vd_S86_24 hM, vd_S86_25 hM, vd_S86_28 hM, vd_S86_43 hM, vd_S86_46 hM, vd_I_toInt, jw, if_true, eq_self, vd_I_add, hk, Int.toNat_natCast, q1, vd_rs_v, vd_rs_n, vd_I_mul]
    rfl
def vd_NewPost (M N : vd_M) (n k : Nat) (vx vy fin : Int) (f g : Nat → Nat → Int32) : Prop := ∃ (f' g' : Nat → Nat → Int32) (nx ny j : Int), (∀ x1 x2 x3 a6 a7 d Q, vd_wp (d + 3) 89 113 [.ref 44, .int x1, .int x2, .int x3, .int (vd_I vx), .int (vd_I vy), a6, a7] [.int (vd_I fin)] (vd_mf M f) Q = vd_wp (d + 3) 89 182 [.ref 44, .int x1, .int x2, .int x3, .int (vd_I nx), .int (vd_I ny), .int (vd_I fin), .int (vd_I j)] [] (vd_mf M f') Q) ∧ (∀ x2 a3 a4 a5 d Q, vd_wp (d + 4) 211 88 [.ref 63, .int (vd_I (k : Int)), .int x2, a3, a4, a5] [.int (vd_I fin)] (vd_mf N g) Q = Q (vd_mf N g') (.inl none)) ∧ ((-5500 ≤ nx ∧ nx ≤ 5500) ∧ (-5500 ≤ ny ∧ ny ≤ 5500)) ∧ vd_RD (n + 41) f' g' ∧ (g' 118 k = vd_I nx ∧ g' 119 k = vd_I ny) ∧ vd_fD f f' ∧ (∀ c i, ¬ (c = 63 ∧ (i = 46 ∨ (91 ≤ i ∧ i ≤ 94))) → c ≠ 81 → c ≠ 82 → ¬ ((c = 118 ∨ c = 119) ∧ i = k) → g' c i = g c i)
theorem vd_vecNew (hM : vd_SC M ow fa lo lf) (hN : vd_SR N) {vx vy fin : Int} {k : Nat} (hk : k < 2) (hfin : fin = 0 ∨ fin = 1) (hn : n + 41 ≤ 8000000) (h : vd_RD n f g) (bx : -2500 ≤ vx ∧ vx ≤ 2500) (by' : -2500 ≤ vy ∧ vy ≤ 2500) (hx : g 118 k = vd_I vx) (hy : g 119 k = vd_I vy) : vd_NewPost M N n k vx vy fin f g := by
  obtain ⟨f1, g1, b0, m0, s0, r0, F0, G0⟩ := vd_ladS hM hN (z := 1128) (w := 3) (j := 0) (by decide) (by decide) (by decide) (by decide) (by decide) (by omega) h
  rw [show (1128 + 0 : Int) = 1128 from rfl] at m0
  have e86 := vd_S86_0 hM
  rcases s0 with ⟨rfl, s0⟩ | ⟨rfl, s0⟩
  · refine ⟨f1, g1, vx, vy, 0, fun x1 x2 x3 a6 a7 d Q => ?_, fun x2 a3 a4 a5 d Q => ?_, by omega, r0.mono (by omega), ⟨by rw [G0 _ _ (by omega) (by omega) (by omega)]; exact hx, by rw [G0 _ _ (by omega) (by omega) (by omega)]; exact hy⟩, F0, fun c i q1 q2 q3 _ => G0 c i q1 q2 q3⟩
    · simp (disch := omega) only [vd_S89_113 hM, vd_S89_123 hM, vd_S89_126 hM, vd_S89_148 hM, vd_S89_149 hM, vd_S89_160 hM, vd_S89_178 hM, vd_S89_179 hM, e86, s0, vd_rs_v, vd_rs_n, vd_I_toInt, show (0 : Int) < 2 by decide, show ¬ ((0 : Int) = 1) by decide, show ¬ ((0 : Int) = 3) by decide, if_true, if_false, vd_I_add, Int.add_zero]
    · simp (disch := omega) only [vd_S211_88 hN, vd_S211_93 hN, vd_S211_96 hN, vd_S211_99 hN, m0, vd_rs_v, vd_rs_n, vd_I_toInt, eq_self, if_true]
  rw [show (0 + 1 : Int) = 1 from rfl] at s0
  obtain ⟨f2, g2, b1, m1, s1, r1, F1, G1⟩ := vd_ladS hM hN (z := 1128) (w := 3) (j := 1) (by decide) (by decide) (by decide) (by decide) (by decide) (by omega) r0
  rw [show (1128 + 1 : Int) = 1129 from rfl] at m1
  have FF1 := F0.trans F1
  have GG1 := G0.trans G1
  have kk : ((k : Nat) : Int).toNat = k := Int.toNat_natCast k
  rcases s1 with ⟨rfl, s1⟩ | ⟨rfl, s1⟩
  · obtain ⟨f3, g3, r, d1, d2, d3, r3, F3, G3⟩ := vd_diff hM hN (v := 1158) (fi := fin) (by decide) (by decide) hfin (by omega) r1
    have hx2 : g2 118 k = vd_I vx := by rw [GG1 _ _ (by omega) (by omega) (by omega)]; exact hx
    have hy3 : g3 119 k = vd_I vy := by rw [G3 _ _ (by omega) (by omega) (by omega), GG1 _ _ (by omega) (by omega) (by omega)]; exact hy
    refine ⟨f3, vd_up g3 118 k (vd_I (vx + r)), vx + r, vy, 1, fun x1 x2 x3 a6 a7 d Q => ?_, fun x2 a3 a4 a5 d Q => ?_, by omega, (r3.mono (by omega)).upg (by omega), ⟨vd_up_eq _ _ _ _, by rw [vd_up_ne (by omega)]; exact hy3⟩, FF1.trans F3, fun c i q1 q2 q3 q4 => by rw [vd_up_ne (by omega), G3 c i q1 q2 q3, GG1 c i q1 q2 q3]⟩
    · simp (disch := omega) only [vd_S89_113 hM, vd_S89_123 hM, vd_S89_126 hM, vd_S89_148 hM, vd_S89_149 hM, vd_S89_166 hM, vd_S89_172 hM, vd_S89_175 hM, vd_S89_179 hM, e86, s0, s1, d1, vd_rs_v, vd_rs_n, vd_I_toInt, show (1 : Int) < 2 by decide, eq_self, if_true, if_false, vd_I_add, Int.add_zero]
    · simp (disch := omega) only [vd_S211_88 hN, vd_S211_93 hN, vd_S211_96 hN, vd_S211_100 hN, vd_S211_104 hN, vd_S211_107 hN, vd_S211_115 hN, vd_S211_116 hN, vd_S211_134 hN, vd_S211_139 hN, vd_S211_163 hN, vd_S211_168 hN, vd_S211_174 hN, vd_S211_180 hN, vd_S211_183 hN, vd_S211_184 hN, vd_S211_185 hN, m0, m1, d2, hx2, kk, vd_rs_v, vd_rs_n, vd_I_toInt, eq_self, show ¬ ((1 : Int) = 0) by decide, show ¬ ((0 : Int) = 1) by decide, if_true, if_false, vd_I_add]
  rw [show (1 + 1 : Int) = 2 from rfl] at s1
  obtain ⟨f3, g3, b2, m2, s2, r2, F2, G2⟩ := vd_ladS hM hN (z := 1128) (w := 3) (j := 2) (by decide) (by decide) (by decide) (by decide) (by decide) (by omega) r1
  rw [show (1128 + 2 : Int) = 1130 from rfl] at m2
  have FF2 := FF1.trans F2
  have GG2 := GG1.trans G2
  obtain ⟨f4, g4, r, d1, d2, d3, r4, F4, G4⟩ := vd_diff hM hN (v := 1131) (fi := fin) (by decide) (by decide) hfin (by omega) r2
  have FF4 := FF2.trans F4
  have GG4 := GG2.trans G4
  have hy3 : g3 119 k = vd_I vy := by rw [GG2 _ _ (by omega) (by omega) (by omega)]; exact hy
  have hx4 : g4 118 k = vd_I vx := by rw [GG4 _ _ (by omega) (by omega) (by omega)]; exact hx
  rcases s2 with ⟨rfl, s2⟩ | ⟨rfl, s2⟩
  · refine ⟨f4, vd_up g4 119 k (vd_I (vy + r)), vx, vy + r, 2, fun x1 x2 x3 a6 a7 d Q => ?_, fun x2 a3 a4 a5 d Q => ?_, by omega, (r4.mono (by omega)).upg (by omega), ⟨by rw [vd_up_ne (by omega)]; exact hx4, vd_up_eq _ _ _ _⟩, FF4, fun c i q1 q2 q3 q4 => by rw [vd_up_ne (by omega), GG4 c i q1 q2 q3]⟩
    · simp (disch := omega) only [vd_S89_113 hM, vd_S89_123 hM, vd_S89_126 hM, vd_S89_136 hM, vd_S89_142 hM, vd_S89_145 hM, vd_S89_149 hM, vd_S89_160 hM, vd_S89_178 hM, vd_S89_179 hM, e86, s0, s1, s2, d1, vd_rs_v, vd_rs_n, vd_I_toInt, Int.lt_irrefl, show ¬ ((2 : Int) = 1) by decide, show ¬ ((2 : Int) = 3) by decide, if_false, vd_I_add, Int.add_zero]
    · simp (disch := omega) only [vd_S211_88 hN, vd_S211_93 hN, vd_S211_96 hN, vd_S211_100 hN, vd_S211_104 hN, vd_S211_107 hN, vd_S211_111 hN, vd_S211_116 hN, vd_S211_123 hN, vd_S211_127 hN, vd_S211_130 hN, vd_S211_138 hN, vd_S211_139 hN, vd_S211_146 hN, vd_S211_152 hN, vd_S211_158 hN, vd_S211_161 hN, vd_S211_162 hN, vd_S211_163 hN, vd_S211_185 hN, m0, m1, m2, d2, hy3, kk, vd_rs_v, vd_rs_n, vd_I_toInt, eq_self, show ¬ ((1 : Int) = 0) by decide, show ¬ ((0 : Int) = 1) by decide, if_true, if_false, vd_I_add]
  · rw [show (2 + 1 : Int) = 3 from rfl] at s2
    have e3 : ∀ d Q, vd_wp (d + 1) 86 5 [.ref 34, .int (vd_I 1128), .int (vd_I 3), .int (vd_I 3), .int (vd_I 1)] [] (vd_mf M f3) Q = Q (vd_mf M f3) (.inl (some (.int (vd_I 3)))) := fun d Q => by
      simp (disch := omega) only [vd_S86_5 hM, vd_S86_65 hM, vd_I_toInt, Int.lt_irrefl, if_false]
    have r4' : vd_RD (n + 1 + 1 + 1 + 19) f4 (vd_up g4 119 k (vd_I (vy + r))) := r4.upg (by omega)
    obtain ⟨f5, g5, r', t1, t2, t3, r5, F5, G5⟩ := vd_diff hM hN (v := 1158) (fi := fin) (by decide) (by decide) hfin (by omega) r4'
    have hx4' : vd_up g4 119 k (vd_I (vy + r)) 118 k = vd_I vx := by rw [vd_up_ne (by omega)]; exact hx4
    have hy5 : g5 119 k = vd_I (vy + r) := by rw [G5 _ _ (by omega) (by omega) (by omega), vd_up_eq]
    refine ⟨f5, vd_up g5 118 k (vd_I (vx + r')), vx + r', vy + r, 3, fun x1 x2 x3 a6 a7 d Q => ?_, fun x2 a3 a4 a5 d Q => ?_, by omega, (r5.mono (by omega)).upg (by omega), ⟨vd_up_eq _ _ _ _, by rw [vd_up_ne (by omega)]; exact hy5⟩, FF4.trans F5, fun c i q1 q2 q3 q4 => by rw [vd_up_ne (by omega), G5 c i q1 q2 q3, vd_up_ne (by omega), GG4 c i q1 q2 q3]⟩
    · simp (disch := omega) only [vd_S89_113 hM, vd_S89_123 hM, vd_S89_126 hM, vd_S89_136 hM, vd_S89_142 hM, vd_S89_145 hM, vd_S89_149 hM, vd_S89_160 hM, vd_S89_166 hM, vd_S89_172 hM, vd_S89_175 hM, vd_S89_179 hM, e86, s0, s1, s2, e3, d1, t1, vd_rs_v, vd_rs_n, vd_I_toInt, show ¬ ((3 : Int) < 2) by decide, show ¬ ((3 : Int) = 1) by decide, eq_self, if_true, if_false, vd_I_add, Int.add_zero]
    · simp (disch := omega) only [vd_S211_88 hN, vd_S211_93 hN, vd_S211_96 hN, vd_S211_100 hN, vd_S211_104 hN, vd_S211_107 hN, vd_S211_111 hN, vd_S211_116 hN, vd_S211_123 hN, vd_S211_127 hN, vd_S211_130 hN, vd_S211_134 hN, vd_S211_139 hN, vd_S211_146 hN, vd_S211_152 hN, vd_S211_158 hN, vd_S211_161 hN, vd_S211_162 hN, vd_S211_163 hN, vd_S211_168 hN, vd_S211_174 hN, vd_S211_180 hN, vd_S211_183 hN, vd_S211_184 hN, vd_S211_185 hN, m0, m1, m2, d2, t2, hy3, hx4', kk, vd_rs_v, vd_rs_n, vd_I_toInt, eq_self, show ¬ ((1 : Int) = 0) by decide, if_true, if_false, vd_I_add]
end VDVE
