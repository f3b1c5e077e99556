/-! ===== a frame's work begins ===== -/
section VDWB
variable {M N : vd_M} {ow fa lo lf : Nat} {f g : Nat → Nat → Int32}
theorem vd_wkC (hM : vd_SC M ow fa lo lf) {w h sho rs kd ow0 oh0 lm cx : Int} (hw : f 17 5 = vd_I w) (hh : f 17 6 = vd_I h) (hs : f 17 2 = vd_I sho) (hr : f 17 3 = vd_I rs) (hk : f 17 4 = vd_I kd) (b : 1 ≤ w ∧ w ≤ 192 ∧ 1 ≤ h ∧ h ≤ 192) (s01 : sho = 0 ∨ sho = 1) (r01 : rs = 0 ∨ rs = 1) (k0 : 0 ≤ kd) (k1 : kd ≤ 2) (o0 : f 37 0 = vd_I ow0) (o1 : f 37 1 = vd_I oh0) (ob : 0 ≤ ow0 ∧ ow0 ≤ 192 ∧ 0 ≤ oh0 ∧ oh0 ≤ 192) (hl : f 37 5 = vd_I lm) (l01 : lm = 0 ∨ lm = 1) (hc : f 17 14 = vd_I cx) (c0 : 0 ≤ cx) (c1 : cx ≤ 3) (h2 : vd_fok .boolean (f 27 2) = true) (h6 : vd_fok .boolean (f 27 6) = true) (h7 : vd_fok .boolean (f 27 7) = true) (h8 : vd_fok .boolean (f 27 8) = true) (h11 : vd_fok .boolean (f 27 11) = true) (x1 x2 : Int32) : ∃ f' : Nat → Nat → Int32, (∀ d Q, vd_wp (d + 5) 26 103 [.ref 10, .int x1, .int x2, vd_U, vd_U, vd_U] [] (vd_mf M f) Q = vd_wp (d + 4) 50 67 [.ref 10, .int x2] [.int (f' 17 16), .int (f' 17 15), .ref 34] (vd_mf (vd_swp M ow fa lo lf) f') (fun M1 r => vd_rs r [] (fun st => vd_wp (d + 5) 26 141 [.ref 10, .int x1, .int x2, vd_U, vd_U, vd_U] st M1 Q))) ∧ ((f' 20 0 = f 27 0 ∧ f' 20 1 = f 27 1 ∧ f' 20 2 = f 27 2 ∧ f' 20 4 = f 27 4 ∧ f' 20 6 = f 27 6 ∧ f' 20 7 = f 27 7 ∧ f' 20 8 = f 27 8 ∧ f' 20 11 = f 27 11) ∧ ((∀ i, i < 6 → f' 21 i = f 28 i) ∧ (∀ i, i < 3 → f' 22 i = f 29 i) ∧ (∀ i, i < 7 → f' 23 i = f 30 i) ∧ (∀ i, i < 3 → f' 24 i = f 31 i) ∧ (∀ i, i < 32 → f' 25 i = f 32 i) ∧ (∀ i, i < 32 → f' 26 i = f 33 i))) ∧ f' 10 6 = vd_I kd ∧ (f' 37 0 = vd_I w ∧ f' 37 1 = vd_I h ∧ f' 37 2 = vd_I ((w + 7) / 8) ∧ f' 37 3 = vd_I ((h + 7) / 8) ∧ f' 37 4 = vd_I 0 ∧ f' 37 5 = vd_I sho ∧ f' 37 6 = vd_I (if ow0 = w ∧ oh0 = h ∧ lm = 1 ∧ rs = 0 then 1 else 0)) ∧ (∀ i, i < 576 → f' 42 i = if ow0 = w ∧ oh0 = h ∧ kd = 2 ∧ rs = 0 then f 42 i else vd_I 0) ∧ (∀ i, i < 576 → f' lo i = vd_I (-1)) ∧ (∀ i, i < 6912 → f' 43 i = vd_I 0) ∧ (∀ i, i < 11764 → f' 14 i = if kd = 2 ∧ rs = 0 then f 14 i else vd_I 128) ∧ (∀ k, k < 2941 → f' 35 k = f' 14 (2941 * cx.toNat + k)) ∧ (∀ c i, ¬ (20 ≤ c ∧ c ≤ 26) → ¬ (c = 10 ∧ i = 6) → c ≠ 14 → c ≠ 35 → c ≠ 37 → c ≠ 42 → c ≠ 43 → c ≠ lo → f' c i = f c i) := by
  have par := hM.par
  obtain ⟨f1, e1, k1', s20, s21⟩ := vd_P28_20 hM h2 h6 h7 h8 h11
  obtain ⟨f2, hf2⟩ : ∃ f2, f2 = vd_up f1 10 6 (f1 17 4) := ⟨_, rfl⟩
  have kf2 : ∀ c i, ¬ (20 ≤ c ∧ c ≤ 26) → ¬ (c = 10 ∧ i = 6) → f2 c i = f c i := fun c i q1 q2 => by rw [hf2, vd_up_ne q2, k1' c i q1]
  have kf20 : ∀ c i, 20 ≤ c → c ≤ 26 → f2 c i = f1 c i := fun c i q1 q2 => by rw [hf2, vd_up_ne (by omega)]
  obtain ⟨f3, e3, g3, m3, o3, z3, k3⟩ := vd_P48 hM (f := f2) (w := w) (h := h) (sho := sho) (rs := rs) (kd := kd) (ow0 := ow0) (oh0 := oh0) (lm := lm) (by rw [kf2 _ _ (by omega) (by omega)]; exact hw) (by rw [kf2 _ _ (by omega) (by omega)]; exact hh) (by rw [kf2 _ _ (by omega) (by omega)]; exact hs) (by rw [kf2 _ _ (by omega) (by omega)]; exact hr) (by rw [kf2 _ _ (by omega) (by omega)]; exact hk) b s01 r01 k0 k1 (by rw [kf2 _ _ (by omega) (by omega)]; exact o0) (by rw [kf2 _ _ (by omega) (by omega)]; exact o1) ob (by rw [kf2 _ _ (by omega) (by omega)]; exact hl) l01
  have hM3 : vd_SC (vd_swp M ow fa lo lf) lo lf ow fa := hM.swp
  obtain ⟨f4, e4, c4, d4, k4⟩ := vd_P50a hM3 (f := f3) (rs := rs) (kd := kd) (cx := cx) x2 (by rw [k3 _ _ (by omega) (by omega) (by omega) (by omega), kf2 _ _ (by omega) (by omega)]; exact hr) (by rw [k3 _ _ (by omega) (by omega) (by omega) (by omega), kf2 _ _ (by omega) (by omega)]; exact hk) r01 k0 k1 (by rw [k3 _ _ (by omega) (by omega) (by omega) (by omega), kf2 _ _ (by omega) (by omega)]; exact hc) c0 c1
  have kk : ∀ c i, ¬ (20 ≤ c ∧ c ≤ 26) → ¬ (c = 10 ∧ i = 6) → c ≠ 14 → c ≠ 35 → c ≠ 37 → c ≠ 42 → c ≠ 43 → c ≠ lo → f4 c i = f c i := fun c i a1 a2 a3 a4 a5 a6 a7 a8 => by rw [k4 c i a3 a4, k3 c i a5 a6 a7 a8, kf2 c i a1 a2]
  have k20 : ∀ c i, 20 ≤ c → c ≤ 26 → f4 c i = f1 c i := fun c i a1 a2 => by rw [k4 c i (by omega) (by omega), k3 c i (by omega) (by omega) (by omega) (by omega), kf20 c i a1 a2]
  obtain ⟨t0, t1, t2, t4, t6, t7, t8, t11⟩ := s20
  obtain ⟨u1, u2, u3, u4, u5, u6⟩ := s21
  refine ⟨f4, fun d Q => ?_, ⟨⟨?_, ?_, ?_, ?_, ?_, ?_, ?_, ?_⟩, ⟨fun i hi => ?_, fun i hi => ?_, fun i hi => ?_, fun i hi => ?_, fun i hi => ?_, fun i hi => ?_⟩⟩, ?_, ?_, fun i hi => ?_, fun i hi => ?_, fun i hi => ?_, fun i hi => ?_, d4, kk⟩
  · have e3' : ∀ Q, vd_wp (d + 4) 48 0 [.ref 37, .ref 17, vd_U] [] (vd_mf M f2) Q = Q (vd_mf (vd_swp M ow fa lo lf) f3) (.inl none) := fun Q => e3 (d + 2) Q
    simp only [vd_S26_103 hM, vd_S26_111 hM, e1, vd_rs_v, vd_rs_n, vd_S26_114 hM, ← hf2, vd_S26_133 hM, e3', vd_S26_136 hM3, vd_S26_138 hM3, e4]
  · rw [k20 _ _ (by omega) (by omega), t0]
  · rw [k20 _ _ (by omega) (by omega), t1]
  · rw [k20 _ _ (by omega) (by omega), t2]
  · rw [k20 _ _ (by omega) (by omega), t4]
  · rw [k20 _ _ (by omega) (by omega), t6]
  · rw [k20 _ _ (by omega) (by omega), t7]
  · rw [k20 _ _ (by omega) (by omega), t8]
  · rw [k20 _ _ (by omega) (by omega), t11]
  · rw [k20 _ _ (by omega) (by omega), u1 i hi]
  · rw [k20 _ _ (by omega) (by omega), u2 i hi]
  · rw [k20 _ _ (by omega) (by omega), u3 i hi]
  · rw [k20 _ _ (by omega) (by omega), u4 i hi]
  · rw [k20 _ _ (by omega) (by omega), u5 i hi]
  · rw [k20 _ _ (by omega) (by omega), u6 i hi]
  · rw [k4 _ _ (by omega) (by omega), k3 _ _ (by omega) (by omega) (by omega) (by omega), hf2, vd_up_eq, k1' _ _ (by omega), hk]
  · obtain ⟨y0, y1, y2, y3, y4, y5, y6⟩ := g3
    refine ⟨?_, ?_, ?_, ?_, ?_, ?_, ?_⟩ <;> rw [k4 _ _ (by omega) (by omega)] <;> assumption
  · rw [k4 _ _ (by omega) (by omega), m3 i hi, kf2 _ _ (by omega) (by omega)]
  · rw [k4 _ _ (by omega) (by omega), o3 i hi]
  · rw [k4 _ _ (by omega) (by omega), z3 i hi]
  · rw [c4 i hi, k3 _ _ (by omega) (by omega) (by omega) (by omega), kf2 _ _ (by omega) (by omega)]
theorem vd_wkR (hN : vd_SR N) (hn : 197 ≤ vd_n N) (hd : vd_HDR N g) {kd rs w h ow0 oh0 lm cx ft ab : Int} {tl : Nat → Int} (h33 : g 63 33 = vd_I (if kd = 2 then 0 else 1)) (h80 : g 63 80 = vd_I rs) (r01 : rs = 0 ∨ rs = 1) (hw : g 63 24 = vd_I w) (hh : g 63 25 = vd_I h) (b : 1 ≤ w ∧ w ≤ 192 ∧ 1 ≤ h ∧ h ≤ 192) (h14 : g 63 14 = vd_I ow0) (h15 : g 63 15 = vd_I oh0) (h16 : g 63 16 = vd_I lm) (ob : 0 ≤ ow0 ∧ ow0 ≤ 192 ∧ 0 ≤ oh0 ∧ oh0 ≤ 192) (l01 : lm = 0 ∨ lm = 1) (h113 : ∀ j, j < 6 → g 113 j = vd_I (tl j) ∧ (tl j = 0 ∨ tl j = 1)) (h85 : g 63 85 = vd_I ft) (f01 : ft = 0 ∨ ft = 1) (h86 : ft = 1 → g 63 86 = vd_I ab ∧ (ab = 0 ∨ ab = 1)) (h114 : ft = 1 → ∀ k, k < 32 → ∃ on : Int, g 114 k = vd_I on ∧ (on = 0 ∨ on = 1)) (hcx : g 63 78 = vd_I cx) (c0 : 0 ≤ cx) (c1 : cx ≤ 3) (x1 x2 : Int32) : ∃ (g' : Nat → Nat → Int32) (j : Nat), (j < 11 ∧ vd_ct (vd_hor N) (129 + 5 * j) 9 = 0) ∧ vd_SR (vd_sr (if kd = 2 ∧ rs = 0 then N else vd_new N 32 6 6) 63 23 (some (129 + 5 * j))) ∧ (∀ d Q, vd_wp (d + 2) 186 0 [.ref 63, .int x1, .int x2, vd_U, vd_U, vd_U] [] (vd_mf N g) Q = vd_wp (d + 2) 186 196 [.ref 63, .int x1, .int x2, .int (vd_I (vd_afs kd rs)), .int (vd_I 6), vd_U] [] (vd_mf (vd_sr (if kd = 2 ∧ rs = 0 then N else vd_new N 32 6 6) 63 23 (some (129 + 5 * j))) g') Q) ∧ ((∀ c k, c < 4 → k < 2941 → g' (68 + c) k = if kd = 2 ∧ rs = 0 then g (68 + c) k else vd_I 128) ∧ (∀ k, k < 32 → g' 74 k = (if ft = 1 then g 114 k else if kd = 2 ∧ rs = 0 then g 74 k else vd_I 0) ∧ g' 75 k = if ft = 1 then g 116 k else if kd = 2 ∧ rs = 0 then g 75 k else vd_I 0) ∧ (∀ i, i < 6 → g' 73 i = if tl i = 1 then g 115 i else if kd = 2 ∧ rs = 0 then g 73 i else vd_I (vd_fst i)) ∧ g' 63 13 = (if ft = 1 then g 63 86 else g 63 13)) ∧ ((∀ i, i < 576 → g' 72 i = if ow0 = w ∧ oh0 = h ∧ kd = 2 ∧ rs = 0 then g 72 i else vd_I 0) ∧ g' 63 39 = vd_I (if ow0 = w ∧ oh0 = h ∧ lm = 1 ∧ rs = 0 then 1 else 0)) ∧ (g' 63 26 = vd_I ((w + 7) / 8) ∧ g' 63 27 = vd_I ((h + 7) / 8) ∧ g' 63 70 = vd_I ((w + 7) / 8) ∧ g' 63 71 = vd_I ((h + 7) / 8) ∧ g' 63 69 = vd_I 0 ∧ g' 63 46 = vd_I 0 ∧ g' 63 47 = vd_I 0) ∧ (g' (129 + 5 * j) 0 = vd_I w ∧ g' (129 + 5 * j) 1 = vd_I h) ∧ (∀ k, k < 2941 → g' 80 k = g' (68 + cx.toNat) k ∧ g' 81 k = vd_I 0 ∧ g' 82 k = vd_I 0) ∧ (∀ i, i < 576 → g' 88 i = vd_I 0) ∧ (∀ pl i, pl < 3 → i < vd_rm pl → g' (129 + 5 * j + 2 + pl) i = vd_I 0 ∧ g' (106 + pl) i = vd_I 0) ∧ (∀ pl i, pl < 3 → i < vd_fo pl * vd_fo pl → g' (110 + pl) i = vd_I 0) ∧ (∀ c i, ¬ (c = 63 ∧ (i = 13 ∨ i = 26 ∨ i = 27 ∨ i = 39 ∨ i = 46 ∨ i = 47 ∨ (69 ≤ i ∧ i ≤ 71))) → ¬ (68 ≤ c ∧ c ≤ 75) → ¬ (80 ≤ c ∧ c ≤ 82) → c ≠ 88 → ¬ (106 ≤ c ∧ c ≤ 108) → ¬ (110 ≤ c ∧ c ≤ 112) → ¬ (c = 129 + 5 * j ∧ i ≤ 1) → ¬ (129 + 5 * j + 2 ≤ c ∧ c ≤ 129 + 5 * j + 4) → c ≠ vd_n N → g' c i = g c i) := by
  obtain ⟨N1, g1, ⟨hN1, eN1⟩, e1, a1, a2, a3, k1⟩ := vd_W1 hN hn h33 h80 r01 x1 x2 vd_U vd_U
  have k63 : ∀ i, g1 63 i = g 63 i := fun i => k1 63 i (by omega) (by omega) (by omega) (by omega) (by omega)
  obtain ⟨g2, e2, b1, b2, k2⟩ := vd_W2 hN1 (g := g1) (kd := kd) (by rw [k63]; exact hw) (by rw [k63]; exact hh) (by rw [k63]; exact h80) (by rw [k63]; exact h14) (by rw [k63]; exact h15) (by rw [k63]; exact h16) b ob r01 l01 x1 x2 vd_U vd_U
  have k12 : ∀ c i, ¬ (68 ≤ c ∧ c ≤ 75) → ¬ (c = 63 ∧ i = 39) → c ≠ vd_n N → g2 c i = g c i := fun c i q1 q2 q3 => by rw [k2 c i (by omega) q2, k1 c i (by omega) (by omega) (by omega) (by omega) q3]
  obtain ⟨g3, e3, c3, k3⟩ := vd_W3 hN1 x1 x2 (vd_I (vd_afs kd rs)) vd_U 6 0 g2 tl rfl (fun j hj => by rw [k12 _ _ (by omega) (by omega) (by omega)]; exact h113 j hj)
  have k13 : ∀ c i, ¬ (68 ≤ c ∧ c ≤ 75) → ¬ (c = 63 ∧ i = 39) → c ≠ vd_n N → g3 c i = g c i := fun c i q1 q2 q3 => by rw [k3 c i (by omega), k12 c i q1 q2 q3]
  obtain ⟨g4, e4, d1, d2, k4⟩ := vd_W4 hN1 (g := g3) (ft := ft) (ab := ab) (by rw [k13 _ _ (by omega) (by omega) (by omega)]; exact h85) f01 (fun q => by rw [k13 _ _ (by omega) (by omega) (by omega)]; exact h86 q) (fun q k hk => by rw [k13 _ _ (by omega) (by omega) (by omega)]; exact h114 q k hk) x1 x2 (vd_I (vd_afs kd rs)) vd_U
  have k14 : ∀ c i, ¬ (68 ≤ c ∧ c ≤ 75) → ¬ (c = 63 ∧ (i = 39 ∨ i = 13)) → c ≠ vd_n N → g4 c i = g c i := fun c i q1 q2 q3 => by rw [k4 c i (by omega) (by omega) (by omega), k13 c i q1 (by omega) q3]
  have hor1 : ∀ x, x < 9 → vd_hor N1 x = vd_hor N x := fun x _ => by
    rw [eN1]
    split
    · rfl
    · unfold vd_hor
      have e66 : vd_r (vd_new N 32 6 6) 66 x = vd_r N 66 x := by rw [vd_r_new, if_neg (by omega)]
      have e63 : vd_r (vd_new N 32 6 6) 63 7 = vd_r N 63 7 := by rw [vd_r_new, if_neg (by omega)]
      rw [e66, e63]
  have hd1 : vd_HDR N1 g4 := hd.keep hor1 (fun k hk => k14 _ _ (by omega) (by omega) (by omega))
  obtain ⟨j0, hj0, z0⟩ := hd1.free
  obtain ⟨g5, j, ⟨hj, zj⟩, e5, f1, f2, f3, f4, f5, f6, k5⟩ := vd_P188 hN1 (g := g4) (w := w) (h := h) (cx := cx) (hd := fun k => ((vd_ct (vd_hor N1) (129 + 5 * k) 9 : Nat) : Int)) (by rw [k14 _ _ (by omega) (by omega) (by omega)]; exact hw) (by rw [k14 _ _ (by omega) (by omega) (by omega)]; exact hh) b (by rw [k14 _ _ (by omega) (by omega) (by omega)]; exact hcx) c0 c1 (fun k hk => ⟨hd1.1 k hk, by omega, by have := vd_ct_le (vd_hor N1) (129 + 5 * k) 9; omega⟩) ⟨j0, hj0, by rw [z0]; rfl⟩
  have hcz : vd_ct (vd_hor N) (129 + 5 * j) 9 = 0 := by
    have e : ∀ n, n ≤ 9 → vd_ct (vd_hor N1) (129 + 5 * j) n = vd_ct (vd_hor N) (129 + 5 * j) n := fun n => by
      induction n with
      | zero => intro _; rfl
      | succ n ih =>
        intro q
        have e1 : vd_ct (vd_hor N) (129 + 5 * j) (n + 1) = vd_ct (vd_hor N) (129 + 5 * j) n + if vd_hor N n = some (129 + 5 * j) then 1 else 0 := rfl
        have e2 : vd_ct (vd_hor N1) (129 + 5 * j) (n + 1) = vd_ct (vd_hor N1) (129 + 5 * j) n + if vd_hor N1 n = some (129 + 5 * j) then 1 else 0 := rfl
        rw [e1, e2, ih (by omega), hor1 n (by omega)]
    have zj' : ((vd_ct (vd_hor N1) (129 + 5 * j) 9 : Nat) : Int) = 0 := zj
    have := e 9 (Nat.le_refl 9)
    omega
  subst eN1
  have kk : ∀ c i, ¬ (c = 63 ∧ (i = 13 ∨ i = 26 ∨ i = 27 ∨ i = 39 ∨ i = 46 ∨ i = 47 ∨ (69 ≤ i ∧ i ≤ 71))) → ¬ (68 ≤ c ∧ c ≤ 75) → ¬ (80 ≤ c ∧ c ≤ 82) → c ≠ 88 → ¬ (106 ≤ c ∧ c ≤ 108) → ¬ (110 ≤ c ∧ c ≤ 112) → ¬ (c = 129 + 5 * j ∧ i ≤ 1) → ¬ (129 + 5 * j + 2 ≤ c ∧ c ≤ 129 + 5 * j + 4) → c ≠ vd_n N → g5 c i = g c i := fun c i q1 q2 q3 q4 q5 q6 q7 q8 q9 => by rw [k5 c i (by omega) q3 q4 q5 q6 q7 q8, k14 c i q2 (by omega) q9]
  have k54 : ∀ c i, 68 ≤ c → c ≤ 75 → g5 c i = g4 c i := fun c i q1 q2 => k5 c i (by omega) (by omega) (by omega) (by omega) (by omega) (by omega) (by omega)
  refine ⟨g5, j, ⟨hj, hcz⟩, hN1.now _, fun d Q => ?_, ⟨fun c k hc hk => ?_, fun k hk => ⟨?_, ?_⟩, fun i hi => ?_, ?_⟩, ⟨fun i hi => ?_, ?_⟩, f1, f2, fun k hk => ?_, f4, f5, f6, kk⟩
  · rw [e1, e2]
    refine (e3 d Q).trans ?_
    rw [e4]
    simp only [vd_S186_192 hN1, vd_S186_193 hN1, e5, vd_rs_v, vd_rs_n]
  · rw [k54 _ _ (by omega) (by omega), k4 _ _ (by omega) (by omega) (by omega), k3 _ _ (by omega), k2 _ _ (by omega) (by omega), a1 c k hc hk]
  · rw [k54 _ _ (by omega) (by omega), (d2 k hk).1, k3 74 _ (by omega), k2 74 _ (by omega) (by omega), (a2 k hk).1, k13 114 _ (by omega) (by omega) (by omega)]
  · rw [k54 _ _ (by omega) (by omega), (d2 k hk).2, k3 75 _ (by omega), k2 75 _ (by omega) (by omega), (a2 k hk).2, k13 116 _ (by omega) (by omega) (by omega)]
  · rw [k54 _ _ (by omega) (by omega), k4 _ _ (by omega) (by omega) (by omega), c3 i (Nat.zero_le i) hi, k12 115 _ (by omega) (by omega) (by omega), k2 73 _ (by omega) (by omega), a3 i hi]
  · rw [k5 _ _ (by omega) (by omega) (by omega) (by omega) (by omega) (by omega) (by omega), d1, k13 63 86 (by omega) (by omega) (by omega), k13 63 13 (by omega) (by omega) (by omega)]
  · rw [k54 _ _ (by omega) (by omega), k4 _ _ (by omega) (by omega) (by omega), k3 _ _ (by omega), b1 i hi, k1 _ _ (by omega) (by omega) (by omega) (by omega) (by omega)]
  · rw [k5 _ _ (by omega) (by omega) (by omega) (by omega) (by omega) (by omega) (by omega), k4 _ _ (by omega) (by omega) (by omega), k3 _ _ (by omega), b2]
  · rw [(f3 k hk).1, k54 _ _ (by omega) (by omega)]
    exact ⟨rfl, (f3 k hk).2⟩
end VDWB
