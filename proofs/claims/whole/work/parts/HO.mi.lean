/-! ===== a frame's work up to its squares ===== -/
def vd_MID (M N : vd_M) (ow fa lo lf W H p s j : Nat) (X : Nat → Nat → Int) (mo : Int) (L : Nat → Nat → Nat → Int) (Z : Nat → Nat → Nat → Nat) (R : Nat → Nat → Nat → Nat → Int) (w h sho rs kd rfr kp fx cx : Int) (f g : Nat → Nat → Int32) : Prop :=
  (vd_DC M N ow fa lo lf W H p s (129 + 5 * j) X mo L Z R w h ∧ vd_SQ M N ow fa lo lf W H s (129 + 5 * j) X mo L Z R w h f g 0 0 f g) ∧ ((W : Int) = (w + 7) / 8 ∧ (H : Int) = (h + 7) / 8 ∧ (1 ≤ w ∧ w ≤ 192 ∧ 1 ≤ h ∧ h ≤ 192)) ∧ (vd_PL M ∧ (p < vd_n M ∧ s < vd_n M) ∧ 197 ≤ vd_n N ∧ (j < 11 ∧ vd_ct (vd_hor N) (129 + 5 * j) 9 = 0) ∧ (∀ x, x < 9 → vd_hol M x ≠ some p) ∧ (∃ i, i < 10 ∧ vd_r M 12 i = some p)) ∧ (vd_CXR f g ∧ vd_J18 3 f) ∧ ((∀ x, x < 9 → vd_pic M N f g x) ∧ vd_HDR N g) ∧ (vd_sett f g ∧ vd_bol f) ∧ (f 37 5 = vd_I sho ∧ g 63 70 = vd_I (W : Int) ∧ g 63 71 = vd_I (H : Int)) ∧ (f 10 4 = g 63 20 + vd_I 1 ∧ f 10 5 = g 63 21 ∧ f 10 6 = vd_I kd) ∧ ((sho = 0 ∨ sho = 1) ∧ (rs = 0 ∨ rs = 1) ∧ (0 ≤ kd ∧ kd ≤ 2) ∧ (0 ≤ rfr ∧ rfr ≤ 255) ∧ (kp = 0 ∨ kp = 1) ∧ (fx = 0 ∨ fx = 1) ∧ (0 ≤ cx ∧ cx ≤ 3)) ∧ (f 17 2 = vd_I sho ∧ f 17 3 = vd_I rs ∧ f 17 7 = vd_I rfr ∧ f 17 12 = vd_I kp ∧ f 17 13 = vd_I fx ∧ f 17 14 = vd_I cx) ∧ (g 63 77 = vd_I rfr ∧ g 63 78 = vd_I cx ∧ g 63 79 = vd_I sho ∧ g 63 80 = vd_I rs ∧ g 63 81 = vd_I kp ∧ g 63 82 = vd_I fx ∧ g 63 83 = vd_I (if kd = 1 then 1 else 0) ∧ g 63 84 = vd_I (if kd = 0 then 1 else 0)) ∧ (f p 0 = vd_I w ∧ f p 1 = vd_I h)
section VDMI
variable {M N N0 : vd_M} {ow fa lo lf : Nat} {Z : Nat → Nat → Nat → Nat} {f g F : Nat → Nat → Int32}
theorem vd_swp_r {M : vd_M} {ow fa lo lf c i : Nat} (h : c ≠ 37) : vd_r (vd_swp M ow fa lo lf) c i = vd_r M c i := by
  unfold vd_swp
  rw [vd_r_sr, if_neg (by omega), vd_r_sr, if_neg (by omega), vd_r_sr, if_neg (by omega), vd_r_sr, if_neg (by omega)]
theorem vd_swp_ms (M : vd_M) (ow fa lo lf : Nat) : vd_Ms M (vd_swp M ow fa lo lf) := ⟨rfl, rfl, rfl, rfl⟩
theorem vd_frB (hI : vd_INV M N ow fa lo lf Z f g) {sho rs kd rfr w h kp fx cx ln at_ to : Int} (c11 : F 27 11 = f 20 11) (c28 : ∀ i, i < 6 → F 28 i = f 21 i) (c32 : ∀ i, i < 32 → F 32 i = f 25 i) (c33 : ∀ i, i < 32 → F 33 i = f 26 i) (k : vd_Kh M N N0 f g sho rs kd rfr w h) (bb : (kp = 0 ∨ kp = 1) ∧ (fx = 0 ∨ fx = 1) ∧ (0 ≤ cx ∧ cx ≤ 3) ∧ 1 ≤ ln ∧ 0 ≤ at_ ∧ at_ + ln < to) (h17 : f 17 12 = vd_I kp ∧ f 17 13 = vd_I fx ∧ f 17 14 = vd_I cx ∧ f 17 15 = vd_I at_ ∧ f 17 16 = vd_I (at_ + ln)) (h63 : g 63 81 = vd_I kp ∧ g 63 82 = vd_I fx ∧ g 63 78 = vd_I cx) (hS : vd_SET (if kd = 2 ∧ rs = 0 then F else vd_fgt F) f g) (h75 : g 63 75 = vd_I (8 * to)) (to1 : to ≤ 65536) (x1 : Int32) : ∃ (M' N' : vd_M) (f' g' : Nat → Nat → Int32) (W H p s j : Nat) (X : Nat → Nat → Int) (mo : Int) (L : Nat → Nat → Nat → Int) (R : Nat → Nat → Nat → Nat → Int) (x3 : Int32), (∀ d Q, vd_wp (d + 5) 26 58 [.ref 10, .int x1, .int (vd_I to), vd_U, vd_U, vd_U] [] (vd_mf M f) Q = vd_wp (d + 5) 26 179 [.ref 10, .int x1, .int (vd_I to), .ref p, .int (vd_I 0), vd_U] [] (vd_mf M' f') Q) ∧ (∀ d Q, vd_wp (d + 3) 186 0 [.ref 63, .int (vd_I at_), .int (vd_I ln), vd_U, vd_U, vd_U] [] (vd_mf N g) Q = vd_wp (d + 3) 186 225 [.ref 63, .int (vd_I at_), .int (vd_I ln), .int x3, .int (vd_I 0), vd_U] [] (vd_mf N' g') Q) ∧ vd_MID M' N' lo lf ow fa W H p s j X mo L Z R w h sho rs kd rfr kp fx cx f' g' ∧ vd_Lc M M' f f' ∧ vd_Lr N N' g g' 1 6 ∧ g' 63 76 = g 63 76 := by
  obtain ⟨⟨hM, hN, hP, hn1⟩, ⟨hT, hC, hJ⟩, ⟨hp, hd⟩, ⟨hs, hb⟩, ⟨w0, h0, lm, ⟨G1, G2, G3⟩, ⟨G4, G5, G6⟩, l01, hG⟩, ⟨⟨n1, n2, _⟩, _⟩, hZ⟩ := hI
  obtain ⟨⟨s01, r01, ⟨k0, k1⟩, ⟨rf0, rf1⟩, wb⟩, ⟨a0, a2, a3, a4, a5, a6, a7⟩, ⟨b24, b25, b33, b77, b79, b80, b83, b84⟩, k4, _⟩ := k
  obtain ⟨kp01, fx01, ⟨cx0, cx1⟩, ln1, at0, hto⟩ := bb
  obtain ⟨h12, h13, h14, h15, h16⟩ := h17
  obtain ⟨h81, h82, h78⟩ := h63
  have hS' := hS
  obtain ⟨⟨lv, sh, ec, ⟨_, _, _, _, ec01⟩, ⟨_, _, S2⟩, _⟩, hx, ⟨bs, dl, l, ⟨bs0, bs1, S4, _⟩, Sd, S35, l01', hl⟩, ⟨iu, mt, gu, ft, ⟨iu01, mt01, gu01, ft01⟩, ⟨S6, S7, S8⟩, ⟨_, _, _, S85⟩, _, _, Sft, Sft0⟩⟩ := hS'
  obtain ⟨⟨lo0, lo1⟩, ⟨ow0, ow1⟩, ⟨fa0, fa1⟩, owlo, falo⟩ : (38 ≤ lo ∧ lo ≤ 41) ∧ (38 ≤ ow ∧ ow ≤ 41) ∧ (38 ≤ fa ∧ fa ≤ 41) ∧ ow ≠ lo ∧ fa ≠ lo := by
    have := hM.par
    omega
  obtain ⟨ab, ab01, ab1, ab2⟩ := hs.2.2
  have hs1 : kd = 2 ∧ rs = 0 → ∀ i, i < 6 → ∃ z : Int, (-64 ≤ z ∧ z ≤ 64) ∧ f 21 i = vd_I z ∧ g 73 i = vd_I z := fun q => by
    rcases hs.1 with y | y
    · exact y
    · obtain ⟨_, _, _, _, yrf⟩ := k4 q.1
      exact absurd (yrf 0 (by omega)) (vd_rf_no y)
  have w0b : 0 ≤ w0 ∧ w0 ≤ 192 ∧ 0 ≤ h0 ∧ h0 ≤ 192 := by
    rcases hG with ⟨q1, q2, _⟩ | ⟨_, _, _, _, _, _, q, _⟩
    · omega
    · omega
  have ok11 : vd_fok .boolean (f 27 11) = true := by
    rcases ft01 with q | q
    · rw [(Sft0 q).1]
      have : (if kd = 2 ∧ rs = 0 then F else vd_fgt F) 27 11 = F 27 11 := by
        split
        · rfl
        · exact vd_fgt_ne (by omega)
      rw [this, c11, ab1]
      exact vd_fok01 ab01
    · obtain ⟨ab', q1, q2, _⟩ := (Sft q).2
      rw [q2]
      exact vd_fok01 q1
  obtain ⟨f1, hf1⟩ : ∃ f1, f1 = vd_up f 10 4 (f 10 4 + vd_I 1) := ⟨_, rfl⟩
  have kf1 : ∀ c i, ¬ (c = 10 ∧ i = 4) → f1 c i = f c i := fun c i q => by rw [hf1, vd_up_ne q]
  have kf1' : ∀ c i, c ≠ 10 → f1 c i = f c i := fun c i q => kf1 c i (by omega)
  obtain ⟨f2, e2, cp, t106, ⟨t0, t1, t2, t3, t4, t5, t6⟩, m42, mlo, m43, m14, m35, kf2⟩ := vd_wkC hM (f := f1) (w := w) (h := h) (sho := sho) (rs := rs) (kd := kd) (ow0 := w0) (oh0 := h0) (lm := lm) (cx := cx) (by rw [kf1' _ _ (by omega)]; exact a5) (by rw [kf1' _ _ (by omega)]; exact a6) (by rw [kf1' _ _ (by omega)]; exact a2) (by rw [kf1' _ _ (by omega)]; exact a3) (by rw [kf1' _ _ (by omega)]; exact a4) wb s01 r01 k0 k1 (by rw [kf1' _ _ (by omega)]; exact G1) (by rw [kf1' _ _ (by omega)]; exact G2) w0b (by rw [kf1' _ _ (by omega)]; exact G3) l01 (by rw [kf1' _ _ (by omega)]; exact h14) cx0 cx1 (by rw [kf1' _ _ (by omega), S2]; exact vd_fok01 ec01) (by rw [kf1' _ _ (by omega), S6]; exact vd_fok01 iu01) (by rw [kf1' _ _ (by omega), S7]; exact vd_fok01 mt01) (by rw [kf1' _ _ (by omega), S8]; exact vd_fok01 gu01) (by rw [kf1' _ _ (by omega)]; exact ok11) x1 (vd_I to)
  have kA : ∀ c i, ¬ (20 ≤ c ∧ c ≤ 26) → ¬ (c = 10 ∧ (i = 6 ∨ i = 4)) → c ≠ 14 → c ≠ 35 → c ≠ 37 → c ≠ 42 → c ≠ 43 → c ≠ lo → f2 c i = f c i := fun c i q1 q2 q3 q4 q5 q6 q7 q8 => by rw [kf2 c i q1 (by omega) q3 q4 q5 q6 q7 q8, kf1 c i (by omega)]
  have k17 : ∀ i, f2 17 i = f 17 i := fun i => kA 17 i (by omega) (by omega) (by omega) (by omega) (by omega) (by omega) (by omega) (by omega)
  have h113 : ∀ j, j < 6 → g 113 j = vd_I (g 113 j).toInt ∧ ((g 113 j).toInt = 0 ∨ (g 113 j).toInt = 1) := fun j hj => by
    refine ⟨(vd_Iself _).symm, ?_⟩
    rcases hx j hj with ⟨q, _⟩ | ⟨q, _⟩
    · rw [q]; exact Or.inl (by decide)
    · rw [q]; exact Or.inr (by decide)
  have h86 : ft = 1 → ∃ ab' : Int, g 63 86 = vd_I ab' ∧ (ab' = 0 ∨ ab' = 1) := fun q => by
    obtain ⟨ab', q1, _, q3⟩ := (Sft q).2
    exact ⟨ab', q3, q1⟩
  obtain ⟨ab', h86'⟩ : ∃ ab' : Int, ft = 1 → g 63 86 = vd_I ab' ∧ (ab' = 0 ∨ ab' = 1) := by
    by_cases q : ft = 1
    · obtain ⟨ab', q1⟩ := h86 q
      exact ⟨ab', fun _ => q1⟩
    · exact ⟨0, fun q' => absurd q' q⟩
  obtain ⟨g2, j, ⟨hj, hz⟩, hN2, r2, ⟨u68, u74, u73, u13⟩, ⟨u72, u39⟩, ⟨u26, u27, u70, u71, u69, u46, u47⟩, ⟨uq0, uq1⟩, u80, u88, upl, uhv, kg2⟩ := vd_wkR hN hn1 hd (kd := kd) (rs := rs) (w := w) (h := h) (ow0 := w0) (oh0 := h0) (lm := lm) (cx := cx) (ft := ft) (ab := ab') (tl := fun j => (g 113 j).toInt) b33 b80 r01 b24 b25 wb G4 G5 G6 w0b l01 h113 S85 ft01 h86' (fun q k hk => by obtain ⟨on, z, q1, _, _, q2, _⟩ := (Sft q).1 k hk; exact ⟨on, q2, q1⟩) h78 cx0 cx1 (vd_I at_) (vd_I ln)
  obtain ⟨N2, hN2d⟩ : ∃ N2, N2 = vd_sr (if kd = 2 ∧ rs = 0 then N else vd_new N 32 6 6) 63 23 (some (129 + 5 * j)) := ⟨_, rfl⟩
  rw [← hN2d] at hN2 r2
  have kg2' : ∀ c i, ¬ (c = 63 ∧ (i = 13 ∨ i = 26 ∨ i = 27 ∨ i = 39 ∨ i = 46 ∨ i = 47 ∨ (69 ≤ i ∧ i ≤ 71))) → ¬ (68 ≤ c ∧ c ≤ 75) → ¬ (80 ≤ c ∧ c ≤ 82) → c ≠ 88 → ¬ (106 ≤ c ∧ c ≤ 108) → ¬ (110 ≤ c ∧ c ≤ 112) → ¬ (129 ≤ c ∧ c ≤ 183) → c ≠ vd_n N → g2 c i = g c i := fun c i q1 q2 q3 q4 q5 q6 q7 q8 => kg2 c i q1 q2 q3 q4 q5 q6 (by omega) (by omega) q8
  have g263 : ∀ i, ¬ (i = 13 ∨ i = 26 ∨ i = 27 ∨ i = 39 ∨ i = 46 ∨ i = 47 ∨ (69 ≤ i ∧ i ≤ 71)) → g2 63 i = g 63 i := fun i q => kg2' 63 i (by omega) (by omega) (by omega) (by omega) (by omega) (by omega) (by omega) (by omega)
  have cxn : cx.toNat < 4 := by omega
  have hC2 : vd_CXR f2 g2 := fun c x hc hx' => by
    rw [m14 _ (by omega), u68 c x hc hx', kf1' 14 _ (by omega)]
    by_cases q : kd = 2 ∧ rs = 0
    · rw [if_pos q, if_pos q]
      exact hC c x hc hx'
    · rw [if_neg q, if_neg q]
      exact ⟨128, ⟨by decide, by decide⟩, rfl, rfl⟩
  have hRM : vd_RM f2 g2 := fun x hx' => by
    obtain ⟨z, z1, z2, z3⟩ := hC2 cx.toNat x cxn hx'
    rw [m35 x hx', (u80 x hx').1, z2, z3]
    exact ⟨rfl, z, rfl, z1⟩
  have hT2 : vd_RT f2 g2 := fun i hi => by
    rw [kA _ _ (by omega) (by omega) (by omega) (by omega) (by omega) (by omega) (by omega) (by omega), kg2' _ _ (by omega) (by omega) (by omega) (by omega) (by omega) (by omega) (by omega) (by omega)]
    exact hT i hi
  have hsd : kd = 2 → ∀ j, j < 3 → ∃ sd : Int, (sd = 0 ∨ sd = 1) ∧ f2 19 j = vd_I sd ∧ g2 84 j = vd_I sd := fun q j' hj' => by
    obtain ⟨_, _, _, _, y⟩ := k4 q
    obtain ⟨sl, p1, q1, sd, _, _, ⟨y1, y2, y3⟩, _⟩ := y j' hj'
    exact ⟨sd, y1, by rw [kA _ _ (by omega) (by omega) (by omega) (by omega) (by omega) (by omega) (by omega) (by omega)]; exact y2, by rw [kg2' _ _ (by omega) (by omega) (by omega) (by omega) (by omega) (by omega) (by omega) (by omega)]; exact y3⟩
  have hM3 : vd_SC (vd_swp M ow fa lo lf) lo lf ow fa := hM.swp
  obtain ⟨f3, g3, tm, db, e3, r3, T1, T2, T3, T4, hRD, kf3, kg3⟩ := vd_models hM3 hN2 (f := f2) (g := g2) (kd := kd) (bs := bs) (l := l) (at_ := at_) (ln := ln) (to := to) (dl := dl) hT2 hRM (by rw [k17]; exact h15) (by rw [k17]; exact h16) at0 ln1 hto to1 (by rw [g263 75 (by omega)]; exact h75) (by rw [cp.1.2.2.2.1, kf1' _ _ (by omega)]; exact S4) ⟨bs0, bs1⟩ (fun j hj => ⟨by rw [cp.2.2.1 j hj, kf1' _ _ (by omega)]; exact (Sd j hj).1, (Sd j hj).2.2⟩) l01' hl (by rw [g263 35 (by omega)]; exact S35) (by rw [k17]; exact a4) k0 k1 (by rw [g263 33 (by omega)]; exact b33) hsd (fun k hk => (u80 k hk).2.1) (fun k hk => (u80 k hk).2.2) u46 (vd_I (vd_afs kd rs)) (.int (vd_I 6)) vd_U
  have k173 : ∀ i, i < 17 → f3 17 i = f 17 i := fun i q => by rw [kf3 _ _ (by omega) (by omega) (by omega) (by omega), k17]
  have hr13 : ∀ i, vd_r (vd_swp M ow fa lo lf) 13 i = vd_r M 13 i := fun i => vd_swp_r (by decide)
  have ms3 := vd_swp_ms M ow fa lo lf
  have hol3 : ∀ x, vd_hol (vd_swp M ow fa lo lf) x = vd_hol M x := fun x => by
    unfold vd_hol
    rw [vd_swp_r (by decide), vd_swp_r (by decide)]
  have hP3 : vd_PL (vd_swp M ow fa lo lf) := hP.hol (Nat.le_refl _) (fun _ _ _ => rfl) (fun _ _ _ => rfl) (fun c i q => vd_swp_r (by omega)) (fun x k' hx' e => by rw [hol3] at e; exact hP.2.2.1 x k' hx' e)
  have hsl : vd_slk (vd_swp M ow fa lo lf) := fun r hr => by
    rw [hr13]
    exact vd_slk.of (fun r hr => (hp r (by omega)).sdm hN hr) r hr
  have hJ3 : vd_J18 3 f3 := hJ.keep (fun i => by rw [kf3 _ _ (by omega) (by omega) (by omega) (by omega), kA _ _ (by omega) (by omega) (by omega) (by omega) (by omega) (by omega) (by omega) (by omega)])
  obtain ⟨M4, f4, p, s, e4, hM4, ⟨hL4, hp4, pn, sn⟩, r447, nh, ip, h55, hol4, kPC, hLc, ⟨y0, y1, y2, y3⟩, kf4⟩ := vd_wkP hM3 hP3 hsl (f := f3) (w := w) (h := h) (by rw [k173 5 (by omega)]; exact a5) (by rw [k173 6 (by omega)]; exact a6) hJ3 x1 (vd_I to)
  have hn197 := hP.2.2.2
  have n3 : vd_n (vd_swp M ow fa lo lf) = vd_n M := ms3.n
  have pb := hp4.2.2
  have kf4' : ∀ c i, c < 197 → ¬ (c = 45 ∧ i = 3) → f4 c i = f3 c i := fun c i q1 q2 => kf4 c i (by rw [n3]; omega) (by omega) (by omega) q2
  have kC : ∀ c i, c < 197 → ¬ (c = 45 ∧ i = 3) → ¬ (c = 34 ∧ 3 ≤ i) → ¬ (c = 17 ∧ 17 ≤ i) → c ≠ 35 → c ≠ 36 → f4 c i = f2 c i := fun c i q1 q2 q3 q4 q5 q6 => by rw [kf4' c i q1 q2, kf3 c i q3 q4 q5 q6]
  have kD : ∀ c i, c < 197 → ¬ (c = 45 ∧ i = 3) → ¬ (c = 34 ∧ 3 ≤ i) → ¬ (c = 17 ∧ 17 ≤ i) → c ≠ 35 → c ≠ 36 → ¬ (20 ≤ c ∧ c ≤ 26) → ¬ (c = 10 ∧ (i = 6 ∨ i = 4)) → c ≠ 14 → c ≠ 37 → c ≠ 42 → c ≠ 43 → c ≠ lo → f4 c i = f c i := fun c i q1 q2 q3 q4 q5 q6 q7 q8 q9 q10 q11 q12 q13 => by rw [kC c i q1 q2 q3 q4 q5 q6, kA c i q7 q8 q9 q5 q10 q11 q12 q13]
  have kE : ∀ c i, 197 ≤ c → c < vd_n M → c ≠ p → c ≠ s → f4 c i = f c i := fun c i q1 q2 q3 q4 => by rw [kf4 c i (by rw [n3]; exact q2) q3 q4 (by omega), kf3 c i (by omega) (by omega) (by omega) (by omega), kA c i (by omega) (by omega) (by omega) (by omega) (by omega) (by omega) (by omega) (by omega)]
  have kg3' : ∀ c i, ¬ (c = 63 ∧ (i = 44 ∨ i = 45 ∨ (91 ≤ i ∧ i ≤ 94))) → c ≠ 80 → ¬ (c = 63 ∧ (i = 13 ∨ i = 26 ∨ i = 27 ∨ i = 39 ∨ i = 46 ∨ i = 47 ∨ (69 ≤ i ∧ i ≤ 71))) → ¬ (68 ≤ c ∧ c ≤ 75) → ¬ (80 ≤ c ∧ c ≤ 82) → c ≠ 88 → ¬ (106 ≤ c ∧ c ≤ 108) → ¬ (110 ≤ c ∧ c ≤ 112) → ¬ (c = 129 + 5 * j ∧ i ≤ 1) → ¬ (129 + 5 * j + 2 ≤ c ∧ c ≤ 129 + 5 * j + 4) → c ≠ vd_n N → g3 c i = g c i := fun c i q1 q2 q3 q4 q5 q6 q7 q8 q9 q10 q11 => by rw [kg3 c i q1 q2, kg2 c i q3 q4 q5 q6 q7 q8 q9 q10 q11]
  have g363 : ∀ i, ¬ (i = 13 ∨ i = 26 ∨ i = 27 ∨ i = 39 ∨ (44 ≤ i ∧ i ≤ 47) ∨ (69 ≤ i ∧ i ≤ 71) ∨ (91 ≤ i ∧ i ≤ 94)) → g3 63 i = g 63 i := fun i q => by rw [kg3 _ _ (by omega) (by omega), g263 i (by omega)]
  have cp4 : vd_cp20 f f4 := by
    obtain ⟨⟨v0, v1, v2, v4, v6, v7, v8, v11⟩, ⟨w1, w2, w3, w4, w5, w6⟩⟩ := cp
    have e20 : ∀ c i, 20 ≤ c → c ≤ 26 → f4 c i = f2 c i := fun c i q1 q2 => kC c i (by omega) (by omega) (by omega) (by omega) (by omega) (by omega)
    refine ⟨⟨?_, ?_, ?_, ?_, ?_, ?_, ?_, ?_⟩, ⟨fun i hi => ?_, fun i hi => ?_, fun i hi => ?_, fun i hi => ?_, fun i hi => ?_, fun i hi => ?_⟩⟩
    · rw [e20 _ _ (by omega) (by omega), v0, kf1' _ _ (by omega)]
    · rw [e20 _ _ (by omega) (by omega), v1, kf1' _ _ (by omega)]
    · rw [e20 _ _ (by omega) (by omega), v2, kf1' _ _ (by omega)]
    · rw [e20 _ _ (by omega) (by omega), v4, kf1' _ _ (by omega)]
    · rw [e20 _ _ (by omega) (by omega), v6, kf1' _ _ (by omega)]
    · rw [e20 _ _ (by omega) (by omega), v7, kf1' _ _ (by omega)]
    · rw [e20 _ _ (by omega) (by omega), v8, kf1' _ _ (by omega)]
    · rw [e20 _ _ (by omega) (by omega), v11, kf1' _ _ (by omega)]
    · rw [e20 _ _ (by omega) (by omega), w1 i hi, kf1' _ _ (by omega)]
    · rw [e20 _ _ (by omega) (by omega), w2 i hi, kf1' _ _ (by omega)]
    · rw [e20 _ _ (by omega) (by omega), w3 i hi, kf1' _ _ (by omega)]
    · rw [e20 _ _ (by omega) (by omega), w4 i hi, kf1' _ _ (by omega)]
    · rw [e20 _ _ (by omega) (by omega), w5 i hi, kf1' _ _ (by omega)]
    · rw [e20 _ _ (by omega) (by omega), w6 i hi, kf1' _ _ (by omega)]
  have hS4 : vd_S2 f4 g3 := vd_S2of hs1 hs.2.1 hs.2.2 c11 c28 c32 c33 hS S85 ft01 cp4 (fun k hk => by rw [kg3 _ _ (by omega) (by omega), kg3 75 _ (by omega) (by omega)]; exact u74 k hk) (fun i hi => by rw [kg3 _ _ (by omega) (by omega)]; exact u73 i hi) (by rw [kg3 _ _ (by omega) (by omega)]; exact u13) (fun c i q => kg3' c i (by omega) (by omega) (by omega) (by omega) (by omega) (by omega) (by omega) (by omega) (by omega) (by omega) (by omega))
  have k174 : ∀ i, i < 17 → f4 17 i = f 17 i := fun i q => by rw [kf4' _ _ (by omega) (by omega), k173 i q]
  have hk4 : kd = 2 → ∃ fi ke : Int, ((fi = 0 ∨ fi = 1) ∧ 0 ≤ ke ∧ ke ≤ 2) ∧ (f4 17 10 = vd_I fi ∧ f4 17 11 = vd_I ke ∧ g3 63 34 = vd_I fi ∧ g3 63 40 = vd_I ke) ∧ ∀ j, j < 3 → ∃ sd : Int, (sd = 0 ∨ sd = 1) ∧ f4 19 j = vd_I sd ∧ g3 84 j = vd_I sd := fun q => by
    obtain ⟨fi, ke, z1, ⟨z2, z3, z4, z5⟩, _⟩ := k4 q
    refine ⟨fi, ke, z1, ⟨by rw [k174 10 (by omega), z2], by rw [k174 11 (by omega), z3], by rw [g363 34 (by omega), z4], by rw [g363 40 (by omega), z5]⟩, fun j' hj' => ?_⟩
    obtain ⟨sd, v1, v2, v3⟩ := hsd q j' hj'
    exact ⟨sd, v1, by rw [kC _ _ (by omega) (by omega) (by omega) (by omega) (by omega) (by omega), v2], by rw [kg3 _ _ (by omega) (by omega), v3]⟩
  obtain ⟨X, hXV, hCA, hCB, hX0⟩ := vd_ctxX hS4 (kd := kd) (tm := tm) (db := db) (l := l) (by rw [k174 4 (by omega)]; exact a4) k0 k1 (by rw [g363 33 (by omega)]; exact b33) (by rw [g363 35 (by omega)]; exact S35) l01' T1 T2 ⟨by rw [kf4' _ _ (by omega) (by omega)]; exact T3.1, by rw [kf4' _ _ (by omega) (by omega)]; exact T3.2.1, by rw [kf4' _ _ (by omega) (by omega)]; exact T3.2.2⟩ T4 hk4
  have r63 : ∀ c i, c < vd_n N → ¬ (c = 63 ∧ i = 23) → vd_r N2 c i = vd_r N c i := fun c i q1 q2 => by
    rw [hN2d, vd_r_sr, if_neg q2]
    split
    · rfl
    · rw [vd_r_new, if_neg (by omega)]
  have hor2 : ∀ x, vd_hor N2 x = vd_hor N x := fun x => by
    unfold vd_hor
    rw [r63 66 x (by omega) (by omega), r63 63 7 (by omega) (by omega)]
  have hz2 : vd_ct (vd_hor N2) (129 + 5 * j) 9 = 0 := by
    have : vd_hor N2 = vd_hor N := funext hor2
    rw [this]
    exact hz
  have jn : ∀ x k', x < 9 → vd_hor N x = some (129 + 5 * k') → k' ≠ j := fun x k' hx' e q => by
    subst q
    exact vd_ct_has e 9 hx' hz
  have kgP : ∀ k', k' < 11 → k' ≠ j → ∀ c i, (c = 129 + 5 * k' ∧ i ≤ 1) ∨ (129 + 5 * k' + 2 ≤ c ∧ c ≤ 129 + 5 * k' + 4) → g3 c i = g c i := fun k' hk' q c i q2 => kg3' c i (by omega) (by omega) (by omega) (by omega) (by omega) (by omega) (by omega) (by omega) (by omega) (by omega) (by omega)
  have pcb : ∀ p' s', vd_PC M4 p' s' → (p' ≠ s ∧ s' ≠ p) := fun p' s' q => by
    constructor
    · intro e
      have t1 := q.1.1
      have t2 := hp4.2.1.1
      rw [e, t2] at t1
      cases t1
    · intro e
      have t1 := q.2.1.1
      have t2 := hp4.1.1
      rw [e, t2] at t1
      cases t1
  have hpic : ∀ x, x < 9 → vd_pic M4 N2 f4 g3 x := fun x hx' => by
    refine (hp x hx').keep (by rw [hol4 x hx', hol3]) (hor2 x) (fun p' s' e q => ?_) (fun k' hk' e => kgP k' hk' (jn x k' hx' e))
    obtain ⟨z1, z2⟩ := hP.of hx' e q
    have q3 : vd_PC (vd_swp M ow fa lo lf) p' s' := ms3.PC q (fun c i a => vd_swp_r (by omega))
    have q4 := kPC p' s' q3 (by rw [n3]; exact z1) (by rw [n3]; exact z2)
    have pne : p' ≠ p := fun q' => nh x hx' (by rw [hol4 x hx', hol3, e, q'])
    have sne : s' ≠ s := by
      obtain ⟨i, hi, ei⟩ := ip
      obtain ⟨i', hi', ei'⟩ := hL4.2.2.1 x p' hx' (by rw [hol4 x hx', hol3, e])
      have ii : i' ≠ i := fun q => by
        subst q
        rw [ei] at ei'
        exact pne (Option.some.inj ei').symm
      exact (hL4.2.1 i' i p' p s' s hi' hi ii ei' ei q4 hp4).2
    have y := pcb p' s' q4
    have z := q.2.2
    refine ⟨q4, fun c i e' => kE c i ?_ ?_ ?_ ?_⟩
    · omega
    · omega
    · rcases e' with rfl | rfl
      · exact pne
      · exact y.2
    · rcases e' with rfl | rfl
      · exact y.1
      · exact sne
  obtain ⟨W, hW⟩ : ∃ W : Nat, (W : Int) = (w + 7) / 8 := ⟨((w + 7) / 8).toNat, by omega⟩
  obtain ⟨H, hH⟩ : ∃ H : Nat, (H : Int) = (h + 7) / 8 := ⟨((h + 7) / 8).toNat, by omega⟩
  obtain ⟨mp, L, mpb, hmp, hVF, hVV⟩ := vd_vf0 (ow := ow) (fa := fa) (f' := f4) (g' := g3) (rs := rs) (kd := kd) wb l01 hW hH hG (fun i hi => by rw [kC _ _ (by omega) (by omega) (by omega) (by omega) (by omega) (by omega), m42 i hi, kf1' _ _ (by omega)]) (fun i hi => by rw [kg3 _ _ (by omega) (by omega), u72 i hi]) (by rw [kC _ _ (by omega) (by omega) (by omega) (by omega) (by omega) (by omega)]; exact t6) (by rw [kg3 _ _ (by omega) (by omega)]; exact u39) (fun i => ⟨kD ow i (by omega) (by omega) (by omega) (by omega) (by omega) (by omega) (by omega) (by omega) (by omega) (by omega) (by omega) (by omega) owlo, kD fa i (by omega) (by omega) (by omega) (by omega) (by omega) (by omega) (by omega) (by omega) (by omega) (by omega) (by omega) (by omega) falo⟩) (fun c i q1 q2 => kg3' c i (by omega) (by omega) (by omega) (by omega) (by omega) (by omega) (by omega) (by omega) (by omega) (by omega) (by omega)) ⟨by rw [kC _ _ (by omega) (by omega) (by omega) (by omega) (by omega) (by omega)]; exact t0, by rw [kC _ _ (by omega) (by omega) (by omega) (by omega) (by omega) (by omega)]; exact t1⟩ ⟨by rw [g363 24 (by omega)]; exact b24, by rw [g363 25 (by omega)]; exact b25⟩
  obtain ⟨R, hRb, hR⟩ : ∃ R : Nat → Nat → Nat → Nat → Int, (∀ r pl a b, 0 ≤ R r pl a b ∧ R r pl a b ≤ 255) ∧ (X 0 0 = 0 → vd_RpA M4 s w h R f4 ∧ vd_RR N2 (129 + 5 * j) w h R g3) := by
    by_cases q : kd = 2
    · obtain ⟨_, _, _, _, yrf⟩ := k4 q
      obtain ⟨R, z1, z2, z3⟩ := vd_RX.all (M := M4) (N := N2) (s := s) (q := 129 + 5 * j) (w := w) (h := h) (f := f4) (g := g3) (fun r hr => vd_RXof hN hN2 hP hp (yrf r hr) hr ⟨hL4, hp4, pn, sn⟩ nh ip (fun sl h1 h2 => by rw [h55 r sl hr h1 (by rw [kf3 _ _ (by omega) (by omega) (by omega) (by omega), kA _ _ (by omega) (by omega) (by omega) (by omega) (by omega) (by omega) (by omega) (by omega)]; exact h2), hr13]) (fun x hx' => by rw [hol4 x hx', hol3]) (fun p' s' q z1 z2 => kPC p' s' (ms3.PC q (fun c i a => vd_swp_r (by omega))) (by rw [n3]; exact z1) (by rw [n3]; exact z2)) kE hz (r63 83 r (by omega) (by omega)) kgP)
      exact ⟨R, z1, fun _ => ⟨z2, z3⟩⟩
    · exact ⟨fun _ _ _ _ => 0, fun _ _ _ _ => by show (0 : Int) ≤ 0 ∧ (0 : Int) ≤ 255; decide, fun q' => absurd (hX0.mp q') q⟩
  have hq2 := vd_PD_of hN2 hj
  have hnow : vd_r N2 63 23 = some (129 + 5 * j) := by rw [hN2d, vd_r_sr, if_pos ⟨rfl, rfl⟩]
  have hDC : vd_DC M4 N2 lo lf ow fa W H p s (129 + 5 * j) X (if w0 = w ∧ h0 = h ∧ lm = 1 ∧ rs = 0 then 1 else 0) L Z R w h := ⟨⟨hM4, hN2⟩, ⟨hp4, r447⟩, ⟨hq2, hnow⟩, hXV, ⟨by omega, by omega, by omega, by omega⟩, hVV, hZ.2.2.2, hRb⟩
  have hRD4 : vd_RD 0 f4 g3 := hRD.keep (fun c i q => kf4' c i (by omega) (by omega)) (fun _ _ _ => rfl)
  have hZ4 : vd_tbz Z f4 g3 := hZ.keep (fun c i q => kD c i (by omega) (by omega) (by omega) (by omega) (by omega) (by omega) (by omega) (by omega) (by omega) (by omega) (by omega) (by omega) (by omega)) (fun c i q => kg3' c i (by omega) (by omega) (by omega) (by omega) (by omega) (by omega) (by omega) (by omega) (by omega) (by omega) (by omega))
  have hPK : vd_PK s (129 + 5 * j) w h (fun _ _ _ => 0) (fun _ _ _ => 0) f4 g3 := vd_pk0 wb y2 (fun i hi => by rw [kC _ _ (by omega) (by omega) (by omega) (by omega) (by omega) (by omega)]; exact m43 i hi) (fun pl i hpl hi => by rw [kg3 _ _ (by omega) (by omega), kg3 _ _ (by omega) (by omega)]; exact upl pl i hpl hi) (fun pl i hpl hi => by rw [kg3 _ _ (by omega) (by omega)]; exact uhv pl i hpl hi)
  have hGA : vd_GA lo lf W H 0 (fun _ _ => none) (fun _ _ => 0) f4 := by
    refine ⟨⟨?_, ?_⟩, ⟨by omega, by omega, by omega, by omega, by omega⟩, fun i j' hi hj' => ?_, ?_, fun k' q hk' => absurd hk' (by omega), fun k' hk' => absurd hk' (by omega)⟩
    · rw [kC _ _ (by omega) (by omega) (by omega) (by omega) (by omega) (by omega), t2, hW]
    · rw [kC _ _ (by omega) (by omega) (by omega) (by omega) (by omega) (by omega), t3, hH]
    · rw [kC _ _ (by omega) (by omega) (by omega) (by omega) (by omega) (by omega), mlo _ (by omega)]; rfl
    · intro i j' k' e
      exact absurd e (by simp)
  have hGB : vd_GB W H (fun _ _ => none) (fun _ _ => 0) g3 := by
    refine ⟨⟨?_, ?_⟩, fun i j' hi hj' => ?_, fun i j' k' _ _ e => by cases e⟩
    · rw [kg3 _ _ (by omega) (by omega), u26, hW]
    · rw [kg3 _ _ (by omega) (by omega), u27, hH]
    · have z1 := vd_ix hi hj'
      have z2 : W * H ≤ 24 * 24 := Nat.mul_le_mul (by omega) (by omega)
      rw [kg3 _ _ (by omega) (by omega), u88 _ (by omega)]; rfl
  have hDS : vd_DS M4 N2 lo lf ow fa W H s (129 + 5 * j) X (if w0 = w ∧ h0 = h ∧ lm = 1 ∧ rs = 0 then 1 else 0) L Z R w h 0 (399551 * 0) (fun _ _ => none) (fun _ _ => 0) mp (fun _ _ _ => 0) (fun _ _ _ => 0) f4 g3 := by
    refine ⟨⟨hRD4, hGA, hGB, ⟨hCA, hCB⟩, hmp, ⟨?_, ?_⟩, hVF⟩, mpb, ⟨hZ4.1, hZ4.2.1, hZ4.2.2.1, ⟨?_, ?_⟩, hR⟩, ⟨hPK, ?_⟩, ?_, fun k' hk' => absurd hk' (by omega)⟩
    · rw [kC _ _ (by omega) (by omega) (by omega) (by omega) (by omega) (by omega), t4]; rfl
    · rw [kg3 _ _ (by omega) (by omega), u69]; rfl
    · rw [kg3 _ _ (by omega) (by omega), uq0]
    · rw [kg3 _ _ (by omega) (by omega), uq1]
    · exact ⟨fun _ _ _ => ⟨by show (0 : Int) ≤ 0; decide, by show (0 : Int) ≤ 255; decide⟩, fun _ _ _ => Or.inl rfl, fun _ _ _ _ => rfl, fun _ _ _ _ e => by have e' : (0 : Int) = 2 := e; cases e'⟩
    · rw [y3, kg3 _ _ (by omega) (by omega), u47]
  have hSQ : vd_SQ M4 N2 lo lf ow fa W H s (129 + 5 * j) X (if w0 = w ∧ h0 = h ∧ lm = 1 ∧ rs = 0 then 1 else 0) L Z R w h f4 g3 0 0 f4 g3 := ⟨0, 0, _, _, mp, _, _, hDS, ⟨by omega, by omega⟩, fun _ _ _ _ _ => rfl, fun i j' hi hj' q => absurd q (by omega), vd_fBk.refl lo lf s f4, vd_gBk.refl (129 + 5 * j) g3⟩
  have hC4 : vd_CXR f4 g3 := hC2.keep (fun i => kC _ _ (by omega) (by omega) (by omega) (by omega) (by omega) (by omega)) (fun c i q1 q2 => kg3 _ _ (by omega) (by omega))
  refine ⟨M4, N2, f4, g3, W, H, p, s, j, X, _, L, R, vd_I (vd_afs kd rs), fun d Q => ?_, fun d Q => ?_, ⟨⟨hDC, hSQ⟩, ⟨hW, hH, wb⟩, ⟨hL4, ⟨pn, sn⟩, ?_, ⟨hj, hz2⟩, nh, ip⟩, ⟨hC4, hJ3.keep (fun i => kf4' _ _ (by omega) (by omega))⟩, ⟨hpic, hd.keep (fun x _ => hor2 x) (fun k' hk' => kg3' _ _ (by omega) (by omega) (by omega) (by omega) (by omega) (by omega) (by omega) (by omega) (by omega) (by omega) (by omega))⟩, ⟨hS4.2.2.2, hS4.bol⟩, ⟨?_, ?_, ?_⟩, ⟨?_, ?_, ?_⟩, ⟨s01, r01, ⟨k0, k1⟩, ⟨rf0, rf1⟩, kp01, fx01, cx0, cx1⟩, ⟨?_, ?_, ?_, ?_, ?_, ?_⟩, ⟨?_, ?_, ?_, ?_, ?_, ?_, ?_, ?_⟩, y0, y1⟩, ?_, ?_, g363 76 (by omega)⟩
  · have e58 : vd_wp (d + 5) 26 58 [.ref 10, .int x1, .int (vd_I to), vd_U, vd_U, vd_U] [] (vd_mf M f) Q = vd_wp (d + 5) 26 103 [.ref 10, .int x1, .int (vd_I to), vd_U, vd_U, vd_U] [] (vd_mf M f1) Q := by
      simp (disch := omega) only [vd_S26_58 hM, ← hf1, a0, vd_I_toInt, eq_self, if_true]
    rw [e58, e2 d Q, e3]
    simp only [vd_rs_v, vd_rs_n]
    exact e4 (d + 2) Q
  · rw [r2 (d + 1) Q]
    exact r3 (vd_I 6) d Q
  · rw [hN2d, vd_n_sr]
    split
    · exact hn1
    · rw [vd_n_new]; omega
  · rw [kC _ _ (by omega) (by omega) (by omega) (by omega) (by omega) (by omega)]; exact t5
  · rw [kg3 _ _ (by omega) (by omega), u70, hW]
  · rw [kg3 _ _ (by omega) (by omega), u71, hH]
  · rw [kC _ _ (by omega) (by omega) (by omega) (by omega) (by omega) (by omega), kf2 _ _ (by omega) (by omega) (by omega) (by omega) (by omega) (by omega) (by omega) (by omega), hf1, vd_up_eq, g363 20 (by omega), n1]
  · rw [kD _ _ (by omega) (by omega) (by omega) (by omega) (by omega) (by omega) (by omega) (by omega) (by omega) (by omega) (by omega) (by omega) (by omega), g363 21 (by omega), n2]
  · rw [kC _ _ (by omega) (by omega) (by omega) (by omega) (by omega) (by omega)]; exact t106
  · rw [k174 2 (by omega)]; exact a2
  · rw [k174 3 (by omega)]; exact a3
  · rw [k174 7 (by omega)]; exact a7
  · rw [k174 12 (by omega)]; exact h12
  · rw [k174 13 (by omega)]; exact h13
  · rw [k174 14 (by omega)]; exact h14
  · rw [g363 77 (by omega)]; exact b77
  · rw [g363 78 (by omega)]; exact h78
  · rw [g363 79 (by omega)]; exact b79
  · rw [g363 80 (by omega)]; exact b80
  · rw [g363 81 (by omega)]; exact h81
  · rw [g363 82 (by omega)]; exact h82
  · rw [g363 83 (by omega)]; exact b83
  · rw [g363 84 (by omega)]; exact b84
  · have l1 : vd_Lc M (vd_swp M ow fa lo lf) f f3 := vd_Lc.ms (fun c i q => by rw [kf3 _ _ (by omega) (by omega) (by omega) (by omega), kA _ _ (by omega) (by omega) (by omega) (by omega) (by omega) (by omega) (by omega) (by omega)]) ms3 (fun c i q => vd_swp_r (by omega))
    exact l1.trans hLc
  · refine ⟨fun c i q1 q2 => kg3' c i (by omega) (by omega) (by omega) (by omega) (by omega) (by omega) (by omega) (by omega) (by omega) (by omega) (by omega), fun c q => ?_, fun c i q1 q2 => r63 c i q1 (by omega), ⟨fun c i q => ?_, ?_⟩, ?_⟩
    · rw [hN2d, vd_k_sr, vd_l_sr]
      split
      · exact ⟨rfl, rfl⟩
      · rw [vd_k_new, if_neg (by omega), vd_l_new, if_neg (by omega)]
        exact ⟨rfl, rfl⟩
    · rw [hN2d, vd_j_sr]
      split
      · rfl
      · rw [vd_j_new, if_neg (by omega)]
    · rw [hN2d, vd_n_sr]
      split
      · exact Nat.le_refl _
      · rw [vd_n_new]; omega
    · rw [hN2d, vd_c_sr, vd_s_sr]
      split
      · omega
      · rw [vd_c_new, vd_s_new]; omega
end VDMI
