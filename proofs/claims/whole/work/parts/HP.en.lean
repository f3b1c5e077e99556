/-! ===== a frame's work from its squares on ===== -/
section VDEN
variable {M N : vd_M} {ow fa lo lf W H p s j : Nat} {X : Nat → Nat → Int} {mo : Int} {L : Nat → Nat → Nat → Int} {Z : Nat → Nat → Nat → Nat} {R : Nat → Nat → Nat → Nat → Int} {w h sho rs kd rfr kp fx cx : Int} {f g : Nat → Nat → Int32}
theorem vd_og_of {W H : Nat} {O : Nat → Nat → Option Nat} {B : Nat → Nat → Int} {g g' : Nat → Nat → Int32} (gb : vd_GB W H O B g) {i j k : Nat} (hi : i < W) (hj : j < H) (ho : O i j = some k) (hb : vd_BV (B k)) (q : ∀ v x, v < W * H → x < 2 → g' 76 (2 * v + x) = (if (g 90 v).toInt = 0 then vd_I (-1) else g 102 (2 * v + x)) ∧ g' 77 (2 * v + x) = g 103 (2 * v + x) ∧ g' 78 (2 * v + x) = g 104 (2 * v + x)) : vd_og g' 76 77 78 (W * j + i) (B k) := by
  obtain ⟨_, ⟨_, _, _, c4⟩, ⟨d1, d2, _⟩, ⟨e1, e2, e3, e4⟩, _⟩ := gb.2.2 i j k hi hj ho
  have hv := vd_ix hi hj
  obtain ⟨x1, x2, x3⟩ := q (W * j + i) 0 hv (by decide)
  obtain ⟨y1, y2, y3⟩ := q (W * j + i) 1 hv (by decide)
  rw [Nat.add_zero] at x1 x2 x3
  have b9 : (if (g 90 (W * j + i)).toInt = 0 then vd_I (-1) else g 102 (2 * (W * j + i))) = vd_I (B k 9) ∧ (if (g 90 (W * j + i)).toInt = 0 then vd_I (-1) else g 102 (2 * (W * j + i) + 1)) = vd_I (B k 10) := by
    by_cases c : B k 7 < 0
    · rw [if_pos c] at c4
      rw [c4, if_neg (by decide), if_neg (by decide)]
      exact ⟨d1, d2⟩
    · rw [if_neg c] at c4
      rw [c4, if_pos (by decide), if_pos (by decide)]
      obtain ⟨_, _, _, _, _, _, z⟩ := hb
      obtain ⟨z1, z2, _⟩ := z (by omega)
      rw [z1, z2]
      exact ⟨rfl, rfl⟩
  exact ⟨⟨x1.trans b9.1, y1.trans b9.2⟩, x2.trans e1, x3.trans e2, y2.trans e3, y3.trans e4⟩
theorem vd_frE (hm : vd_MID M N ow fa lo lf W H p s j X mo L Z R w h sho rs kd rfr kp fx cx f g) (x1 x2 y1 y2 y3 : Int32) : ∃ (M' N' : vd_M) (f' g' : Nat → Nat → Int32), (∀ d Q, vd_wp (d + 10) 26 179 [.ref 10, .int x1, .int x2, .ref p, .int (vd_I 0), vd_U] [] (vd_mf M f) Q = Q (vd_mf M' f') (.inl (some (.int (vd_I 0))))) ∧ (∀ d Q, vd_wp (d + 12) 186 225 [.ref 63, .int y1, .int y2, .int y3, .int (vd_I 0), vd_U] [] (vd_mf N g) Q = Q (vd_mf N' g') (.inl none)) ∧ vd_INV M' N' ow fa lo lf Z f' g' ∧ vd_Lc M M' f f' ∧ vd_Lr N N' g g' 0 0 ∧ g' 63 76 = g 63 76 := by
  obtain ⟨⟨hDC, hSQ⟩, ⟨hW, hH, wb⟩, ⟨hP, ⟨pn, sn⟩, hn1, ⟨hj, hz⟩, nh, ip⟩, ⟨hC, hJ⟩, ⟨hp, hd⟩, ⟨hs, hb⟩, ⟨t5, t70, t71⟩, ⟨n4, n5, n6⟩, ⟨s01, r01, ⟨kd0, kd1⟩, ⟨rf0, rf1⟩, kp01, fx01, ⟨cx0, cx1⟩⟩, ⟨a2, a3, a7, a12, a13, a14⟩, ⟨b77, b78, b79, b80, b81, b82, b83, b84⟩, y0, y1'⟩ := hm
  have hDC' := hDC
  obtain ⟨⟨hM, hN⟩, ⟨hp4, r447⟩, ⟨hq, hnow⟩, hXV, ⟨W1, W24, H1, H24⟩, _, hSCV, _⟩ := hDC'
  obtain ⟨⟨ow0, ow1⟩, ⟨fa0, fa1⟩⟩ : (38 ≤ ow ∧ ow ≤ 41) ∧ (38 ≤ fa ∧ fa ≤ 41) := by
    have := hM.par
    omega
  have pb := hp4.2.2
  have hn197 := hP.2.2.2
  obtain ⟨f1, g1, x4, y4, c5, d5, e1, r1, nb, n, O, B, mp, P, K, hDS, hn, hcov, kf1, kg1⟩ := vd_sqAll hDC hW hH wb 3 0 f g vd_U vd_U rfl hSQ
  obtain ⟨⟨hRD, hGA, hGB, ⟨hCA, hCB⟩, hmp, ⟨m37, m69⟩, hVF⟩, mpb, ⟨stC, sct, stR, ⟨q0, q1⟩, _⟩, ⟨⟨⟨hPSC, hPSR⟩, _⟩, ⟨hPb, _⟩⟩, m45, hBG⟩ := hDS
  obtain ⟨M1, f2, g2, P', lin, hM1e, e2, r2, l60, hPSC2, hPSR2, hPb2, kf2, kg2⟩ := vd_filt hM hN hp4 hq hnow hXV wb hW hH hBG hcov hGA hGB hCA hCB m37 hPSC hPSR hPb q0
  have hM1 : vd_SC M1 ow fa lo lf := by
    rcases hM1e with rfl | rfl
    · exact hM
    · exact hM.keep (fun _ _ => rfl) (fun _ _ => rfl) (fun c i _ _ _ _ _ _ q => by rw [vd_r_sr, if_neg (by omega)])
  have ms1 : vd_Ms M M1 := by
    rcases hM1e with rfl | rfl
    · exact vd_Ms.refl _
    · exact vd_Ms.sr _ _ _ _
  have rr1 : ∀ c i, c ≠ 60 → vd_r M1 c i = vd_r M c i := fun c i q => by
    rcases hM1e with rfl | rfl
    · rfl
    · rw [vd_r_sr, if_neg (by omega)]
  have kF12 : ∀ c i, c ≠ 34 → c ≠ 36 → c ≠ fa → c ≠ ow → c ≠ 42 → c ≠ 43 → c ≠ 44 → c ≠ 45 → ¬ (48 ≤ c ∧ c ≤ 54) → c ≠ 56 → ¬ (58 ≤ c ∧ c ≤ 62) → ¬ (c = 37 ∧ i = 4) → c ≠ s → f2 c i = f c i := fun c i u1 u2 u3 u4 u5 u6 u7 u8 u9 u10 u11 u12 u13 => by rw [kf2 c i u13 (by omega) (by omega) (by omega), kf1 c i u1 u2 u3 u4 u5 u6 u7 (by omega) u9 u10 (by omega) (by omega) u12 u13]
  have kG12 : ∀ c i, ¬ (c = 63 ∧ (i = 46 ∨ i = 47 ∨ i = 69 ∨ (91 ≤ i ∧ i ≤ 133))) → c ≠ 72 → c ≠ 81 → c ≠ 82 → ¬ (88 ≤ c ∧ c ≤ 104) → ¬ (106 ≤ c ∧ c ≤ 108) → ¬ (110 ≤ c ∧ c ≤ 112) → ¬ (117 ≤ c ∧ c ≤ 121) → ¬ (123 ≤ c ∧ c ≤ 128) → ¬ (129 + 5 * j + 2 ≤ c ∧ c ≤ 129 + 5 * j + 4) → g2 c i = g c i := fun c i u1 u2 u3 u4 u5 u6 u7 u8 u9 u10 => by rw [kg2 c i (by omega) u10 (by omega), kg1 c i (by omega) u2 u3 u4 u5 u6 u7 u8 (by omega) u10]
  have k17 : ∀ i, f2 17 i = f 17 i := fun i => kF12 17 i (by omega) (by omega) (by omega) (by omega) (by omega) (by omega) (by omega) (by omega) (by omega) (by omega) (by omega) (by omega) (by omega)
  have g63 : ∀ i, ¬ (i = 46 ∨ i = 47 ∨ i = 69 ∨ (91 ≤ i ∧ i ≤ 133)) → g2 63 i = g 63 i := fun i q => kG12 63 i (by omega) (by omega) (by omega) (by omega) (by omega) (by omega) (by omega) (by omega) (by omega) (by omega)
  have ec : cx = ((cx.toNat : Nat) : Int) := by omega
  have hRD2 : vd_RD n f2 g2 := hRD.keep (fun c i q => kf2 c i (by omega) (by omega) (by omega) (by omega)) (fun c i q => kg2 c i (by omega) (by omega) (by omega))
  have hC2 : vd_CXR f2 g2 := hC.keep (fun i => kF12 14 i (by omega) (by omega) (by omega) (by omega) (by omega) (by omega) (by omega) (by omega) (by omega) (by omega) (by omega) (by omega) (by omega)) (fun c i q1 q2 => kG12 c i (by omega) (by omega) (by omega) (by omega) (by omega) (by omega) (by omega) (by omega) (by omega) (by omega))
  obtain ⟨f3, g3, e3, ⟨a1, r3⟩, hC3, kf3, kg3⟩ := vd_keepM hM1 hN (n := n) (c := cx.toNat) (kp := kp) (fx := fx) (rs := rs) (f := f2) (g := g2) (by omega) (by omega) kp01 fx01 r01 hRD2.2.2.1 hRD2.2.2.2 hC2 (by rw [k17]; exact a12) (by rw [k17]; exact a13) (by rw [k17]; exact a3) (by rw [k17, ← ec]; exact a14) (by rw [g63 81 (by omega)]; exact b81) (by rw [g63 82 (by omega)]; exact b82) (by rw [g63 80 (by omega)]; exact b80) (by rw [g63 78 (by omega), ← ec]; exact b78)
  obtain ⟨M2, f4, e4, hM2, ms2, rr2, sl2, sh2, c105, kf4⟩ := vd_P26e hM1 (p := p) (rfr := rfr) (sho := sho) (f := f3) (by rw [ms1.k]; exact hp4.1.1) (by omega) (by rw [kf3 _ _ (by omega), k17]; exact a7) rf0 rf1 (by rw [kf3 _ _ (by omega), k17]; exact a2) s01 x1 x2 x4 c5
  have g363 : ∀ i, ¬ (i = 46 ∨ i = 47 ∨ i = 69 ∨ (91 ≤ i ∧ i ≤ 133)) → g3 63 i = g 63 i := fun i q => by rw [kg3 _ _ (by omega), g63 i q]
  have kG13 : ∀ c i, ¬ (c = 63 ∧ (i = 46 ∨ i = 47 ∨ i = 69 ∨ (91 ≤ i ∧ i ≤ 133))) → ¬ (68 ≤ c ∧ c ≤ 72) → c ≠ 81 → c ≠ 82 → ¬ (88 ≤ c ∧ c ≤ 104) → ¬ (106 ≤ c ∧ c ≤ 108) → ¬ (110 ≤ c ∧ c ≤ 112) → ¬ (117 ≤ c ∧ c ≤ 121) → ¬ (123 ≤ c ∧ c ≤ 128) → ¬ (129 + 5 * j + 2 ≤ c ∧ c ≤ 129 + 5 * j + 4) → g3 c i = g c i := fun c i u1 u2 u3 u4 u5 u6 u7 u8 u9 u10 => by rw [kg3 c i (by omega), kG12 c i u1 (by omega) u3 u4 u5 u6 u7 u8 u9 u10]
  have hd3 : vd_HDR N g3 := hd.keep (fun _ _ => rfl) (fun k' hk' => kG13 _ _ (by omega) (by omega) (by omega) (by omega) (by omega) (by omega) (by omega) (by omega) (by omega) (by omega))
  have g31 : ∀ c i, ¬ (68 ≤ c ∧ c ≤ 71) → c ≠ 128 → ¬ (129 + 5 * j + 2 ≤ c ∧ c ≤ 129 + 5 * j + 4) → ¬ (c = 63 ∧ 129 ≤ i ∧ i ≤ 133) → g3 c i = g1 c i := fun c i u1 u2 u3 u4 => by rw [kg3 c i u1, kg2 c i u2 u3 u4]
  obtain ⟨N1, g4, r4, ⟨hN1, hd4, msN⟩, rN, sN, shN, ⟨p20, p14, p15, p16, p21⟩, plast, kg4⟩ := vd_P276b hN hd3 (j := j) (W := W) (H := H) (rfr := rfr) (sho := sho) hj hnow (by rw [g363 77 (by omega)]; exact b77) rf0 rf1 (by rw [g363 79 (by omega)]; exact b79) s01 W24 H24 (by rw [g31 _ _ (by omega) (by omega) (by omega) (by omega)]; exact hGB.1.1) (by rw [g31 _ _ (by omega) (by omega) (by omega) (by omega)]; exact hGB.1.2)
  have g463 : ∀ i, ¬ (i = 46 ∨ i = 47 ∨ i = 69 ∨ (91 ≤ i ∧ i ≤ 133)) → ¬ (i = 20 ∨ i = 21 ∨ (14 ≤ i ∧ i ≤ 16)) → g4 63 i = g 63 i := fun i q q' => by rw [kg4 _ _ (by omega) (by omega) (by omega), g363 i q]
  have r5 := fun (d : Nat) Q => vd_P186t hN1 (g := g4) (kd := kd) kd0 kd1 (by rw [g463 83 (by omega) (by omega)]; exact b83) (by rw [g463 84 (by omega) (by omega)]; exact b84) y1 y2 y3 lin d5 d Q
  obtain ⟨g5, hg5⟩ : ∃ g5, g5 = vd_up (vd_up (vd_up (vd_up (vd_up g4 79 0 (g4 63 69)) 79 1 (g4 63 46)) 79 2 (g4 63 47)) 79 3 lin) 79 4 (vd_I kd) := ⟨_, rfl⟩
  have kg5 : ∀ c i, c ≠ 79 → g5 c i = g4 c i := fun c i q => by rw [hg5, vd_up_ne (by omega), vd_up_ne (by omega), vd_up_ne (by omega), vd_up_ne (by omega), vd_up_ne (by omega)]
  have kF : ∀ c i, c ≠ 34 → c ≠ 36 → c ≠ fa → c ≠ ow → c ≠ 42 → c ≠ 43 → c ≠ 44 → c ≠ 45 → ¬ (48 ≤ c ∧ c ≤ 54) → c ≠ 56 → ¬ (58 ≤ c ∧ c ≤ 62) → ¬ (c = 37 ∧ i = 4) → c ≠ s → c ≠ 14 → ¬ (c = 10 ∧ i = 5) → f4 c i = f c i := fun c i u1 u2 u3 u4 u5 u6 u7 u8 u9 u10 u11 u12 u13 u14 u15 => by rw [kf4 c i u15, kf3 c i u14, kF12 c i u1 u2 u3 u4 u5 u6 u7 u8 u9 u10 u11 u12 u13]
  have f41 : ∀ c i, c ≠ s → ¬ (60 ≤ c ∧ c ≤ 62) → c ≠ 14 → ¬ (c = 10 ∧ i = 5) → f4 c i = f1 c i := fun c i u1 u2 u3 u4 => by rw [kf4 c i u4, kf3 c i u3, kf2 c i u1 (by omega) (by omega) (by omega)]
  have f42 : ∀ c i, c ≠ 14 → ¬ (c = 10 ∧ i = 5) → f4 c i = f2 c i := fun c i u1 u2 => by rw [kf4 c i u2, kf3 c i u1]
  have g51 : ∀ c i, ¬ (68 ≤ c ∧ c ≤ 71) → c ≠ 128 → ¬ (129 ≤ c ∧ c ≤ 183) → ¬ (c = 63 ∧ 129 ≤ i ∧ i ≤ 133) → ¬ (c = 63 ∧ (i = 20 ∨ i = 21 ∨ (14 ≤ i ∧ i ≤ 16))) → ¬ (76 ≤ c ∧ c ≤ 79) → g5 c i = g1 c i := fun c i u1 u2 u3 u4 u5 u6 => by rw [kg5 c i (by omega), kg4 c i (by omega) u5 (by omega), g31 c i u1 u2 (by omega) u4]
  have kG : ∀ c i, ¬ (c = 63 ∧ (i = 46 ∨ i = 47 ∨ i = 69 ∨ (91 ≤ i ∧ i ≤ 133))) → ¬ (68 ≤ c ∧ c ≤ 72) → c ≠ 81 → c ≠ 82 → ¬ (88 ≤ c ∧ c ≤ 104) → ¬ (106 ≤ c ∧ c ≤ 108) → ¬ (110 ≤ c ∧ c ≤ 112) → ¬ (117 ≤ c ∧ c ≤ 121) → ¬ (123 ≤ c ∧ c ≤ 128) → ¬ (129 + 5 * j + 2 ≤ c ∧ c ≤ 129 + 5 * j + 4) → ¬ (129 ≤ c ∧ i = 3 ∧ c ≤ 179 ∧ c % 5 = 4) → ¬ (c = 63 ∧ (i = 20 ∨ i = 21 ∨ (14 ≤ i ∧ i ≤ 16))) → ¬ (76 ≤ c ∧ c ≤ 79) → g5 c i = g c i := fun c i u1 u2 u3 u4 u5 u6 u7 u8 u9 u10 u11 u12 u13 => by rw [kg5 c i (by omega), kg4 c i u11 u12 (by omega), kG13 c i u1 u2 u3 u4 u5 u6 u7 u8 u9 u10]
  have pne : ∀ x p', x < 9 → vd_hol M x = some p' → p' ≠ p := fun x p' hx e q => nh x hx (by rw [e, q])
  have hol2 : ∀ x, x < 8 → vd_hol M2 x = if vd_bt rfr x = 1 then some p else vd_hol M x := fun x hx => by
    have e1 : vd_hol M2 x = vd_r M2 13 x := if_pos hx
    have e2 : vd_hol M x = vd_r M 13 x := if_pos hx
    rw [e1, e2, sl2 x hx, rr1 13 x (by decide)]
  have hol28 : vd_hol M2 8 = if sho = 1 then some p else vd_hol M 8 := by
    have e1 : vd_hol M2 8 = vd_r M2 10 9 := rfl
    have e2 : vd_hol M 8 = vd_r M 10 9 := rfl
    rw [e1, e2, sh2, rr1 10 9 (by decide)]
  have hor2 : ∀ x, x < 8 → vd_hor N1 x = if vd_bt rfr x = 1 then some (129 + 5 * j) else vd_hor N x := fun x hx => by
    have e1 : vd_hor N1 x = vd_r N1 66 x := if_pos hx
    have e2 : vd_hor N x = vd_r N 66 x := if_pos hx
    rw [e1, e2, sN x hx]
  have hor28 : vd_hor N1 8 = if sho = 1 then some (129 + 5 * j) else vd_hor N 8 := by
    have e1 : vd_hor N1 8 = vd_r N1 63 7 := rfl
    have e2 : vd_hor N 8 = vd_r N 63 7 := rfl
    rw [e1, e2, shN]
  have msM : vd_Ms M M2 := ms1.trans ms2
  have rrM : ∀ c i, c ≠ 60 → c ≠ 13 → ¬ (c = 10 ∧ i = 9) → vd_r M2 c i = vd_r M c i := fun c i u1 u2 u3 => by rw [rr2 c i u2 u3, rr1 c i u1]
  have pcM : ∀ p' s', vd_PC M p' s' → vd_PC M2 p' s' := fun p' s' q => msM.PC q (fun c i a => rrM c i (by omega) (by omega) (by omega))
  have new : ∀ x, vd_hol M2 x = some p → vd_hor N1 x = some (129 + 5 * j) → vd_pic M2 N1 f4 g5 x := fun x e1 e2 => by
    refine Or.inr ⟨p, s, j, w, h, P', ⟨e1, pcM p s hp4⟩, ⟨hj, e2⟩, wb, ⟨?_, ?_⟩, ⟨?_, ?_⟩, hPSC2.keep (fun i => f42 s i (by omega) (by omega)), hPSR2.keep (fun c i u1 u2 => by rw [kg5 c i (by omega), kg4 c i (by omega) (by omega) (by omega), kg3 c i (by omega)]), hPb2⟩
    · rw [kF p 0 (by omega) (by omega) (by omega) (by omega) (by omega) (by omega) (by omega) (by omega) (by omega) (by omega) (by omega) (by omega) pb.2.2 (by omega) (by omega)]; exact y0
    · rw [kF p 1 (by omega) (by omega) (by omega) (by omega) (by omega) (by omega) (by omega) (by omega) (by omega) (by omega) (by omega) (by omega) pb.2.2 (by omega) (by omega)]; exact y1'
    · rw [kg5 _ _ (by omega), kg4 _ _ (by omega) (by omega) (by omega), g31 _ _ (by omega) (by omega) (by omega) (by omega)]; exact q0
    · rw [kg5 _ _ (by omega), kg4 _ _ (by omega) (by omega) (by omega), g31 _ _ (by omega) (by omega) (by omega) (by omega)]; exact q1
  have old : ∀ x, x < 9 → vd_hol M2 x = vd_hol M x → vd_hor N1 x = vd_hor N x → vd_pic M2 N1 f4 g5 x := fun x hx e1 e2 => by
    refine (hp x hx).keep e1 e2 (fun p' s' e q => ⟨pcM p' s' q, fun c i e' => ?_⟩) (fun k' hk' e c i q => ?_)
    · have z := q.2.2
      have sne : s' ≠ s := by
        obtain ⟨i1, hi1, ei1⟩ := ip
        obtain ⟨i2, hi2, ei2⟩ := hP.2.2.1 x p' hx e
        have ii : i2 ≠ i1 := fun q => by
          subst q
          rw [ei1] at ei2
          exact pne x p' hx e (Option.some.inj ei2).symm
        exact (hP.2.1 i2 i1 p' p s' s hi2 hi1 ii ei2 ei1 q hp4).2
      have pns : p' ≠ s := fun q' => by
        have t1 := q.1.1
        have t2 := hp4.2.1.1
        rw [q', t2] at t1
        cases t1
      have cs : c ≠ s := by
        rcases e' with rfl | rfl
        · exact pns
        · exact sne
      exact kF c i (by omega) (by omega) (by omega) (by omega) (by omega) (by omega) (by omega) (by omega) (by omega) (by omega) (by omega) (by omega) cs (by omega) (by omega)
    · have kne : k' ≠ j := fun q' => by
        subst q'
        exact vd_ct_has e 9 hx hz
      exact kG c i (by omega) (by omega) (by omega) (by omega) (by omega) (by omega) (by omega) (by omega) (by omega) (by omega) (by omega) (by omega) (by omega)
  have hpic : ∀ x, x < 9 → vd_pic M2 N1 f4 g5 x := fun x hx => by
    by_cases c : x < 8
    · have u1 := hol2 x c
      have u2 := hor2 x c
      by_cases b : vd_bt rfr x = 1
      · rw [if_pos b] at u1 u2
        exact new x u1 u2
      · rw [if_neg b] at u1 u2
        exact old x hx u1 u2
    · have : x = 8 := by omega
      subst this
      have u1 := hol28
      have u2 := hor28
      by_cases b : sho = 1
      · rw [if_pos b] at u1 u2
        exact new 8 u1 u2
      · rw [if_neg b] at u1 u2
        exact old 8 hx u1 u2
  have hPL : vd_PL M2 := hP.hol (Nat.le_of_eq msM.n.symm) (fun c _ _ => msM.k c) (fun c _ _ => msM.l c) (fun c i q => rrM c i (by omega) (by omega) (by omega)) (fun x k' hx e => by
    by_cases c : x < 8
    · rw [hol2 x c] at e
      by_cases b : vd_bt rfr x = 1
      · rw [if_pos b] at e
        cases e
        exact ip
      · rw [if_neg b] at e
        exact hP.2.2.1 x k' hx e
    · have : x = 8 := by omega
      subst this
      rw [hol28] at e
      by_cases b : sho = 1
      · rw [if_pos b] at e
        cases e
        exact ip
      · rw [if_neg b] at e
        exact hP.2.2.1 8 k' hx e)
  have gri : vd_gri ow fa f4 g5 := by
    refine ⟨w, h, sho, ⟨?_, ?_, ?_⟩, ⟨?_, ?_, ?_⟩, s01, Or.inr ⟨W, H, nb, O, B, mp, wb, ⟨hW, hH⟩, ⟨hGA.keep (fun c i q => f41 c i (by omega) (by omega) (by omega) (by omega)), hGB.keep (fun c i q => g51 c i (by omega) (by omega) (by omega) (by omega) (by omega) (by omega))⟩, ⟨?_, ?_⟩, hcov, mpb, fun i j' hi hj' => ⟨?_, ?_⟩, fun i j' k' hi hj' ho => ?_⟩⟩
    · rw [f41 _ _ (by omega) (by omega) (by omega) (by omega)]; exact hVF.2.2.1.1
    · rw [f41 _ _ (by omega) (by omega) (by omega) (by omega)]; exact hVF.2.2.1.2
    · rw [kF 37 5 (by omega) (by omega) (by omega) (by omega) (by omega) (by omega) (by omega) (by omega) (by omega) (by omega) (by omega) (by omega) (by omega) (by omega) (by omega)]; exact t5
    · rw [kg5 _ _ (by omega), p14, g31 _ _ (by omega) (by omega) (by omega) (by omega)]; exact hVF.2.2.2.1
    · rw [kg5 _ _ (by omega), p15, g31 _ _ (by omega) (by omega) (by omega) (by omega)]; exact hVF.2.2.2.2
    · rw [kg5 _ _ (by omega), p16, g363 79 (by omega)]; exact b79
    · rw [kG 63 70 (by omega) (by omega) (by omega) (by omega) (by omega) (by omega) (by omega) (by omega) (by omega) (by omega) (by omega) (by omega) (by omega)]; exact t70
    · rw [kG 63 71 (by omega) (by omega) (by omega) (by omega) (by omega) (by omega) (by omega) (by omega) (by omega) (by omega) (by omega) (by omega) (by omega)]; exact t71
    · rw [f41 _ _ (by omega) (by omega) (by omega) (by omega)]; exact hmp.1 i j' hi hj'
    · rw [g51 _ _ (by omega) (by omega) (by omega) (by omega) (by omega) (by omega)]; exact hmp.2 i j' hi hj'
    · have hGB3 : vd_GB W H O B g3 := hGB.keep (fun c i q => g31 c i (by omega) (by omega) (by omega) (by omega))
      refine vd_og_of hGB3 hi hj' ho (hGA.2.2.2.2.2 k' (hGA.2.2.2.1 i j' k' ho)) (fun v x hv hx => ?_)
      rw [kg5 _ _ (by omega), kg5 77 _ (by omega), kg5 78 _ (by omega)]
      exact plast v x hv hx
  refine ⟨M2, N1, f4, g5, fun d Q => ?_, fun d Q => ?_, ⟨⟨hM2, hN1, hPL, by rw [msN.n]; exact hn1⟩, ⟨fun i hi => ?_, ?_, hJ.keep (fun i => kF 18 i (by omega) (by omega) (by omega) (by omega) (by omega) (by omega) (by omega) (by omega) (by omega) (by omega) (by omega) (by omega) (by omega) (by omega) (by omega))⟩, ⟨hpic, hd4.keep (fun _ _ => rfl) (fun k' hk' => kg5 _ _ (by omega))⟩, ⟨(hs.keep (fun c i u1 u2 => kF c i (by omega) (by omega) (by omega) (by omega) (by omega) (by omega) (by omega) (by omega) (by omega) (by omega) (by omega) (by omega) (by omega) (by omega) (by omega)) (fun c i q => kG c i (by omega) (by omega) (by omega) (by omega) (by omega) (by omega) (by omega) (by omega) (by omega) (by omega) (by omega) (by omega) (by omega))).sti M2, hb.keep (fun i => kF 20 i (by omega) (by omega) (by omega) (by omega) (by omega) (by omega) (by omega) (by omega) (by omega) (by omega) (by omega) (by omega) (by omega) (by omega) (by omega))⟩, gri, ⟨⟨?_, ?_, ?_⟩, ⟨?_, ?_, ?_, ?_⟩⟩, ?_⟩, ?_, ?_, ?_⟩
  · have z8 : vd_I (8 * ((0 : Nat) : Int)) = vd_I 0 := rfl
    have e1' := e1 x1 x2 p d Q
    rw [z8] at e1'
    refine e1'.trans ((e2 x1 x2 x4 c5 (d + 4) Q).trans ?_)
    have e3' : ∀ Q, vd_wp (d + 9) 148 0 [.ref 10, vd_U, vd_U, vd_U] [] (vd_mf M1 f2) Q = Q (vd_mf M1 f3) (.inl none) := fun Q => e3 (d + 7) Q
    simp only [vd_S26_239 hM1, vd_S26_240 hM1, e3', vd_rs_v, vd_rs_n]
    exact e4 (d + 9) Q
  · have z8 : vd_I (64 * ((0 : Nat) : Int)) = vd_I 0 := rfl
    have r1' := r1 y1 y2 y3 d Q
    rw [z8] at r1'
    refine r1'.trans ((r2 y1 y2 y3 y4 d5 (d + 5) Q).trans ?_)
    have r3' : ∀ Q, vd_wp (d + 11) 276 0 [.ref 63, vd_U, vd_U] [] (vd_mf N g2) Q = vd_wp (d + 11) 276 82 [.ref 63, a1, vd_U] [] (vd_mf N g3) Q := fun Q => r3 (d + 9) Q
    have r4' : ∀ Q, vd_wp (d + 11) 276 82 [.ref 63, a1, vd_U] [] (vd_mf N g3) Q = Q (vd_mf N1 g4) (.inl none) := fun Q => r4 a1 (d + 10) Q
    simp only [vd_S186_283 hN, vd_S186_286 hN, r3', r4', vd_rs_v, vd_rs_n, r5, ← hg5]
  · rw [f41 _ _ (by omega) (by omega) (by omega) (by omega), g51 _ _ (by omega) (by omega) (by omega) (by omega) (by omega) (by omega)]
    exact hRD.1 i hi
  · exact hC3.keep (fun i => kf4 14 i (by omega)) (fun c i u1 u2 => by rw [kg5 c i (by omega), kg4 c i (by omega) (by omega) (by omega)])
  · rw [kF 10 4 (by omega) (by omega) (by omega) (by omega) (by omega) (by omega) (by omega) (by omega) (by omega) (by omega) (by omega) (by omega) (by omega) (by omega) (by omega), kg5 _ _ (by omega), p20, g363 20 (by omega)]
    exact n4
  · rw [c105, kf3 10 5 (by omega), kF12 10 5 (by omega) (by omega) (by omega) (by omega) (by omega) (by omega) (by omega) (by omega) (by omega) (by omega) (by omega) (by omega) (by omega), kg5 _ _ (by omega), p21, g363 21 (by omega), n5]
  · rw [kF 10 6 (by omega) (by omega) (by omega) (by omega) (by omega) (by omega) (by omega) (by omega) (by omega) (by omega) (by omega) (by omega) (by omega) (by omega) (by omega), n6, hg5, vd_up_eq]
  · rw [f41 _ _ (by omega) (by omega) (by omega) (by omega), m37, hg5, vd_up_ne (by omega), vd_up_ne (by omega), vd_up_ne (by omega), vd_up_ne (by omega), vd_up_eq, kg4 _ _ (by omega) (by omega) (by omega), g31 _ _ (by omega) (by omega) (by omega) (by omega), m69]
  · rw [f41 _ _ (by omega) (by omega) (by omega) (by omega), hRD.2.2.2.2.1, hg5, vd_up_ne (by omega), vd_up_ne (by omega), vd_up_ne (by omega), vd_up_eq, kg4 _ _ (by omega) (by omega) (by omega), g31 _ _ (by omega) (by omega) (by omega) (by omega)]
  · rw [f41 _ _ (by omega) (by omega) (by omega) (by omega), m45, hg5, vd_up_ne (by omega), vd_up_ne (by omega), vd_up_eq, kg4 _ _ (by omega) (by omega) (by omega), g31 _ _ (by omega) (by omega) (by omega) (by omega)]
  · rw [f42 60 2 (by omega) (by omega), l60, hg5, vd_up_ne (by omega), vd_up_eq]
  · have z1 : vd_tbz Z f1 g1 := ⟨stC, sct, stR, hSCV⟩
    exact z1.keep (fun c i q => f41 c i (by omega) (by omega) (by omega) (by omega)) (fun c i q => g51 c i (by omega) (by omega) (by omega) (by omega) (by omega) (by omega))
  · exact vd_Lc.ms (fun c i q => kF c i (by omega) (by omega) (by omega) (by omega) (by omega) (by omega) (by omega) (by omega) (by omega) (by omega) (by omega) (by omega) (by omega) (by omega) (by omega)) msM (fun c i q => rrM c i (by omega) (by omega) (by omega))
  · exact vd_Lr.ms (fun c i q => kG c i (by omega) (by omega) (by omega) (by omega) (by omega) (by omega) (by omega) (by omega) (by omega) (by omega) (by omega) (by omega) (by omega)) msN (fun c i q => rN c i (by omega) (by omega))
  · rw [kG 63 76 (by omega) (by omega) (by omega) (by omega) (by omega) (by omega) (by omega) (by omega) (by omega) (by omega) (by omega) (by omega) (by omega)]
end VDEN
