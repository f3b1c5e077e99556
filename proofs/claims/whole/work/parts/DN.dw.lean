/-! ===== a larger square by four smaller ones ===== -/
section VDDW
variable {M N : vd_M} {ow fa lo lf W H p s q : Nat} {X : Nat → Nat → Int} {mo : Int} {L : Nat → Nat → Nat → Int} {Z : Nat → Nat → Nat → Nat} {R : Nat → Nat → Nat → Nat → Int} {pw ph : Int}
/-- two pieces one behind the other -/
theorem vd_DT.then {x y w h x1 y1 w1 h1 c1 m1 x2 y2 w2 h2 c2 m2 nb n nb1 n1 : Nat} {O O1 : Nat → Nat → Option Nat} {K K1 : Nat → Nat → Nat → Int} {f g f1 g1 f2 g2 : Nat → Nat → Int32} (hn : n1 = n + c1) (hnb : nb1 ≤ nb + m1) (ke : ∀ pl a e, ¬ (pl < 3 ∧ vd_ar pl x1 y1 w1 h1 a e) → K1 pl a e = K pl a e) (mo1 : ∀ i j, O i j ≠ none → O1 i j ≠ none) (cv : ∀ i j, x1 ≤ i → i < x1 + w1 → y1 ≤ j → j < y1 + h1 → i < W → j < H → O1 i j ≠ none) (F : vd_fBk ow fa s f f1) (G : vd_gBk q g g1) (d2 : vd_DT M N ow fa lo lf W H s q X mo L Z R pw ph x2 y2 w2 h2 c2 m2 nb1 n1 O1 K1 f1 g1 f2 g2) {c m : Nat} (hc : c1 + c2 ≤ c) (hm : m1 + m2 ≤ m) (s1 : x ≤ x1 ∧ x1 + w1 ≤ x + w ∧ y ≤ y1 ∧ y1 + h1 ≤ y + h) (s2 : x ≤ x2 ∧ x2 + w2 ≤ x + w ∧ y ≤ y2 ∧ y2 + h2 ≤ y + h) (cc : ∀ i j, x ≤ i → i < x + w → y ≤ j → j < y + h → i < W → j < H → (x1 ≤ i ∧ i < x1 + w1 ∧ y1 ≤ j ∧ j < y1 + h1) ∨ (x2 ≤ i ∧ i < x2 + w2 ∧ y2 ≤ j ∧ j < y2 + h2)) : vd_DT M N ow fa lo lf W H s q X mo L Z R pw ph x y w h c m nb n O K f g f2 g2 := by
  obtain ⟨nb2, O2, B2, mp2, P2, K2, ds2, hb2, ke2, mo2, cv2, F2, G2⟩ := d2
  refine ⟨nb2, O2, B2, mp2, P2, K2, ds2.mono (by omega), by omega, fun pl a e hh => ?_, fun i j hO => mo2 i j (mo1 i j hO), fun i j q1 q2 q3 q4 q5 q6 => ?_, F.trans F2, G.trans G2⟩
  · rw [ke2 pl a e (fun ⟨q1, q2⟩ => hh ⟨q1, vd_ar_sub q2 (by omega) (by omega) (by omega) (by omega)⟩), ke pl a e (fun ⟨q1, q2⟩ => hh ⟨q1, vd_ar_sub q2 (by omega) (by omega) (by omega) (by omega)⟩)]
  · rcases cc i j q1 q2 q3 q4 q5 q6 with q | q
    · exact mo2 i j (cv i j q.1 q.2.1 q.2.2.1 q.2.2.2 q5 q6)
    · exact cv2 i j q.1 q.2.1 q.2.2.1 q.2.2.2 q5 q6
/-- one piece for the whole -/
theorem vd_DT.only {x y w h x1 y1 w1 h1 c1 m1 nb n n0 : Nat} {O : Nat → Nat → Option Nat} {K : Nat → Nat → Nat → Int} {f0 g0 f g f1 g1 : Nat → Nat → Int32} (F : vd_fBk ow fa s f0 f) (G : vd_gBk q g0 g) (d1 : vd_DT M N ow fa lo lf W H s q X mo L Z R pw ph x1 y1 w1 h1 c1 m1 nb n O K f g f1 g1) {c m : Nat} (hc : n + c1 ≤ n0 + c) (hm : m1 ≤ m) (s1 : x ≤ x1 ∧ x1 + w1 ≤ x + w ∧ y ≤ y1 ∧ y1 + h1 ≤ y + h) (cc : ∀ i j, x ≤ i → i < x + w → y ≤ j → j < y + h → i < W → j < H → (x1 ≤ i ∧ i < x1 + w1 ∧ y1 ≤ j ∧ j < y1 + h1)) : vd_DT M N ow fa lo lf W H s q X mo L Z R pw ph x y w h c m nb n0 O K f0 g0 f1 g1 := by
  obtain ⟨nb2, O2, B2, mp2, P2, K2, ds2, hb2, ke2, mo2, cv2, F2, G2⟩ := d1
  refine ⟨nb2, O2, B2, mp2, P2, K2, ds2.mono (by omega), by omega, fun pl a e hh => ?_, mo2, fun i j q1 q2 q3 q4 q5 q6 => ?_, F.trans F2, G.trans G2⟩
  · exact ke2 pl a e (fun ⟨q1, q2⟩ => hh ⟨q1, vd_ar_sub q2 (by omega) (by omega) (by omega) (by omega)⟩)
  · have q := cc i j q1 q2 q3 q4 q5 q6
    exact cv2 i j q.1 q.2.1 q.2.2.1 q.2.2.2 q5 q6
theorem vd_dvS (hC : vd_DC M N ow fa lo lf W H p s q X mo L Z R pw ph) {half c dp : Nat} (hh : half = 1 ∨ half = 2 ∨ half = 4) (hc : 6144 * (half * half) + 49 ≤ c) (ih : vd_DvP M N ow fa lo lf W H s q X mo L Z R pw ph half c dp) : vd_DvP M N ow fa lo lf W H s q X mo L Z R pw ph (2 * half) (4 * c + 3) (dp + 1) := by
  intro x y nb n O B mp P K f g ds hx hy hK hnb hn
  obtain ⟨⟨hM, hN⟩, ⟨hp, h44⟩, ⟨hq, hnow⟩, hX, hW, kv, hZ, hR⟩ := id hC
  have e2 : ((2 * half : Nat) : Int) = 2 * (half : Int) := by omega
  have e16 : 8 * ((2 * half : Nat) : Int) = 16 * (half : Int) := by omega
  have q4 : 2 * half * (2 * half) = 4 * (half * half) := by rcases hh with rfl | rfl | rfl <;> rfl
  have q2 : 2 * half * half = 2 * (half * half) := by rcases hh with rfl | rfl | rfl <;> rfl
  have q3 : half * (2 * half) = 2 * (half * half) := by rcases hh with rfl | rfl | rfl <;> rfl
  have hq1 : 1 ≤ half * half := by rcases hh with rfl | rfl | rfl <;> decide
  have p1 : half = 1 ∨ half = 2 ∨ half = 4 ∨ half = 8 := by omega
  have p2 : 2 * half = 1 ∨ 2 * half = 2 ∨ 2 * half = 4 ∨ 2 * half = 8 := by omega
  have ex : (x : Int) + (half : Int) = ((x + half : Nat) : Int) := by omega
  have ey : (y : Int) + (half : Int) = ((y + half : Nat) : Int) := by omega
  have ex8 : 8 * (x : Int) + 8 * (half : Int) = 8 * ((x + half : Nat) : Int) := by omega
  have ey8 : 8 * (y : Int) + 8 * (half : Int) = 8 * ((y + half : Nat) : Int) := by omega
  rw [q4] at hnb
  by_cases ho : x < W ∧ y < H
  case neg =>
    obtain ⟨o1, o2, dt⟩ := vd_dvOut (c := 4 * c + 3) hC ds hx hy ho
    exact ⟨f, g, fun d Q => o1 _ Q, fun d Q => o2 _ Q, dt⟩
  obtain ⟨hxW, hyH⟩ := ho
  obtain ⟨i1, i2⟩ := vd_dvIn hC ds hxW hyH (vd_I ((2 * half : Nat) : Int)) (vd_I (8 * ((2 * half : Nat) : Int)))
  rw [e2] at i1
  rw [e16] at i2
  have i3 : ∀ d Q, vd_wp d 195 0 [.ref 63, .int (vd_I (8 * (x : Int))), .int (vd_I (8 * (y : Int))), .int (vd_I (16 * (half : Int))), vd_U, vd_U, vd_U, vd_U, vd_U, vd_U, vd_U, vd_U, vd_U] [] (vd_mf N g) Q = vd_wp d 195 40 [.ref 63, .int (vd_I (8 * (x : Int))), .int (vd_I (8 * (y : Int))), .int (vd_I (16 * (half : Int))), vd_U, vd_U, vd_U, vd_U, vd_U, vd_U, vd_U, vd_U, vd_U] [] (vd_mf N g) Q := fun d Q => by
    have c8 : ¬ (16 * (half : Int) = 8) := by omega
    rw [i2]
    simp (disch := omega) only [vd_S195_23 hN, vd_I_toInt, c8, if_false]
  obtain ⟨dn, hdn⟩ : ∃ dn : Int, dn = if y + half < H then 1 else 0 := ⟨_, rfl⟩
  obtain ⟨rt, hrt⟩ : ∃ rt : Int, rt = if x + half < W then 1 else 0 := ⟨_, rfl⟩
  obtain ⟨f1, g1, r, pc, x7, y6, y7, t1, t2, dc, rd1, F1, G1⟩ := vd_dvRead hM hN ds.1.2.1 ds.1.2.2.1 ds.1.1 (by omega) hxW hyH hh hdn hrt
  obtain ⟨ds1, F1b, G1b⟩ := ds.read hC rd1 F1 G1
  have dn1 : dn = 1 → y + half < H := fun e => by
    rw [hdn] at e
    split at e
    · assumption
    · exact absurd e (by decide)
  have dn0 : dn = 0 → ¬ (y + half < H) := fun e => by
    rw [hdn] at e
    split at e
    · exact absurd e (by decide)
    · assumption
  have rt1 : rt = 1 → x + half < W := fun e => by
    rw [hrt] at e
    split at e
    · assumption
    · exact absurd e (by decide)
  have rt0 : rt = 0 → ¬ (x + half < W) := fun e => by
    rw [hrt] at e
    split at e
    · exact absurd e (by decide)
    · assumption
  clear hdn hrt
  have o1 : ¬ ((1 : Int) = 0) := by decide
  rw [e2, show 8 * (2 * (half : Int)) = 16 * (half : Int) by omega]
  rcases dc with ⟨rfl, rfl, rfl, rfl⟩ | ⟨rfl, rfl, rfl, rfl⟩ | ⟨rfl, rfl, rfl, rfl⟩ | ⟨rfl, rfl, rfl, rfl⟩ | ⟨rfl, rfl, rfl, rfl⟩ | ⟨rfl, rfl⟩
  · -- whole
    obtain ⟨f2, g2, u1, u2, dt⟩ := vd_takeD (w := 2 * half) (h := 2 * half) hC ds1 hxW hyH p2 p2 (by omega) hx hy hK (by omega)
    rw [e2] at u1
    rw [e16] at u2
    refine ⟨f2, g2, fun d Q => ?_, fun d Q => ?_, dt.only F1b G1b (by omega) (by omega) ⟨Nat.le_refl _, Nat.le_refl _, Nat.le_refl _, Nat.le_refl _⟩ (fun i j h1 h2 h3 h4 _ _ => ⟨h1, h2, h3, h4⟩)⟩
    · rw [i1]
      refine (t1 (d + dp + 3) Q).trans ?_
      simp only [vd_S66_135 hM, vd_S66_140 hM, u1, vd_S66_143 hM, vd_S66_358 hM, vd_rs_v, vd_rs_n]
    · rw [i3]
      refine (t2 (d + dp + 5) Q).trans ?_
      simp (disch := omega) only [vd_S195_285 hN, vd_I_toInt, if_true, vd_S195_290 hN, vd_S195_295 hN, u2, vd_S195_298 hN, vd_S195_410 hN, vd_rs_v, vd_rs_n]
  · -- two rows
    have hy2 := dn1 rfl
    obtain ⟨f2, g2, u1, u2, nb2, O2, B2, mp2, P2, K2, ds2, hb2, ke2, mo2, cv2, F2, G2⟩ := vd_takeD (w := 2 * half) (h := half) hC ds1 hxW hyH p2 p1 (by omega) hx (by omega) (fun pl a e q1 q2 => hK pl a e q1 (vd_ar_sub q2 (by omega) (by omega) (by omega) (by omega))) (by omega)
    obtain ⟨f3, g3, u3, u4, dt⟩ := vd_takeD (x := x) (y := y + half) (w := 2 * half) (h := half) hC ds2 hxW hy2 p2 p1 (by omega) hx (by omega) (fun pl a e q1 q2 => by
      rw [ke2 pl a e (fun z => vd_ar_off q2 (by omega) z.2)]
      exact hK pl a e q1 (vd_ar_sub q2 (by omega) (by omega) (by omega) (by omega))) (by omega)
    rw [e2] at u1 u3
    rw [e16] at u2 u4
    rw [← ey] at u3
    rw [← ey8] at u4
    refine ⟨f3, g3, fun d Q => ?_, fun d Q => ?_, (vd_DT.then (c := 4 * c) (m := 2 * half * (2 * half)) (x := x) (y := y) (w := 2 * half) (h := 2 * half) rfl hb2 ke2 mo2 cv2 F2 G2 dt (by omega) (by omega) (by omega) (by omega) (fun i j _ _ _ _ _ _ => by omega)).only F1b G1b (by omega) (Nat.le_refl _) ⟨Nat.le_refl _, Nat.le_refl _, Nat.le_refl _, Nat.le_refl _⟩ (fun i j h1 h2 h3 h4 _ _ => ⟨h1, h2, h3, h4⟩)⟩
    · rw [i1]
      refine (t1 (d + dp + 3) Q).trans ?_
      simp (disch := omega) only [vd_S66_170 hM, vd_S66_176 hM, u1, vd_S66_179 hM, vd_I_add, vd_S66_188 hM, u3, vd_S66_191 hM, vd_S66_358 hM, vd_rs_v, vd_rs_n]
    · rw [i3]
      refine (t2 (d + dp + 5) Q).trans ?_
      simp (disch := omega) only [vd_S195_285 hN, vd_I_toInt, o1, if_false, vd_S195_301 hN, if_true, vd_S195_307 hN, vd_S195_313 hN, u2, vd_S195_316 hN, vd_S195_321 hN, vd_I_add, vd_S195_330 hN, u4, vd_S195_333 hN, vd_S195_410 hN, vd_rs_v, vd_rs_n]
  · -- the upper row alone
    have hy2 := dn0 rfl
    obtain ⟨f2, g2, u1, u2, dt⟩ := vd_takeD (w := 2 * half) (h := half) hC ds1 hxW hyH p2 p1 (by omega) hx (by omega) (fun pl a e q1 q2 => hK pl a e q1 (vd_ar_sub q2 (by omega) (by omega) (by omega) (by omega))) (by omega)
    rw [e2] at u1
    rw [e16] at u2
    refine ⟨f2, g2, fun d Q => ?_, fun d Q => ?_, dt.only F1b G1b (by omega) (by omega) (by omega) (fun i j h1 h2 h3 h4 h5 h6 => by omega)⟩
    · rw [i1]
      refine (t1 (d + dp + 3) Q).trans ?_
      simp only [vd_S66_266 hM, vd_S66_272 hM, u1, vd_S66_275 hM, vd_S66_358 hM, vd_rs_v, vd_rs_n]
    · rw [i3]
      refine (t2 (d + dp + 5) Q).trans ?_
      simp (disch := omega) only [vd_S195_285 hN, vd_I_toInt, o1, if_false, vd_S195_301 hN, if_true, vd_S195_307 hN, vd_S195_313 hN, u2, vd_S195_316 hN, vd_S195_410 hN, vd_rs_v, vd_rs_n]
  · -- two columns
    have hx2 := rt1 rfl
    obtain ⟨f2, g2, u1, u2, nb2, O2, B2, mp2, P2, K2, ds2, hb2, ke2, mo2, cv2, F2, G2⟩ := vd_takeD (w := half) (h := 2 * half) hC ds1 hxW hyH p1 p2 (by omega) (by omega) hy (fun pl a e q1 q2 => hK pl a e q1 (vd_ar_sub q2 (by omega) (by omega) (by omega) (by omega))) (by omega)
    obtain ⟨f3, g3, u3, u4, dt⟩ := vd_takeD (x := x + half) (y := y) (w := half) (h := 2 * half) hC ds2 hx2 hyH p1 p2 (by omega) (by omega) hy (fun pl a e q1 q2 => by
      rw [ke2 pl a e (fun z => vd_ar_off q2 (by omega) z.2)]
      exact hK pl a e q1 (vd_ar_sub q2 (by omega) (by omega) (by omega) (by omega))) (by omega)
    rw [e2] at u1 u3
    rw [e16] at u2 u4
    rw [← ex] at u3
    rw [← ex8] at u4
    refine ⟨f3, g3, fun d Q => ?_, fun d Q => ?_, (vd_DT.then (c := 4 * c) (m := 2 * half * (2 * half)) (x := x) (y := y) (w := 2 * half) (h := 2 * half) rfl hb2 ke2 mo2 cv2 F2 G2 dt (by omega) (by omega) (by omega) (by omega) (fun i j _ _ _ _ _ _ => by omega)).only F1b G1b (by omega) (Nat.le_refl _) ⟨Nat.le_refl _, Nat.le_refl _, Nat.le_refl _, Nat.le_refl _⟩ (fun i j h1 h2 h3 h4 _ _ => ⟨h1, h2, h3, h4⟩)⟩
    · rw [i1]
      refine (t1 (d + dp + 3) Q).trans ?_
      simp (disch := omega) only [vd_S66_218 hM, vd_S66_224 hM, u1, vd_S66_227 hM, vd_I_add, vd_S66_236 hM, u3, vd_S66_239 hM, vd_S66_358 hM, vd_rs_v, vd_rs_n]
    · rw [i3]
      refine (t2 (d + dp + 5) Q).trans ?_
      simp (disch := omega) only [vd_S195_285 hN, vd_I_toInt, show ¬ ((2 : Int) = 0) by decide, show ¬ ((2 : Int) = 1) by decide, o1, if_false, vd_S195_301 hN, vd_S195_336 hN, if_true, vd_S195_342 hN, vd_S195_348 hN, u2, vd_S195_351 hN, vd_S195_356 hN, vd_I_add, vd_S195_365 hN, u4, vd_S195_368 hN, vd_S195_410 hN, vd_rs_v, vd_rs_n]
  · -- the left column alone
    have hx2 := rt0 rfl
    obtain ⟨f2, g2, u1, u2, dt⟩ := vd_takeD (w := half) (h := 2 * half) hC ds1 hxW hyH p1 p2 (by omega) (by omega) hy (fun pl a e q1 q2 => hK pl a e q1 (vd_ar_sub q2 (by omega) (by omega) (by omega) (by omega))) (by omega)
    rw [e2] at u1
    rw [e16] at u2
    refine ⟨f2, g2, fun d Q => ?_, fun d Q => ?_, dt.only F1b G1b (by omega) (by omega) (by omega) (fun i j h1 h2 h3 h4 h5 h6 => by omega)⟩
    · rw [i1]
      refine (t1 (d + dp + 3) Q).trans ?_
      simp only [vd_S66_302 hM, vd_S66_308 hM, u1, vd_S66_311 hM, vd_S66_358 hM, vd_rs_v, vd_rs_n]
    · rw [i3]
      refine (t2 (d + dp + 5) Q).trans ?_
      simp (disch := omega) only [vd_S195_285 hN, vd_I_toInt, show ¬ ((2 : Int) = 0) by decide, show ¬ ((2 : Int) = 1) by decide, if_false, vd_S195_301 hN, vd_S195_336 hN, if_true, vd_S195_342 hN, vd_S195_348 hN, u2, vd_S195_351 hN, vd_S195_410 hN, vd_rs_v, vd_rs_n]
  · -- four
    obtain ⟨f2, g2, u1, u2, nb2, O2, B2, mp2, P2, K2, ds2, hb2, ke2, mo2, cv2, F2, G2⟩ := ih x y nb (n + 3) O B mp P K f1 g1 ds1 (by omega) (by omega) (fun pl a e z1 z2 => hK pl a e z1 (vd_ar_sub z2 (by omega) (by omega) (by omega) (by omega))) (by omega) (by omega)
    obtain ⟨f3, g3, u3, u4, nb3, O3, B3, mp3, P3, K3, ds3, hb3, ke3, mo3, cv3, F3, G3⟩ := ih (x + half) y nb2 (n + 3 + c) O2 B2 mp2 P2 K2 f2 g2 ds2 (by omega) (by omega) (fun pl a e z1 z2 => by
      rw [ke2 pl a e (fun z => vd_ar_off z2 (by omega) z.2)]
      exact hK pl a e z1 (vd_ar_sub z2 (by omega) (by omega) (by omega) (by omega))) (by omega) (by omega)
    obtain ⟨f4, g4, u5, u6, nb4, O4, B4, mp4, P4, K4, ds4, hb4, ke4, mo4, cv4, F4, G4⟩ := ih x (y + half) nb3 (n + 3 + c + c) O3 B3 mp3 P3 K3 f3 g3 ds3 (by omega) (by omega) (fun pl a e z1 z2 => by
      rw [ke3 pl a e (fun z => vd_ar_off z2 (by omega) z.2), ke2 pl a e (fun z => vd_ar_off z2 (by omega) z.2)]
      exact hK pl a e z1 (vd_ar_sub z2 (by omega) (by omega) (by omega) (by omega))) (by omega) (by omega)
    obtain ⟨f5, g5, u7, u8, nb5, O5, B5, mp5, P5, K5, ds5, hb5, ke5, mo5, cv5, F5, G5⟩ := ih (x + half) (y + half) nb4 (n + 3 + c + c + c) O4 B4 mp4 P4 K4 f4 g4 ds4 (by omega) (by omega) (fun pl a e z1 z2 => by
      rw [ke4 pl a e (fun z => vd_ar_off z2 (by omega) z.2), ke3 pl a e (fun z => vd_ar_off z2 (by omega) z.2), ke2 pl a e (fun z => vd_ar_off z2 (by omega) z.2)]
      exact hK pl a e z1 (vd_ar_sub z2 (by omega) (by omega) (by omega) (by omega))) (by omega) (by omega)
    rw [← ex] at u3 u7
    rw [← ey] at u5 u7
    rw [← ex8] at u4 u8
    rw [← ey8] at u6 u8
    refine ⟨f5, g5, fun d Q => ?_, fun d Q => ?_, nb5, O5, B5, mp5, P5, K5, ds5.mono (by omega), by omega, fun pl a e z => ?_, fun i j z => mo5 i j (mo4 i j (mo3 i j (mo2 i j z))), fun i j z1 z2 z3 z4 z5 z6 => ?_, (((F1b.trans F2).trans F3).trans F4).trans F5, (((G1b.trans G2).trans G3).trans G4).trans G5⟩
    · rw [i1]
      refine (t1 (d + dp + 3) Q).trans ?_
      simp (disch := omega) only [vd_S66_314 hM, vd_S66_319 hM, u1, vd_S66_322 hM, vd_I_add, vd_S66_330 hM, u3, vd_S66_333 hM, vd_S66_341 hM, u5, vd_S66_344 hM, vd_S66_355 hM, u7, vd_S66_358 hM, vd_rs_v, vd_rs_n]
    · rw [i3]
      refine (t2 (d + dp + 5) Q).trans ?_
      have a0 : 8 * (x : Int) + (0 - 0 / 2 * 2) * (8 * (half : Int)) = 8 * (x : Int) := by omega
      have b0 : 8 * (y : Int) + 0 / 2 * (8 * (half : Int)) = 8 * (y : Int) := by omega
      have a1 : 8 * (x : Int) + (1 - 1 / 2 * 2) * (8 * (half : Int)) = 8 * (x : Int) + 8 * (half : Int) := by omega
      have b1 : 8 * (y : Int) + 1 / 2 * (8 * (half : Int)) = 8 * (y : Int) := by omega
      have a2 : 8 * (x : Int) + (2 - 2 / 2 * 2) * (8 * (half : Int)) = 8 * (x : Int) := by omega
      have b2 : 8 * (y : Int) + 2 / 2 * (8 * (half : Int)) = 8 * (y : Int) + 8 * (half : Int) := by omega
      have a3 : 8 * (x : Int) + (3 - 3 / 2 * 2) * (8 * (half : Int)) = 8 * (x : Int) + 8 * (half : Int) := by omega
      have b3 : 8 * (y : Int) + 3 / 2 * (8 * (half : Int)) = 8 * (y : Int) + 8 * (half : Int) := by omega
      simp (disch := omega) only [vd_S195_285 hN, vd_I_toInt, show ¬ ((3 : Int) = 0) by decide, show ¬ ((3 : Int) = 1) by decide, show ¬ ((3 : Int) = 2) by decide, if_false, vd_S195_301 hN, vd_S195_336 hN, vd_S195_371 hN]
      rw [vd_S195_374 hN]
      simp (disch := omega) only [vd_I_toInt, show (0 : Int) < 4 by decide, if_true, vd_S195_380 hN, vd_I_div, vd_I_mul, vd_I_sub, vd_I_add, a0, b0, vd_S195_401 hN, u2, vd_S195_404 hN, show (0 + 1 : Int) = 1 from rfl, vd_rs_v, vd_rs_n]
      rw [vd_S195_374 hN]
      simp (disch := omega) only [vd_I_toInt, show (1 : Int) < 4 by decide, if_true, vd_S195_380 hN, vd_I_div, vd_I_mul, vd_I_sub, vd_I_add, a1, b1, vd_S195_401 hN, u4, vd_S195_404 hN, show (1 + 1 : Int) = 2 from rfl, vd_rs_v, vd_rs_n]
      rw [vd_S195_374 hN]
      simp (disch := omega) only [vd_I_toInt, show (2 : Int) < 4 by decide, if_true, vd_S195_380 hN, vd_I_div, vd_I_mul, vd_I_sub, vd_I_add, a2, b2, vd_S195_401 hN, u6, vd_S195_404 hN, show (2 + 1 : Int) = 3 from rfl, vd_rs_v, vd_rs_n]
      rw [vd_S195_374 hN]
      simp (disch := omega) only [vd_I_toInt, show (3 : Int) < 4 by decide, if_true, vd_S195_380 hN, vd_I_div, vd_I_mul, vd_I_sub, vd_I_add, a3, b3, vd_S195_401 hN, u8, vd_S195_404 hN, show (3 + 1 : Int) = 4 from rfl, vd_rs_v, vd_rs_n]
      rw [vd_S195_374 hN]
      simp (disch := omega) only [vd_I_toInt, Int.lt_irrefl, if_false, vd_S195_410 hN]
    · have sub : ∀ {x' y' : Nat}, x ≤ x' → x' + half ≤ x + 2 * half → y ≤ y' → y' + half ≤ y + 2 * half → ¬ (pl < 3 ∧ vd_ar pl x' y' half half a e) := fun h1 h2 h3 h4 zz => z ⟨zz.1, vd_ar_sub zz.2 h1 h2 h3 h4⟩
      rw [ke5 pl a e (sub (by omega) (by omega) (by omega) (by omega)), ke4 pl a e (sub (by omega) (by omega) (by omega) (by omega)), ke3 pl a e (sub (by omega) (by omega) (by omega) (by omega)), ke2 pl a e (sub (by omega) (by omega) (by omega) (by omega))]
    · by_cases c1 : i < x + half
      · by_cases c2 : j < y + half
        · exact mo5 i j (mo4 i j (mo3 i j (cv2 i j (by omega) (by omega) (by omega) (by omega) z5 z6)))
        · exact mo5 i j (cv4 i j (by omega) (by omega) (by omega) (by omega) z5 z6)
      · by_cases c2 : j < y + half
        · exact mo5 i j (mo4 i j (cv3 i j (by omega) (by omega) (by omega) (by omega) z5 z6))
        · exact cv5 i j (by omega) (by omega) (by omega) (by omega) z5 z6
theorem vd_dv8 (hC : vd_DC M N ow fa lo lf W H p s q X mo L Z R pw ph) : vd_DvP M N ow fa lo lf W H s q X mo L Z R pw ph 8 399551 4 := vd_dvS (half := 4) hC (by decide) (by decide) (vd_dvS (half := 2) hC (by decide) (by decide) (vd_dvS (half := 1) hC (by decide) (by decide) (vd_dv1 hC)))
end VDDW
