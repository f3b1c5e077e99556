/-! ===== the reference's passes ===== -/
section VDPR
variable {M N : vd_M} {W H : Nat} {O : Nat → Nat → Option Nat} {B : Nat → Nat → Int} {S : Nat → Int} {mo : Int} {L : Nat → Nat → Nat → Int} {r : Int} {x y w h : Nat}
def vd_QB (W H : Nat) (O : Nat → Nat → Option Nat) (B : Nat → Nat → Int) (S : Nat → Int) (mo : Int) (L : Nat → Nat → Nat → Int) (x y w h : Nat) (g : Nat → Nat → Int32) : Prop := vd_GB W H O B g ∧ (∀ j, j < 3 → g 84 j = vd_I (S j)) ∧ vd_by g x y w h ∧ vd_LB W H mo L g
theorem vd_QB.keep {g g' : Nat → Nat → Int32} (k : vd_QB W H O B S mo L x y w h g) (hg : vd_gF g g') : vd_QB W H O B S mo L x y w h g' := by
  obtain ⟨k1, k2, ⟨b1, b2, b3, b4⟩, k4⟩ := k
  refine ⟨k1.keep fun c i q => hg c i (by omega) (by omega) (by omega), fun j hj => by rw [hg _ _ (by omega) (by omega) (by omega)]; exact k2 j hj, ⟨?_, ?_, ?_, ?_⟩, k4.keep fun c i q => hg c i (by omega) (by omega) (by omega)⟩ <;> rw [hg _ _ (by omega) (by omega) (by omega)] <;> assumption
theorem vd_oo_c (hN : vd_SR N) : (vd_oo N 102 ∧ vd_oo N 103 ∧ vd_oo N 104) ∧ (vd_oo N 76 ∧ vd_oo N 77 ∧ vd_oo N 78) := ⟨⟨⟨by decide, hN.k102, hN.l102⟩, ⟨by decide, hN.k103, hN.l103⟩, ⟨by decide, hN.k104, hN.l104⟩⟩, ⟨by decide, hN.k76, hN.l76⟩, ⟨by decide, hN.k77, hN.l77⟩, ⟨by decide, hN.k78, hN.l78⟩⟩
theorem vd_T212a (hN : vd_SR N) {g : Nat → Nat → Int32} {s : vd_FT} (k : vd_QB W H O B S mo L x y w h g) (hSv : ∀ j, j < 3 → S j = 0 ∨ S j = 1) (hBV : ∀ i j k, O i j = some k → vd_BV (B k)) (w1 : W ≤ 24) (w2 : H ≤ 24) (hv : vd_FV s) (hs : vd_FSB s g) (hx : x < 24) (hy : y < 24) (hw : w ≤ 8) (hh : h ≤ 8) (r0 : 0 ≤ r) (r1 : r ≤ 2) {i : Nat} (hi : i < 8) (x2 : Int32) (a4 : Value) : ∃ g' a4', (∀ d Q, vd_wp (d + 2) 212 22 [.ref 63, .int (vd_I r), .int x2, .int (vd_I (i : Int)), a4] [] (vd_mf N g) Q = vd_wp (d + 2) 212 22 [.ref 63, .int (vd_I r), .int x2, .int (vd_I ((i + 1 : Nat) : Int)), a4'] [] (vd_mf N g') Q) ∧ vd_FSB (vd_sp1 W H O B S r 1 x y w h i s) g' ∧ vd_gF g g' := by
  have ci : (i : Int) < 8 := by omega
  have ei : (i : Int) + 1 = ((i + 1 : Nat) : Int) := by omega
  have P209 := fun d Q => vd_P209 hN k.1 k.2.2.1 w1 w2 hx hy hw hh hi d Q
  cases e : vd_at W H O ((x : Int) + vd_dx w i) ((y : Int) + vd_dy h i) with
  | none =>
    rw [e] at P209
    refine ⟨g, .int (vd_I (-1)), fun d Q => ?_, ?_, fun _ _ _ _ _ => rfl⟩
    · conv => lhs; rw [vd_S212_22 hN]
      simp (disch := omega) only [vd_S212_28 hN, vd_S212_30 hN, vd_S212_33 hN, vd_S212_69 hN, P209, vd_nu, vd_rs_v, vd_rs_n, vd_I_toInt, ci, show (-1 : Int) < 0 by decide, if_true, vd_I_add, ei]
    · unfold vd_sp1
      rw [e]
      exact hs
  | some kk =>
    rw [e] at P209
    obtain ⟨i', j', ea, eb, hi', hj', hO⟩ := vd_at_some e
    rw [ea, eb] at P209
    have hb := hBV _ _ _ hO
    have q := k.1.2.2 i' j' kk hi' hj' hO
    have e90 := q.2.1.2.2.2
    have hq := vd_ix hi' hj'
    have hy2 : W * H ≤ 24 * 24 := Nat.mul_le_mul w1 w2
    rw [vd_ixN] at P209
    have cn : ¬ (((W * j' + i' : Nat) : Int) < 0) := by omega
    by_cases c7 : B kk 7 < 0
    · rw [if_pos c7] at e90
      obtain ⟨g', p1, p2, p3⟩ := vd_P213 (S := S) (U := W * j' + i') (b := B kk) (o1 := 102) (o2 := 103) (o3 := 104) hN (vd_oo_c hN).1.1 (vd_oo_c hN).1.2.1 (vd_oo_c hN).1.2.2 ⟨⟨q.2.2.1.1, q.2.2.1.2.1⟩, q.2.2.2.1.1, q.2.2.2.1.2.1, q.2.2.2.1.2.2.1, q.2.2.2.1.2.2.2⟩ hb.ov hv hs (by omega) r0 r1
      refine ⟨g', .int (vd_I ((W * j' + i' : Nat) : Int)), fun d Q => ?_, ?_, p3⟩
      · conv => lhs; rw [vd_S212_22 hN]
        simp (disch := omega) only [vd_S212_28 hN, vd_S212_30 hN, vd_S212_33 hN, vd_S212_40 hN, vd_S212_46 hN, vd_S212_50 hN, vd_S212_66 hN, vd_S212_69 hN, P209, p1, vd_nu, vd_rs_v, vd_rs_n, vd_I_toInt, ci, cn, Int.toNat_natCast, e90, show ¬ ((1 : Int) = 0) by decide, if_true, if_false, vd_I_add, ei]
      · unfold vd_sp1
        rw [e]
        exact p2
    · rw [if_neg c7] at e90
      have h9 := hb.2.2.2.2.2.2 (by omega)
      refine ⟨g, .int (vd_I ((W * j' + i' : Nat) : Int)), fun d Q => ?_, ?_, fun _ _ _ _ _ => rfl⟩
      · conv => lhs; rw [vd_S212_22 hN]
        simp (disch := omega) only [vd_S212_28 hN, vd_S212_30 hN, vd_S212_33 hN, vd_S212_40 hN, vd_S212_46 hN, vd_S212_69 hN, P209, vd_nu, vd_rs_v, vd_rs_n, vd_I_toInt, ci, cn, Int.toNat_natCast, e90, eq_self, if_true, if_false, vd_I_add, ei]
      · unfold vd_sp1
        rw [e]
        show vd_FSB (vd_off S r 1 (B kk) s) g
        rw [vd_off_n h9.1 h9.2.1]
        exact hs
theorem vd_L212a (hN : vd_SR N) (hSv : ∀ j, j < 3 → S j = 0 ∨ S j = 1) (hBV : ∀ i j k, O i j = some k → vd_BV (B k)) (w1 : W ≤ 24) (w2 : H ≤ 24) (hx : x < 24) (hy : y < 24) (hw : w ≤ 8) (hh : h ≤ 8) (r0 : 0 ≤ r) (r1 : r ≤ 2) (x2 : Int32) : ∀ (m i : Nat) (g : Nat → Nat → Int32) (s : vd_FT) (a4 : Value), i + m = 8 → vd_QB W H O B S mo L x y w h g → vd_FV s → vd_FSB s g → ∃ g' a4', (∀ d Q, vd_wp (d + 2) 212 22 [.ref 63, .int (vd_I r), .int x2, .int (vd_I (i : Int)), a4] [] (vd_mf N g) Q = vd_wp (d + 2) 212 75 [.ref 63, .int (vd_I r), .int x2, .int (vd_I 8), a4'] [] (vd_mf N g') Q) ∧ vd_FSB (vd_pfl W H O B S r 1 x y w h m i s) g' ∧ vd_gF g g' := by
  intro m
  induction m with
  | zero =>
    intro i g s a4 hi k hv hs
    have ei : (i : Int) = 8 := by omega
    refine ⟨g, a4, fun d Q => ?_, hs, fun _ _ _ _ _ => rfl⟩
    rw [vd_S212_22 hN, ei]
    simp (disch := omega) only [vd_I_toInt, Int.lt_irrefl, if_false]
  | succ m ih =>
    intro i g s a4 hi k hv hs
    obtain ⟨g1, a4', p1, p2, p3⟩ := vd_T212a hN k hSv hBV w1 w2 hv hs hx hy hw hh r0 r1 (i := i) (by omega) x2 a4
    obtain ⟨g2, a4'', t1, t2, t3⟩ := ih (i + 1) g1 _ a4' (by omega) (k.keep p3) (vd_sp1_V (fun i j kk hO => (hBV i j kk hO).ov) hv) p2
    exact ⟨g2, a4'', fun d Q => (p1 d Q).trans (t1 d Q), t2, p3.trans t3⟩
/-- a pass -/
theorem vd_B212a (hN : vd_SR N) (hSv : ∀ j, j < 3 → S j = 0 ∨ S j = 1) (hBV : ∀ i j k, O i j = some k → vd_BV (B k)) (hL : vd_LV W H mo L) (w1 : W ≤ 24) (w2 : H ≤ 24) (hx : x < W) (hy : y < H) (hw : w ≤ 8) (hh : h ≤ 8) (r0 : 0 ≤ r) (r1 : r ≤ 2) {g : Nat → Nat → Int32} {s : vd_FT} (a4 : Value) (k : vd_QB W H O B S mo L x y w h g) (hv : vd_FV s) (hs : vd_FSB s g) : ∃ g' a4', (∀ d Q, vd_wp (d + 2) 212 22 [.ref 63, .int (vd_I r), .int (vd_I ((W * y + x : Nat) : Int)), .int (vd_I 0), a4] [] (vd_mf N g) Q = vd_wp (d + 2) 212 100 [.ref 63, .int (vd_I r), .int (vd_I ((W * y + x : Nat) : Int)), .int (vd_I 8), a4'] [] (vd_mf N g') Q) ∧ vd_FSB (vd_pas W H O B mo L S r 1 x y w h s) g' ∧ vd_gF g g' := by
  obtain ⟨g1, a4', p1, p2, p3⟩ := vd_L212a hN hSv hBV w1 w2 (by omega) (by omega) hw hh r0 r1 (vd_I ((W * y + x : Nat) : Int)) 8 0 g s a4 rfl k hv hs
  have i0 : ((0 : Nat) : Int) = 0 := rfl
  rw [i0] at p1
  have hV := vd_pfl_V (W := W) (H := H) (S := S) (r := r) (sm := 1) (x := x) (y := y) (w := w) (h := h) (fun i j kk hO => (hBV i j kk hO).ov) 8 0 hv
  have k1 := k.keep p3
  unfold vd_pas vd_lst
  rcases hL.1 with c | c
  · refine ⟨g1, a4', fun d Q => ?_, by rw [if_neg (by omega)]; exact p2, p3⟩
    rw [p1]
    simp (disch := omega) only [vd_S212_75 hN, k1.2.2.2.1, c, vd_I_toInt, eq_self, if_true]
  · have hq := vd_ix hx hy
    have hy2 : W * H ≤ 24 * 24 := Nat.mul_le_mul w1 w2
    obtain ⟨g2, t1, t2, t3⟩ := vd_P213 (S := S) (U := W * y + x) (b := L x y) (o1 := 76) (o2 := 77) (o3 := 78) hN (vd_oo_c hN).2.1 (vd_oo_c hN).2.2.1 (vd_oo_c hN).2.2.2 (k1.2.2.2.2 c x y hx hy) (hL.2 c x y hx hy) hV p2 (by omega) r0 r1
    refine ⟨g2, a4', fun d Q => ?_, by rw [if_pos c]; exact t2, p3.trans t3⟩
    rw [p1]
    simp (disch := omega) only [vd_S212_75 hN, vd_S212_82 hN, vd_S212_97 hN, k1.2.2.2.1, c, vd_I_toInt, show ¬ ((1 : Int) = 0) by decide, if_false, t1, vd_rs_v, vd_rs_n]
theorem vd_T212b (hN : vd_SR N) {g : Nat → Nat → Int32} {s : vd_FT} (k : vd_QB W H O B S mo L x y w h g) (hSv : ∀ j, j < 3 → S j = 0 ∨ S j = 1) (hBV : ∀ i j k, O i j = some k → vd_BV (B k)) (w1 : W ≤ 24) (w2 : H ≤ 24) (hv : vd_FV s) (hs : vd_FSB s g) (hx : x < 24) (hy : y < 24) (hw : w ≤ 8) (hh : h ≤ 8) (r0 : 0 ≤ r) (r1 : r ≤ 2) {i : Nat} (hi : i < 8) (x2 : Int32) (a4 : Value) : ∃ g' a4', (∀ d Q, vd_wp (d + 2) 212 102 [.ref 63, .int (vd_I r), .int x2, .int (vd_I (i : Int)), a4] [] (vd_mf N g) Q = vd_wp (d + 2) 212 102 [.ref 63, .int (vd_I r), .int x2, .int (vd_I ((i + 1 : Nat) : Int)), a4'] [] (vd_mf N g') Q) ∧ vd_FSB (vd_sp1 W H O B S r 0 x y w h i s) g' ∧ vd_gF g g' := by
  have ci : (i : Int) < 8 := by omega
  have ei : (i : Int) + 1 = ((i + 1 : Nat) : Int) := by omega
  have P209 := fun d Q => vd_P209 hN k.1 k.2.2.1 w1 w2 hx hy hw hh hi d Q
  cases e : vd_at W H O ((x : Int) + vd_dx w i) ((y : Int) + vd_dy h i) with
  | none =>
    rw [e] at P209
    refine ⟨g, .int (vd_I (-1)), fun d Q => ?_, ?_, fun _ _ _ _ _ => rfl⟩
    · conv => lhs; rw [vd_S212_102 hN]
      simp (disch := omega) only [vd_S212_108 hN, vd_S212_110 hN, vd_S212_113 hN, vd_S212_149 hN, P209, vd_nu, vd_rs_v, vd_rs_n, vd_I_toInt, ci, show (-1 : Int) < 0 by decide, if_true, vd_I_add, ei]
    · unfold vd_sp1
      rw [e]
      exact hs
  | some kk =>
    rw [e] at P209
    obtain ⟨i', j', ea, eb, hi', hj', hO⟩ := vd_at_some e
    rw [ea, eb] at P209
    have hb := hBV _ _ _ hO
    have q := k.1.2.2 i' j' kk hi' hj' hO
    have e90 := q.2.1.2.2.2
    have hq := vd_ix hi' hj'
    have hy2 : W * H ≤ 24 * 24 := Nat.mul_le_mul w1 w2
    rw [vd_ixN] at P209
    have cn : ¬ (((W * j' + i' : Nat) : Int) < 0) := by omega
    by_cases c7 : B kk 7 < 0
    · rw [if_pos c7] at e90
      obtain ⟨g', p1, p2, p3⟩ := vd_P215 (S := S) (U := W * j' + i') (b := B kk) (o1 := 102) (o2 := 103) (o3 := 104) hN (vd_oo_c hN).1.1 (vd_oo_c hN).1.2.1 (vd_oo_c hN).1.2.2 k.2.1 hSv ⟨⟨q.2.2.1.1, q.2.2.1.2.1⟩, q.2.2.2.1.1, q.2.2.2.1.2.1, q.2.2.2.1.2.2.1, q.2.2.2.1.2.2.2⟩ hb.ov hv hs (by omega) r0 r1
      refine ⟨g', .int (vd_I ((W * j' + i' : Nat) : Int)), fun d Q => ?_, ?_, p3⟩
      · conv => lhs; rw [vd_S212_102 hN]
        simp (disch := omega) only [vd_S212_108 hN, vd_S212_110 hN, vd_S212_113 hN, vd_S212_120 hN, vd_S212_126 hN, vd_S212_130 hN, vd_S212_146 hN, vd_S212_149 hN, P209, p1, vd_nu, vd_rs_v, vd_rs_n, vd_I_toInt, ci, cn, Int.toNat_natCast, e90, show ¬ ((1 : Int) = 0) by decide, if_true, if_false, vd_I_add, ei]
      · unfold vd_sp1
        rw [e]
        exact p2
    · rw [if_neg c7] at e90
      have h9 := hb.2.2.2.2.2.2 (by omega)
      refine ⟨g, .int (vd_I ((W * j' + i' : Nat) : Int)), fun d Q => ?_, ?_, fun _ _ _ _ _ => rfl⟩
      · conv => lhs; rw [vd_S212_102 hN]
        simp (disch := omega) only [vd_S212_108 hN, vd_S212_110 hN, vd_S212_113 hN, vd_S212_120 hN, vd_S212_126 hN, vd_S212_149 hN, P209, vd_nu, vd_rs_v, vd_rs_n, vd_I_toInt, ci, cn, Int.toNat_natCast, e90, eq_self, if_true, if_false, vd_I_add, ei]
      · unfold vd_sp1
        rw [e]
        show vd_FSB (vd_off S r 0 (B kk) s) g
        rw [vd_off_n h9.1 h9.2.1]
        exact hs
theorem vd_L212b (hN : vd_SR N) (hSv : ∀ j, j < 3 → S j = 0 ∨ S j = 1) (hBV : ∀ i j k, O i j = some k → vd_BV (B k)) (w1 : W ≤ 24) (w2 : H ≤ 24) (hx : x < 24) (hy : y < 24) (hw : w ≤ 8) (hh : h ≤ 8) (r0 : 0 ≤ r) (r1 : r ≤ 2) (x2 : Int32) : ∀ (m i : Nat) (g : Nat → Nat → Int32) (s : vd_FT) (a4 : Value), i + m = 8 → vd_QB W H O B S mo L x y w h g → vd_FV s → vd_FSB s g → ∃ g' a4', (∀ d Q, vd_wp (d + 2) 212 102 [.ref 63, .int (vd_I r), .int x2, .int (vd_I (i : Int)), a4] [] (vd_mf N g) Q = vd_wp (d + 2) 212 155 [.ref 63, .int (vd_I r), .int x2, .int (vd_I 8), a4'] [] (vd_mf N g') Q) ∧ vd_FSB (vd_pfl W H O B S r 0 x y w h m i s) g' ∧ vd_gF g g' := by
  intro m
  induction m with
  | zero =>
    intro i g s a4 hi k hv hs
    have ei : (i : Int) = 8 := by omega
    refine ⟨g, a4, fun d Q => ?_, hs, fun _ _ _ _ _ => rfl⟩
    rw [vd_S212_102 hN, ei]
    simp (disch := omega) only [vd_I_toInt, Int.lt_irrefl, if_false]
  | succ m ih =>
    intro i g s a4 hi k hv hs
    obtain ⟨g1, a4', p1, p2, p3⟩ := vd_T212b hN k hSv hBV w1 w2 hv hs hx hy hw hh r0 r1 (i := i) (by omega) x2 a4
    obtain ⟨g2, a4'', t1, t2, t3⟩ := ih (i + 1) g1 _ a4' (by omega) (k.keep p3) (vd_sp1_V (fun i j kk hO => (hBV i j kk hO).ov) hv) p2
    exact ⟨g2, a4'', fun d Q => (p1 d Q).trans (t1 d Q), t2, p3.trans t3⟩
/-- a pass -/
theorem vd_B212b (hN : vd_SR N) (hSv : ∀ j, j < 3 → S j = 0 ∨ S j = 1) (hBV : ∀ i j k, O i j = some k → vd_BV (B k)) (hL : vd_LV W H mo L) (w1 : W ≤ 24) (w2 : H ≤ 24) (hx : x < W) (hy : y < H) (hw : w ≤ 8) (hh : h ≤ 8) (r0 : 0 ≤ r) (r1 : r ≤ 2) {g : Nat → Nat → Int32} {s : vd_FT} (a4 : Value) (k : vd_QB W H O B S mo L x y w h g) (hv : vd_FV s) (hs : vd_FSB s g) : ∃ g' a4', (∀ d Q, vd_wp (d + 2) 212 102 [.ref 63, .int (vd_I r), .int (vd_I ((W * y + x : Nat) : Int)), .int (vd_I 0), a4] [] (vd_mf N g) Q = vd_wp (d + 2) 212 180 [.ref 63, .int (vd_I r), .int (vd_I ((W * y + x : Nat) : Int)), .int (vd_I 8), a4'] [] (vd_mf N g') Q) ∧ vd_FSB (vd_pas W H O B mo L S r 0 x y w h s) g' ∧ vd_gF g g' := by
  obtain ⟨g1, a4', p1, p2, p3⟩ := vd_L212b hN hSv hBV w1 w2 (by omega) (by omega) hw hh r0 r1 (vd_I ((W * y + x : Nat) : Int)) 8 0 g s a4 rfl k hv hs
  have i0 : ((0 : Nat) : Int) = 0 := rfl
  rw [i0] at p1
  have hV := vd_pfl_V (W := W) (H := H) (S := S) (r := r) (sm := 0) (x := x) (y := y) (w := w) (h := h) (fun i j kk hO => (hBV i j kk hO).ov) 8 0 hv
  have k1 := k.keep p3
  unfold vd_pas vd_lst
  rcases hL.1 with c | c
  · refine ⟨g1, a4', fun d Q => ?_, by rw [if_neg (by omega)]; exact p2, p3⟩
    rw [p1]
    simp (disch := omega) only [vd_S212_155 hN, k1.2.2.2.1, c, vd_I_toInt, eq_self, if_true]
  · have hq := vd_ix hx hy
    have hy2 : W * H ≤ 24 * 24 := Nat.mul_le_mul w1 w2
    obtain ⟨g2, t1, t2, t3⟩ := vd_P215 (S := S) (U := W * y + x) (b := L x y) (o1 := 76) (o2 := 77) (o3 := 78) hN (vd_oo_c hN).2.1 (vd_oo_c hN).2.2.1 (vd_oo_c hN).2.2.2 k1.2.1 hSv (k1.2.2.2.2 c x y hx hy) (hL.2 c x y hx hy) hV p2 (by omega) r0 r1
    refine ⟨g2, a4', fun d Q => ?_, by rw [if_pos c]; exact t2, p3.trans t3⟩
    rw [p1]
    simp (disch := omega) only [vd_S212_155 hN, vd_S212_162 hN, vd_S212_177 hN, k1.2.2.2.1, c, vd_I_toInt, show ¬ ((1 : Int) = 0) by decide, if_false, t1, vd_rs_v, vd_rs_n]
theorem vd_A212 (hN : vd_SR N) (hSv : ∀ j, j < 3 → S j = 0 ∨ S j = 1) (hBV : ∀ i j k, O i j = some k → vd_BV (B k)) (hL : vd_LV W H mo L) (w1 : W ≤ 24) (w2 : H ≤ 24) (hx : x < W) (hy : y < H) (hw : w ≤ 8) (hh : h ≤ 8) (r0 : 0 ≤ r) (r1 : r ≤ 2) {g : Nat → Nat → Int32} (k : vd_QB W H O B S mo L x y w h g) : ∃ (g' : Nat → Nat → Int32) (a4 : Value), (∀ d Q, vd_wp (d + 2) 212 0 [.ref 63, .int (vd_I r), vd_U, vd_U, vd_U] [] (vd_mf N g) Q = vd_wp (d + 2) 212 180 [.ref 63, .int (vd_I r), .int (vd_I ((W * y + x : Nat) : Int)), .int (vd_I 8), a4] [] (vd_mf N g') Q) ∧ vd_FSB (vd_fnd W H O B mo L S r x y w h) g' ∧ vd_gF g g' := by
  have F0 : vd_gF g (vd_up g 63 116 (vd_I 0)) := fun c i q1 q2 q3 => vd_up_ne (by omega)
  have S0 : vd_FSB (0, (0, 0), (0, 0)) (vd_up g 63 116 (vd_I 0)) := ⟨vd_up_eq _ _ _ _, fun q => absurd q (by show ¬ ((1 : Int) ≤ 0); decide), fun q => absurd q (by show ¬ ((2 : Int) ≤ 0); decide)⟩
  obtain ⟨c1, c2, c3, c4⟩ := k.2.2.1
  have hW := k.1.1.1
  obtain ⟨g1, a4, p1, p2, p3⟩ := vd_B212a hN hSv hBV hL w1 w2 hx hy hw hh r0 r1 vd_U (k.keep F0) vd_FV0 S0
  have hV1 := vd_pas_V (W := W) (H := H) (S := S) (r := r) (sm := 1) (w := w) (h := h) (fun i j kk hO => (hBV i j kk hO).ov) hL hx hy vd_FV0
  obtain ⟨g2, a4', t1, t2, t3⟩ := vd_B212b hN hSv hBV hL w1 w2 hx hy hw hh r0 r1 a4 ((k.keep F0).keep p3) hV1 p2
  refine ⟨g2, a4', fun d Q => ?_, t2, (F0.trans p3).trans t3⟩
  simp (disch := omega) only [vd_S212_0 hN, c3, c4, hW, vd_I_mul, vd_I_add, vd_ixN, p1, vd_S212_100 hN, t1]
end VDPR
