/-! ===== collect and find, whole ===== -/
def vd_col (W H : Nat) (O : Nat → Nat → Option Nat) (B : Nat → Nat → Int) (mo : Int) (L : Nat → Nat → Nat → Int) (S : Nat → Int) (r fi pw ph : Int) (x y w h : Nat) : (Int × Int) × (Int × Int) := (vd_nz fi pw ph x y w h (vd_fnd W H O B mo L S r x y w h).2.1, vd_nz fi pw ph x y w h (vd_fnd W H O B mo L S r x y w h).2.2)
section VDCL
variable {M N : vd_M} {ow fa lo lf W H nb : Nat} {O : Nat → Nat → Option Nat} {B : Nat → Nat → Int} {S : Nat → Int} {mo : Int} {L : Nat → Nat → Nat → Int} {r fi pw ph : Int} {x y w h : Nat}
theorem vd_C90 (hM : vd_SC M ow fa lo lf) {f : Nat → Nat → Int32} (k : vd_QA ow fa lo lf W H nb O B S mo L x y w h f) (hL : vd_LV W H mo L) (hSv : ∀ j, j < 3 → S j = 0 ∨ S j = 1) (hn : nb < 576) (hx : x < W) (hy : y < H) (hw : w ≤ 8) (hh : h ≤ 8) (r0 : 0 ≤ r) (r1 : r ≤ 2) (hfi : f 17 10 = vd_I fi) (hf1 : fi = 0 ∨ fi = 1) (hpw : f 37 0 = vd_I pw) (hph : f 37 1 = vd_I ph) (p0 : 1 ≤ pw) (p1 : pw ≤ 192) (q0 : 1 ≤ ph) (q1 : ph ≤ 192) : ∃ f', (∀ d Q, vd_wp (d + 2) 90 0 [.ref 54, .int (vd_I (18 * (nb : Int))), .int (vd_I r), vd_U, vd_U, vd_U, vd_U, vd_U, vd_U] [] (vd_mf M f) Q = Q (vd_mf M f') (.inl none)) ∧ (f' 56 0 = vd_I (vd_col W H O B mo L S r fi pw ph x y w h).1.1 ∧ f' 56 1 = vd_I (vd_col W H O B mo L S r fi pw ph x y w h).1.2 ∧ f' 56 2 = vd_I (vd_col W H O B mo L S r fi pw ph x y w h).2.1 ∧ f' 56 3 = vd_I (vd_col W H O B mo L S r fi pw ph x y w h).2.2) ∧ vd_fF f f' := by
  obtain ⟨f1, p, a7, a8, e1, s1, F1⟩ := vd_A90 hM k hL hSv hn hx hy hw hh r0 r1
  have k1 := k.keep hM F1
  have hV : ∀ i j kk, O i j = some kk → vd_OV (B kk) := fun i j kk hO => (k.1.2.2.2.2.2 kk (k.1.2.2.2.1 i j kk hO)).ov
  have V := vd_fnd_V (S := S) (r := r) (w := w) (h := h) hV hL hx hy
  have hW := k.1.2.1
  obtain ⟨c1, c2, c3, c4⟩ := k1.2.2.1
  have pp : fa ≠ 56 := by
    have := hM.par
    omega
  unfold vd_col
  generalize vd_fnd W H O B mo L S r x y w h = s at *
  obtain ⟨f2, e2, ⟨v1, v2⟩, F2⟩ := vd_N90a (v := s.2.1) hM ⟨c1, c2, c3, c4⟩ (by rw [F1 _ _ (by omega) (by omega)]; exact hfi) hf1 (by rw [F1 _ _ (by omega) (by omega)]; exact hpw) (by rw [F1 _ _ (by omega) (by omega)]; exact hph) p0 p1 q0 q1 hn (by omega) (by omega) hw hh s1.2.1 s1.2.2.1 V.2.1 (vd_I r) p a7 a8
  obtain ⟨f3, e3, ⟨v3, v4⟩, F3⟩ := vd_N90b (v := s.2.2) hM (f := f2) (nb := nb) (x := x) (y := y) (w := w) (h := h) ⟨by rw [F2 _ _ (by omega)]; exact c1, by rw [F2 _ _ (by omega)]; exact c2, by rw [F2 _ _ (by omega)]; exact c3, by rw [F2 _ _ (by omega)]; exact c4⟩ (by rw [F2 _ _ (by omega), F1 _ _ (by omega) (by omega)]; exact hfi) hf1 (by rw [F2 _ _ (by omega), F1 _ _ (by omega) (by omega)]; exact hpw) (by rw [F2 _ _ (by omega), F1 _ _ (by omega) (by omega)]; exact hph) p0 p1 q0 q1 hn (by omega) (by omega) hw hh (by rw [F2 _ _ (by omega)]; exact s1.2.2.2.1) (by rw [F2 _ _ (by omega)]; exact s1.2.2.2.2) V.2.2.1 (vd_I r) p a7 a8
  refine ⟨f3, fun d Q => ?_, ⟨?_, ?_, v3, v4⟩, fun c i q1 q2 => ?_⟩
  · rw [e1, e2, e3, vd_S90_168 hM]
    simp (disch := omega) only [vd_S90_343 hM, vd_I_toInt, Int.lt_irrefl, if_false]
  · rw [F3 _ _ (by omega)]; exact v1
  · rw [F3 _ _ (by omega)]; exact v2
  · rw [F3 _ _ (by omega), F2 _ _ (by omega), F1 _ _ q1 q2]
theorem vd_C212 (hN : vd_SR N) {g : Nat → Nat → Int32} (k : vd_QB W H O B S mo L x y w h g) (hBV : ∀ i j k, O i j = some k → vd_BV (B k)) (hL : vd_LV W H mo L) (hSv : ∀ j, j < 3 → S j = 0 ∨ S j = 1) (w1 : W ≤ 24) (w2 : H ≤ 24) (hx : x < W) (hy : y < H) (hw : w ≤ 8) (hh : h ≤ 8) (r0 : 0 ≤ r) (r1 : r ≤ 2) (h95 : g 63 95 = vd_I (8 * (x : Int))) (h96 : g 63 96 = vd_I (8 * (y : Int))) (hfi : g 63 34 = vd_I fi) (hf1 : fi = 0 ∨ fi = 1) (hpw : g 63 24 = vd_I pw) (hph : g 63 25 = vd_I ph) (p0 : 1 ≤ pw) (p1 : pw ≤ 192) (q0 : 1 ≤ ph) (q1 : ph ≤ 192) : ∃ g', (∀ d Q, vd_wp (d + 2) 212 0 [.ref 63, .int (vd_I r), vd_U, vd_U, vd_U] [] (vd_mf N g) Q = Q (vd_mf N g') (.inl none)) ∧ (g' 120 0 = vd_I (vd_col W H O B mo L S r fi pw ph x y w h).1.1 ∧ g' 121 0 = vd_I (vd_col W H O B mo L S r fi pw ph x y w h).1.2 ∧ g' 120 1 = vd_I (vd_col W H O B mo L S r fi pw ph x y w h).2.1 ∧ g' 121 1 = vd_I (vd_col W H O B mo L S r fi pw ph x y w h).2.2) ∧ vd_gF g g' := by
  obtain ⟨g1, a4, e1, s1, F1⟩ := vd_A212 hN hSv hBV hL w1 w2 hx hy hw hh r0 r1 k
  have V := vd_fnd_V (S := S) (r := r) (w := w) (h := h) (fun i j kk hO => (hBV i j kk hO).ov) hL hx hy
  obtain ⟨b1, b2, b3, b4⟩ := k.2.2.1
  unfold vd_col
  generalize vd_fnd W H O B mo L S r x y w h = s at *
  obtain ⟨g2, e2, ⟨u1, u2, u3, u4⟩, F2⟩ := vd_Z212 hN V s1 (vd_I r) (vd_I ((W * y + x : Nat) : Int)) (vd_I 8) a4
  have F := F1.trans F2
  have G : ∀ i, i ≠ 116 → g2 63 i = g 63 i := fun i hi => F 63 i (by omega) (by decide) (by decide)
  obtain ⟨g3, e3, ⟨v1, v2⟩, F3⟩ := vd_N212a (v := s.2.1) hN (g := g2) (x := x) (y := y) (w := w) (h := h) ⟨by rw [G _ (by decide)]; exact b1, by rw [G _ (by decide)]; exact b2, by rw [G _ (by decide)]; exact b3, by rw [G _ (by decide)]; exact b4⟩ (by rw [G _ (by decide)]; exact h95) (by rw [G _ (by decide)]; exact h96) (by rw [G _ (by decide)]; exact hfi) hf1 (by rw [G _ (by decide)]; exact hpw) (by rw [G _ (by decide)]; exact hph) p0 p1 q0 q1 (by omega) (by omega) hw hh u1 u2 V.2.1 (vd_I r) (vd_I ((W * y + x : Nat) : Int)) a4
  have G3 : ∀ i, i ≠ 116 → g3 63 i = g 63 i := fun i hi => by rw [F3 63 i (by omega)]; exact G i hi
  obtain ⟨g4, e4, ⟨v3, v4⟩, F4⟩ := vd_N212b (v := s.2.2) hN (g := g3) (x := x) (y := y) (w := w) (h := h) ⟨by rw [G3 _ (by decide)]; exact b1, by rw [G3 _ (by decide)]; exact b2, by rw [G3 _ (by decide)]; exact b3, by rw [G3 _ (by decide)]; exact b4⟩ (by rw [G3 _ (by decide)]; exact h95) (by rw [G3 _ (by decide)]; exact h96) (by rw [G3 _ (by decide)]; exact hfi) hf1 (by rw [G3 _ (by decide)]; exact hpw) (by rw [G3 _ (by decide)]; exact hph) p0 p1 q0 q1 (by omega) (by omega) hw hh (by rw [F3 _ _ (by omega)]; exact u3) (by rw [F3 _ _ (by omega)]; exact u4) V.2.2.1 (vd_I r) (vd_I ((W * y + x : Nat) : Int)) a4
  refine ⟨g4, fun d Q => ?_, ⟨?_, ?_, v3, v4⟩, fun c i q1 q2 q3 => ?_⟩
  · rw [e1, e2, e3, e4, vd_S212_220 hN]
    simp (disch := omega) only [vd_S212_377 hN, vd_I_toInt, Int.lt_irrefl, if_false]
  · rw [F4 _ _ (by omega)]; exact v1
  · rw [F4 _ _ (by omega)]; exact v2
  · rw [F4 _ _ (by omega), F3 _ _ (by omega), F c i q1 q2 q3]
theorem vd_col_b (p0 : 1 ≤ pw) (p1 : pw ≤ 192) (q0 : 1 ≤ ph) (q1 : ph ≤ 192) (hx : x < 24) (hy : y < 24) (hw : w ≤ 8) (hh : h ≤ 8) : ((-2500 ≤ (vd_col W H O B mo L S r fi pw ph x y w h).1.1 ∧ (vd_col W H O B mo L S r fi pw ph x y w h).1.1 ≤ 2500) ∧ (-2500 ≤ (vd_col W H O B mo L S r fi pw ph x y w h).1.2 ∧ (vd_col W H O B mo L S r fi pw ph x y w h).1.2 ≤ 2500)) ∧ ((-2500 ≤ (vd_col W H O B mo L S r fi pw ph x y w h).2.1 ∧ (vd_col W H O B mo L S r fi pw ph x y w h).2.1 ≤ 2500) ∧ (-2500 ≤ (vd_col W H O B mo L S r fi pw ph x y w h).2.2 ∧ (vd_col W H O B mo L S r fi pw ph x y w h).2.2 ≤ 2500)) := ⟨vd_nz_b p0 p1 q0 q1 hx hy hw hh, vd_nz_b p0 p1 q0 q1 hx hy hw hh⟩
end VDCL
