/-! ===== the squares of a frame ===== -/
section VDSQ
variable {M N : vd_M} {ow fa lo lf W H p s q : Nat} {X : Nat → Nat → Int} {mo : Int} {L : Nat → Nat → Nat → Int} {Z : Nat → Nat → Nat → Nat} {R : Nat → Nat → Nat → Nat → Int} {pw ph : Int}
def vd_SQ (M N : vd_M) (ow fa lo lf W H s q : Nat) (X : Nat → Nat → Int) (mo : Int) (L : Nat → Nat → Nat → Int) (Z : Nat → Nat → Nat → Nat) (R : Nat → Nat → Nat → Nat → Int) (pw ph : Int) (f0 g0 : Nat → Nat → Int32) (yi xi : Nat) (f g : Nat → Nat → Int32) : Prop := ∃ (cnt nb : Nat) (O : Nat → Nat → Option Nat) (B mp : Nat → Nat → Int) (P K : Nat → Nat → Nat → Int), vd_DS M N ow fa lo lf W H s q X mo L Z R pw ph nb (399551 * cnt) O B mp P K f g ∧ (nb ≤ 64 * cnt ∧ cnt ≤ 3 * yi + xi) ∧ (∀ pl a e, pl < 3 → (vd_cu pl * (8 * yi + 8) ≤ e ∨ (vd_cu pl * (8 * yi) ≤ e ∧ vd_cu pl * (8 * xi) ≤ a)) → K pl a e = 0) ∧ (∀ i j, i < W → j < H → (j < 8 * yi ∨ (j < 8 * yi + 8 ∧ i < 8 * xi)) → O i j ≠ none) ∧ vd_fBk ow fa s f0 f ∧ vd_gBk q g0 g
theorem vd_cu_b (pl : Nat) : vd_cu pl = 2 ∨ vd_cu pl = 1 := by
  unfold vd_cu
  split
  · exact Or.inl rfl
  · exact Or.inr rfl
/-- one row of squares -/
theorem vd_sqRow (hC : vd_DC M N ow fa lo lf W H p s q X mo L Z R pw ph) (hWw : (W : Int) = (pw + 7) / 8) (hHh : (H : Int) = (ph + 7) / 8) (b : 1 ≤ pw ∧ pw ≤ 192 ∧ 1 ≤ ph ∧ ph ≤ 192) {f0 g0 : Nat → Nat → Int32} {yi : Nat} (hy : 64 * (yi : Int) < ph) : ∀ (m xi : Nat) (f g : Nat → Nat → Int32), xi + m = 3 → vd_SQ M N ow fa lo lf W H s q X mo L Z R pw ph f0 g0 yi xi f g → ∃ (f' g' : Nat → Nat → Int32) (a5 b5 : Int32), (∀ (x1 x2 : Int32) (a3 : Value) d Q, vd_wp (d + 10) 26 194 [.ref 10, .int x1, .int x2, a3, .int (vd_I (8 * (yi : Int))), .int (vd_I (8 * (xi : Int)))] [] (vd_mf M f) Q = vd_wp (d + 10) 26 225 [.ref 10, .int x1, .int x2, a3, .int (vd_I (8 * (yi : Int))), .int a5] [] (vd_mf M f') Q) ∧ (∀ (x1 x2 x3 : Int32) d Q, vd_wp (d + 12) 186 237 [.ref 63, .int x1, .int x2, .int x3, .int (vd_I (64 * (yi : Int))), .int (vd_I (64 * (xi : Int)))] [] (vd_mf N g) Q = vd_wp (d + 12) 186 262 [.ref 63, .int x1, .int x2, .int x3, .int (vd_I (64 * (yi : Int))), .int b5] [] (vd_mf N g') Q) ∧ vd_SQ M N ow fa lo lf W H s q X mo L Z R pw ph f0 g0 (yi + 1) 0 f' g' := by
  have hM := hC.1.1
  have hN := hC.1.2
  have hpar := hM.par
  have sqb := hC.2.1.1.2.2
  intro m
  induction m with
  | zero =>
    intro xi f g hx hS
    have hx : xi = 3 := by omega
    subst hx
    obtain ⟨cnt, nb, O, B, mp, P, K, hD, ⟨n1, n2⟩, hK, hO, hF, hG⟩ := hS
    have ga := hD.1.2.1
    have w2 : f 37 2 = vd_I (W : Int) := ga.1.1
    have g24 : g 63 24 = vd_I pw := hD.1.2.2.2.2.2.2.2.2.2.1
    refine ⟨f, g, vd_I (8 * ((3 : Nat) : Int)), vd_I (64 * ((3 : Nat) : Int)), fun x1 x2 a3 d Q => ?_, fun x1 x2 x3 d Q => ?_, cnt, nb, O, B, mp, P, K, hD, ⟨n1, by omega⟩, fun pl a e hp he => ?_, fun i j hi hj h => ?_, hF, hG⟩
    · simp (disch := omega) only [vd_S26_194 hM, w2, vd_I_toInt, show ¬ (8 * ((3 : Nat) : Int) < (W : Int)) by omega, if_false]
    · simp (disch := omega) only [vd_S186_237 hN, g24, vd_I_toInt, show ¬ (64 * ((3 : Nat) : Int) < pw) by omega, if_false]
    · refine hK pl a e hp (Or.inl ?_)
      have c := vd_cu_b pl
      rcases c with c | c <;> rw [c] at he ⊢ <;> omega
    · exact hO i j hi hj (by omega)
  | succ m ih =>
    intro xi f g hx hS
    obtain ⟨cnt, nb, O, B, mp, P, K, hD, ⟨n1, n2⟩, hK, hO, hF, hG⟩ := hS
    have ga := hD.1.2.1
    have w2 : f 37 2 = vd_I (W : Int) := ga.1.1
    have g24 : g 63 24 = vd_I pw := hD.1.2.2.2.2.2.2.2.2.2.1
    by_cases c : 64 * (xi : Int) < pw
    · have cW : 8 * (xi : Int) < (W : Int) := by omega
      have hws : ∀ z : Int, 1 ≤ z → z ≤ 192 → vd_ws 0 z = ((z + 63) / 64 * 64).toNat := fun z _ _ => by unfold vd_ws; rw [if_pos rfl]
      have yb : yi < 3 := by omega
      obtain ⟨f1, g1, e1, e2, nb', O', B', mp', P', K', hD', hnb, hK', hOm, hOc, hF', hG'⟩ := vd_dv8 hC (8 * xi) (8 * yi) nb (399551 * cnt) O B mp P K f g hD (by rw [hws pw (by omega) (by omega)]; omega) (by rw [hws ph (by omega) (by omega)]; omega) (fun pl a e hp ha => by
        refine hK pl a e hp (Or.inr ?_)
        unfold vd_ar at ha
        exact ⟨ha.2.2.1, ha.1⟩) (by omega) (by omega)
      have ex : (((8 * xi : Nat)) : Int) = 8 * (xi : Int) := by omega
      have ey : (((8 * yi : Nat)) : Int) = 8 * (yi : Int) := by omega
      have e8x : 8 * (8 * (xi : Int)) = 64 * (xi : Int) := by omega
      have e8y : 8 * (8 * (yi : Int)) = 64 * (yi : Int) := by omega
      have e64 : 8 * ((8 : Nat) : Int) = 64 := by decide
      have e8 : ((8 : Nat) : Int) = 8 := rfl
      rw [ex, ey] at e1 e2
      rw [e8x, e8y, e64] at e2
      rw [e8] at e1
      have nx : 8 * (xi : Int) + 8 = 8 * ((xi + 1 : Nat) : Int) := by omega
      have ny : 64 * (xi : Int) + 64 = 64 * ((xi + 1 : Nat) : Int) := by omega
      obtain ⟨f2, g2, a5, b5, q1, q2, q3⟩ := ih (xi + 1) f1 g1 (by omega) ⟨cnt + 1, nb', O', B', mp', P', K', by rw [Nat.mul_add, Nat.mul_one]; exact hD', ⟨by omega, by omega⟩, fun pl a e hp he => by
        have cb := vd_cu_b pl
        rw [hK' pl a e (fun ha => by
          have := ha.2
          unfold vd_ar at this
          rcases cb with cb | cb <;> rw [cb] at this he <;> omega)]
        refine hK pl a e hp ?_
        rcases cb with cb | cb <;> rw [cb] at he ⊢ <;> omega, fun i j hi hj h => by
        by_cases old : j < 8 * yi ∨ (j < 8 * yi + 8 ∧ i < 8 * xi)
        · exact hOm i j (hO i j hi hj old)
        · exact hOc i j (by omega) (by omega) (by omega) (by omega) hi hj, hF.trans hF', hG.trans hG'⟩
      refine ⟨f2, g2, a5, b5, fun x1 x2 a3 d Q => ?_, fun x1 x2 x3 d Q => ?_, q3⟩
      · rw [← q1 x1 x2 a3 d Q]
        conv => lhs; rw [vd_S26_194 hM]
        simp (disch := omega) only [w2, vd_I_toInt, cW, if_true, vd_S26_206 hM, vd_S26_216 hM, e1, vd_rs_v, vd_rs_n, vd_S26_219 hM, vd_I_add, nx]
      · rw [← q2 x1 x2 x3 d Q]
        conv => lhs; rw [vd_S186_237 hN]
        simp (disch := omega) only [g24, vd_I_toInt, c, if_true, vd_S186_246 hN, vd_S186_253 hN, e2, vd_rs_v, vd_rs_n, vd_S186_256 hN, vd_I_add, ny]
    · refine ⟨f, g, vd_I (8 * (xi : Int)), vd_I (64 * (xi : Int)), fun x1 x2 a3 d Q => ?_, fun x1 x2 x3 d Q => ?_, cnt, nb, O, B, mp, P, K, hD, ⟨n1, by omega⟩, fun pl a e hp he => ?_, fun i j hi hj h => ?_, hF, hG⟩
      · simp (disch := omega) only [vd_S26_194 hM, w2, vd_I_toInt, show ¬ (8 * (xi : Int) < (W : Int)) by omega, if_false]
      · simp (disch := omega) only [vd_S186_237 hN, g24, vd_I_toInt, c, if_false]
      · refine hK pl a e hp (Or.inl ?_)
        have cb := vd_cu_b pl
        rcases cb with cb | cb <;> rw [cb] at he ⊢ <;> omega
      · exact hO i j hi hj (by omega)
/-- all squares -/
theorem vd_sqAll (hC : vd_DC M N ow fa lo lf W H p s q X mo L Z R pw ph) (hWw : (W : Int) = (pw + 7) / 8) (hHh : (H : Int) = (ph + 7) / 8) (b : 1 ≤ pw ∧ pw ≤ 192 ∧ 1 ≤ ph ∧ ph ≤ 192) {f0 g0 : Nat → Nat → Int32} : ∀ (m yi : Nat) (f g : Nat → Nat → Int32) (a5 b5 : Value), yi + m = 3 → vd_SQ M N ow fa lo lf W H s q X mo L Z R pw ph f0 g0 yi 0 f g → ∃ (f' g' : Nat → Nat → Int32) (x4 y4 : Int32) (c5 d5 : Value), (∀ (x1 x2 : Int32) (o3 : Nat) d Q, vd_wp (d + 10) 26 179 [.ref 10, .int x1, .int x2, .ref o3, .int (vd_I (8 * (yi : Int))), a5] [] (vd_mf M f) Q = vd_wp (d + 10) 26 231 [.ref 10, .int x1, .int x2, .ref o3, .int x4, c5] [] (vd_mf M f') Q) ∧ (∀ (x1 x2 x3 : Int32) d Q, vd_wp (d + 12) 186 225 [.ref 63, .int x1, .int x2, .int x3, .int (vd_I (64 * (yi : Int))), b5] [] (vd_mf N g) Q = vd_wp (d + 12) 186 268 [.ref 63, .int x1, .int x2, .int x3, .int y4, d5] [] (vd_mf N g') Q) ∧ ∃ (nb n : Nat) (O : Nat → Nat → Option Nat) (B mp : Nat → Nat → Int) (P K : Nat → Nat → Nat → Int), vd_DS M N ow fa lo lf W H s q X mo L Z R pw ph nb n O B mp P K f' g' ∧ n ≤ 3595959 ∧ (∀ i j, i < W → j < H → O i j ≠ none) ∧ vd_fBk ow fa s f0 f' ∧ vd_gBk q g0 g' := by
  have hM := hC.1.1
  have hN := hC.1.2
  intro m
  induction m with
  | zero =>
    intro yi f g a5 b5 hy hS
    have hy : yi = 3 := by omega
    subst hy
    obtain ⟨cnt, nb, O, B, mp, P, K, hD, ⟨n1, n2⟩, hK, hO, hF, hG⟩ := hS
    have h3 : f 37 3 = vd_I (H : Int) := hD.1.2.1.1.2
    have g25 : g 63 25 = vd_I ph := hD.1.2.2.2.2.2.2.2.2.2.2
    refine ⟨f, g, vd_I (8 * ((3 : Nat) : Int)), vd_I (64 * ((3 : Nat) : Int)), a5, b5, fun x1 x2 o3 d Q => ?_, fun x1 x2 x3 d Q => ?_, nb, 399551 * cnt, O, B, mp, P, K, hD, by omega, fun i j hi hj => hO i j hi hj (by omega), hF, hG⟩
    · simp (disch := omega) only [vd_S26_179 hM, h3, vd_I_toInt, show ¬ (8 * ((3 : Nat) : Int) < (H : Int)) by omega, if_false]
    · simp (disch := omega) only [vd_S186_225 hN, g25, vd_I_toInt, show ¬ (64 * ((3 : Nat) : Int) < ph) by omega, if_false]
  | succ m ih =>
    intro yi f g a5 b5 hy hS
    have hS' := hS
    obtain ⟨cnt, nb, O, B, mp, P, K, hD, ⟨n1, n2⟩, hK, hO, hF, hG⟩ := hS'
    have h3 : f 37 3 = vd_I (H : Int) := hD.1.2.1.1.2
    have g25 : g 63 25 = vd_I ph := hD.1.2.2.2.2.2.2.2.2.2.2
    by_cases c : 64 * (yi : Int) < ph
    · have cH : 8 * (yi : Int) < (H : Int) := by omega
      have z0 : (8 : Int) * ((0 : Nat) : Int) = 0 := by decide
      have z1 : (64 : Int) * ((0 : Nat) : Int) = 0 := by decide
      obtain ⟨f1, g1, x5, y5, p1, p2, p3⟩ := vd_sqRow hC hWw hHh b c 3 0 f g rfl hS
      rw [z0] at p1
      rw [z1] at p2
      obtain ⟨f2, g2, x4, y4, c5, d5, q1, q2, q3⟩ := ih (yi + 1) f1 g1 (.int x5) (.int y5) (by omega) p3
      have ny : 8 * (yi : Int) + 8 = 8 * ((yi + 1 : Nat) : Int) := by omega
      have nz : 64 * (yi : Int) + 64 = 64 * ((yi + 1 : Nat) : Int) := by omega
      refine ⟨f2, g2, x4, y4, c5, d5, fun x1 x2 o3 d Q => ?_, fun x1 x2 x3 d Q => ?_, q3⟩
      · have lg : vd_long (.ref o3) = false := rfl
        rw [← q1 x1 x2 o3 d Q]
        conv => lhs; rw [vd_S26_179 hM]
        simp (disch := first | assumption | omega) only [h3, vd_I_toInt, cH, if_true, vd_S26_191 hM, p1, vd_S26_225 hM, vd_I_add, ny]
      · rw [← q2 x1 x2 x3 d Q]
        conv => lhs; rw [vd_S186_225 hN]
        simp (disch := omega) only [g25, vd_I_toInt, c, if_true, vd_S186_234 hN, p2, vd_S186_262 hN, vd_I_add, nz]
    · refine ⟨f, g, vd_I (8 * (yi : Int)), vd_I (64 * (yi : Int)), a5, b5, fun x1 x2 o3 d Q => ?_, fun x1 x2 x3 d Q => ?_, nb, 399551 * cnt, O, B, mp, P, K, hD, by omega, fun i j hi hj => hO i j hi hj (by omega), hF, hG⟩
      · simp (disch := omega) only [vd_S26_179 hM, h3, vd_I_toInt, show ¬ (8 * (yi : Int) < (H : Int)) by omega, if_false]
      · simp (disch := omega) only [vd_S186_225 hN, g25, vd_I_toInt, c, if_false]
end VDSQ
