/-! ===== the filter: rows of cells, a plane ===== -/
section VDRF
variable {M N : vd_M} {ow fa lo lf W H nb p s q pl : Nat} {O : Nat → Nat → Option Nat} {B X : Nat → Nat → Int} {pw ph vt : Int}
theorem vd_rowF (hM : vd_SC M ow fa lo lf) (hN : vd_SR N) (hp : vd_PC M p s) (h605 : vd_r M 60 5 = some s) (hq : vd_PD N q) (hnow : vd_r N 63 23 = some q) (hX : vd_XV X) (p0 : 1 ≤ pw ∧ pw ≤ 192) (q0 : 1 ≤ ph ∧ ph ≤ 192) (hBG : ∀ k, k < nb → vd_BG X (B k)) (hpl : pl < 3) (hvt : vt = 0 ∨ vt = 1) (hWs : vd_us pl * W ≤ vd_ws pl pw) (hHs : vd_us pl * H ≤ vd_ws pl ph) (hcov : ∀ i j, i < W → j < H → O i j ≠ none) (hWH : W ≤ 24 ∧ H ≤ 24) {Y4 : Nat} (hy : Y4 < vd_cu pl * H) : ∀ (r X4 : Nat) (f g : Nat → Nat → Int32) (P : Nat → Nat → Nat → Int), X4 + r = vd_cu pl * W → vd_FC ow fa W H nb O B X f g → vd_FS s q pw ph P f g → ∃ (f' g' : Nat → Nat → Int32) (P' : Nat → Nat → Nat → Int), (∀ a8 a9 a10 a11, ∃ b8 b9 b10 b11 : Value, ∀ d Q, vd_wp (d + 4) 138 58 [.ref 60, .int (vd_I (pl : Int)), .int (vd_I (1 - vt)), .int (vd_I ((vd_cu pl : Nat) : Int)), .int (vd_I (vd_stp pl vt)), .int (vd_I (vd_ost pl vt)), .int (vd_I (Y4 : Int)), .int (vd_I (X4 : Int)), a8, a9, a10, a11] [] (vd_mf M f) Q = vd_wp (d + 4) 138 207 [.ref 60, .int (vd_I (pl : Int)), .int (vd_I (1 - vt)), .int (vd_I ((vd_cu pl : Nat) : Int)), .int (vd_I (vd_stp pl vt)), .int (vd_I (vd_ost pl vt)), .int (vd_I (Y4 : Int)), .int (vd_I ((vd_cu pl * W : Nat) : Int)), b8, b9, b10, b11] [] (vd_mf M f') Q) ∧ (∀ d Q, vd_wp (d + 6) 264 42 [.ref 63, .int (vd_I (pl : Int)), .int (vd_I vt), .int (vd_I ((vd_us pl : Nat) : Int)), .int (vd_I (4 * (Y4 : Int))), .int (vd_I (4 * (X4 : Int)))] [] (vd_mf N g) Q = vd_wp (d + 6) 264 78 [.ref 63, .int (vd_I (pl : Int)), .int (vd_I vt), .int (vd_I ((vd_us pl : Nat) : Int)), .int (vd_I (4 * (Y4 : Int))), .int (vd_I (4 * ((vd_cu pl * W : Nat) : Int)))] [] (vd_mf N g') Q) ∧ vd_FS s q pw ph P' f' g' ∧ vd_fFl s f f' ∧ vd_gFl q g g' := by
  have cuv := vd_cu_v pl
  have cW : vd_cu pl * W ≤ 48 ∧ ((vd_us pl * W : Nat) : Int) = 4 * ((vd_cu pl * W : Nat) : Int) := by
    rcases cuv with ⟨e1, e2, _⟩ | ⟨e1, e2, _⟩ <;> rw [e1, e2] <;> omega
  have ub : Y4 / vd_cu pl < H ∧ Y4 < 48 := by
    rcases cuv with ⟨_, e, _⟩ | ⟨_, e, _⟩ <;> rw [e] at hy ⊢ <;> omega
  have m1 : ((vd_cu pl : Nat) : Int) * (W : Int) = ((vd_cu pl * W : Nat) : Int) := by rw [Int.natCast_mul]
  have m2 : (W : Int) * ((vd_us pl : Nat) : Int) = 4 * ((vd_cu pl * W : Nat) : Int) := by rw [← cW.2, Int.natCast_mul, Int.mul_comm]
  intro r
  induction r with
  | zero =>
    intro X4 f g P hx fc fs
    have e : X4 = vd_cu pl * W := by omega
    have f2 := fc.1.1.1
    have g26 := fc.2.1.1.1
    rw [e]
    generalize vd_cu pl * W = CW at *
    refine ⟨f, g, P, fun a8 a9 a10 a11 => ⟨a8, a9, a10, a11, fun d Q => ?_⟩, fun d Q => ?_, fs, fun _ _ _ _ _ => rfl, fun _ _ _ _ _ => rfl⟩
    · rw [vd_S138_58 hM, f2, vd_I_mul, m1]
      simp (disch := omega) only [vd_I_toInt, Int.lt_irrefl, if_false]
    · rw [vd_S264_42 hN, g26, vd_I_mul, m2]
      simp (disch := omega) only [vd_I_toInt, Int.lt_irrefl, if_false]
  | succ r ih =>
    intro X4 f g P hx fc fs
    have f2 := fc.1.1.1
    have g26 := fc.2.1.1.1
    have hx' : X4 < vd_cu pl * W := by omega
    have uX : X4 / vd_cu pl < W := by
      rcases cuv with ⟨_, e, _⟩ | ⟨_, e, _⟩ <;> rw [e] at hx' ⊢ <;> omega
    obtain ⟨k, hk⟩ := Option.ne_none_iff_exists'.mp (hcov _ _ uX ub.1)
    obtain ⟨f1, g1, P1, t1, t2, fs1, F1, G1⟩ := vd_cellF (vt := vt) hM hN hp h605 hq hnow hX p0 q0 fc hBG fs hpl hvt hWs hHs hx' hy hk
    obtain ⟨f3, g3, P3, u1, u2, fs3, F3, G3⟩ := ih (X4 + 1) f1 g1 P1 (by omega) (fc.keep (N := N) (p := p) hM hp hq F1 G1) fs1
    have c1 : (X4 : Int) < ((vd_cu pl * W : Nat) : Int) := by omega
    have c2 : 4 * (X4 : Int) < 4 * ((vd_cu pl * W : Nat) : Int) := by omega
    have e1 : (X4 : Int) + 1 = ((X4 + 1 : Nat) : Int) := by omega
    have e4 : 4 * (X4 : Int) + 4 = 4 * ((X4 + 1 : Nat) : Int) := by omega
    refine ⟨f3, g3, P3, fun a8 a9 a10 a11 => ?_, fun d Q => ?_, fs3, F1.trans F3, G1.trans G3⟩
    · obtain ⟨b8, b9, b10, b11, h1⟩ := t1 a8 a9 a10 a11
      obtain ⟨d8, d9, d10, d11, h2⟩ := u1 (.int b8) (.int b9) b10 b11
      refine ⟨d8, d9, d10, d11, fun d Q => ?_⟩
      rw [← h2 d Q, vd_S138_58 hM, f2, vd_I_mul, m1]
      generalize vd_cu pl * W = CW at *
      simp (disch := omega) only [vd_I_toInt, c1, if_true, h1, vd_S138_201 hM, vd_I_add, e1]
    · rw [← u2 d Q, vd_S264_42 hN, g26, vd_I_mul, m2]
      generalize vd_cu pl * W = CW at *
      rcases hvt with rfl | rfl
      · simp (disch := omega) only [vd_I_toInt, c2, if_true, vd_S264_53 hN, show ¬ ((0 : Int) = 1) by decide, if_false, vd_S264_68 hN, vd_S264_69 hN, t2, vd_S264_72 hN, vd_I_add, e4, vd_rs_v, vd_rs_n]
      · simp (disch := omega) only [vd_I_toInt, c2, if_true, vd_S264_53 hN, vd_S264_64 hN, vd_S264_69 hN, t2, vd_S264_72 hN, vd_I_add, e4, vd_rs_v, vd_rs_n]
end VDRF
