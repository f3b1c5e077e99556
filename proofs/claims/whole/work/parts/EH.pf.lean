/-! ===== the filter: a plane, one direction ===== -/
section VDPF
variable {M N : vd_M} {ow fa lo lf W H nb p s q pl : Nat} {O : Nat → Nat → Option Nat} {B X : Nat → Nat → Int} {pw ph vt : Int}
theorem vd_colF (hM : vd_SC M ow fa lo lf) (hN : vd_SR N) (hp : vd_PC M p s) (h605 : vd_r M 60 5 = some s) (hq : vd_PD N q) (hnow : vd_r N 63 23 = some q) (hX : vd_XV X) (p0 : 1 ≤ pw ∧ pw ≤ 192) (q0 : 1 ≤ ph ∧ ph ≤ 192) (hBG : ∀ k, k < nb → vd_BG X (B k)) (hpl : pl < 3) (hvt : vt = 0 ∨ vt = 1) (hWs : vd_us pl * W ≤ vd_ws pl pw) (hHs : vd_us pl * H ≤ vd_ws pl ph) (hcov : ∀ i j, i < W → j < H → O i j ≠ none) (hWH : W ≤ 24 ∧ H ≤ 24) : ∀ (r Y4 : Nat) (f g : Nat → Nat → Int32) (P : Nat → Nat → Nat → Int), Y4 + r = vd_cu pl * H → vd_FC ow fa W H nb O B X f g → vd_FS s q pw ph P f g → ∃ (f' g' : Nat → Nat → Int32) (P' : Nat → Nat → Nat → Int), (∀ a7 a8 a9 a10 a11 d Q, vd_wp (d + 4) 138 41 [.ref 60, .int (vd_I (pl : Int)), .int (vd_I (1 - vt)), .int (vd_I ((vd_cu pl : Nat) : Int)), .int (vd_I (vd_stp pl vt)), .int (vd_I (vd_ost pl vt)), .int (vd_I (Y4 : Int)), a7, a8, a9, a10, a11] [] (vd_mf M f) Q = Q (vd_mf M f') (.inl none)) ∧ (∀ a5, ∃ b5 : Value, ∀ d Q, vd_wp (d + 6) 264 28 [.ref 63, .int (vd_I (pl : Int)), .int (vd_I vt), .int (vd_I ((vd_us pl : Nat) : Int)), .int (vd_I (4 * (Y4 : Int))), a5] [] (vd_mf N g) Q = vd_wp (d + 6) 264 84 [.ref 63, .int (vd_I (pl : Int)), .int (vd_I vt), .int (vd_I ((vd_us pl : Nat) : Int)), .int (vd_I (4 * ((vd_cu pl * H : Nat) : Int))), b5] [] (vd_mf N g') Q) ∧ vd_FS s q pw ph P' f' g' ∧ vd_fFl s f f' ∧ vd_gFl q g g' := by
  have cuv := vd_cu_v pl
  have cH : vd_cu pl * H ≤ 48 ∧ ((vd_us pl * H : Nat) : Int) = 4 * ((vd_cu pl * H : Nat) : Int) := by
    rcases cuv with ⟨e1, e2, _⟩ | ⟨e1, e2, _⟩ <;> rw [e1, e2] <;> omega
  have m1 : ((vd_cu pl : Nat) : Int) * (H : Int) = ((vd_cu pl * H : Nat) : Int) := by rw [Int.natCast_mul]
  have m2 : (H : Int) * ((vd_us pl : Nat) : Int) = 4 * ((vd_cu pl * H : Nat) : Int) := by rw [← cH.2, Int.natCast_mul, Int.mul_comm]
  intro r
  induction r with
  | zero =>
    intro Y4 f g P hy fc fs
    have e : Y4 = vd_cu pl * H := by omega
    have f3 := fc.1.1.2
    have g27 := fc.2.1.1.2
    rw [e]
    generalize vd_cu pl * H = CH at *
    refine ⟨f, g, P, fun a7 a8 a9 a10 a11 d Q => ?_, fun a5 => ⟨a5, fun d Q => ?_⟩, fs, fun _ _ _ _ _ => rfl, fun _ _ _ _ _ => rfl⟩
    · rw [vd_S138_41 hM, f3, vd_I_mul, m1]
      simp (disch := omega) only [vd_I_toInt, Int.lt_irrefl, if_false, vd_S138_213 hM]
    · rw [vd_S264_28 hN, g27, vd_I_mul, m2]
      simp (disch := omega) only [vd_I_toInt, Int.lt_irrefl, if_false]
  | succ r ih =>
    intro Y4 f g P hy fc fs
    have f3 := fc.1.1.2
    have g27 := fc.2.1.1.2
    have hy' : Y4 < vd_cu pl * H := by omega
    obtain ⟨f1, g1, P1, t1, t2, fs1, F1, G1⟩ := vd_rowF (vt := vt) hM hN hp h605 hq hnow hX p0 q0 hBG hpl hvt hWs hHs hcov hWH hy' (vd_cu pl * W) 0 f g P (by omega) fc fs
    obtain ⟨f2, g2, P2, u1, u2, fs2, F2, G2⟩ := ih (Y4 + 1) f1 g1 P1 (by omega) (fc.keep (N := N) (p := p) hM hp hq F1 G1) fs1
    rw [show ((0 : Nat) : Int) = 0 from rfl] at t1
    rw [show 4 * ((0 : Nat) : Int) = 0 from rfl] at t2
    have c1 : (Y4 : Int) < ((vd_cu pl * H : Nat) : Int) := by omega
    have c2 : 4 * (Y4 : Int) < 4 * ((vd_cu pl * H : Nat) : Int) := by omega
    have e1 : (Y4 : Int) + 1 = ((Y4 + 1 : Nat) : Int) := by omega
    have e4 : 4 * (Y4 : Int) + 4 = 4 * ((Y4 + 1 : Nat) : Int) := by omega
    obtain ⟨b5, hb5⟩ := u2 (.int (vd_I (4 * ((vd_cu pl * W : Nat) : Int))))
    refine ⟨f2, g2, P2, fun a7 a8 a9 a10 a11 d Q => ?_, fun a5 => ⟨b5, fun d Q => ?_⟩, fs2, F1.trans F2, G1.trans G2⟩
    · obtain ⟨b8, b9, b10, b11, h1⟩ := t1 a8 a9 a10 a11
      rw [← u1 (.int (vd_I ((vd_cu pl * W : Nat) : Int))) b8 b9 b10 b11 d Q, vd_S138_41 hM, f3, vd_I_mul, m1]
      generalize vd_cu pl * H = CH at *
      simp (disch := omega) only [vd_I_toInt, c1, if_true, vd_S138_55 hM, h1, vd_S138_207 hM, vd_I_add, e1]
    · rw [← hb5 d Q, vd_S264_28 hN, g27, vd_I_mul, m2]
      generalize vd_cu pl * H = CH at *
      simp (disch := omega) only [vd_I_toInt, c2, if_true, vd_S264_39 hN, t2, vd_S264_78 hN, vd_I_add, e4]
/-- a plane in one direction -/
theorem vd_P138 (hM : vd_SC M ow fa lo lf) (hN : vd_SR N) (hp : vd_PC M p s) (h605 : vd_r M 60 5 = some s) (hq : vd_PD N q) (hnow : vd_r N 63 23 = some q) (hX : vd_XV X) (p0 : 1 ≤ pw ∧ pw ≤ 192) (q0 : 1 ≤ ph ∧ ph ≤ 192) (hBG : ∀ k, k < nb → vd_BG X (B k)) (hpl : pl < 3) (hvt : vt = 0 ∨ vt = 1) (hWs : vd_us pl * W ≤ vd_ws pl pw) (hHs : vd_us pl * H ≤ vd_ws pl ph) (hcov : ∀ i j, i < W → j < H → O i j ≠ none) (hWH : W ≤ 24 ∧ H ≤ 24) {f g : Nat → Nat → Int32} {P : Nat → Nat → Nat → Int} (fc : vd_FC ow fa W H nb O B X f g) (fs : vd_FS s q pw ph P f g) : ∃ (f' g' : Nat → Nat → Int32) (P' : Nat → Nat → Nat → Int), (∀ d Q, vd_wp (d + 4) 138 0 [.ref 60, .int (vd_I (pl : Int)), .int (vd_I (1 - vt)), vd_U, vd_U, vd_U, vd_U, vd_U, vd_U, vd_U, vd_U, vd_U] [] (vd_mf M f) Q = Q (vd_mf M f') (.inl none)) ∧ (∀ a3 a4 a5, ∃ (b3 b4 : Int32) (b5 : Value), ∀ d Q, vd_wp (d + 6) 264 19 [.ref 63, .int (vd_I (pl : Int)), .int (vd_I vt), a3, a4, a5] [] (vd_mf N g) Q = vd_wp (d + 6) 264 84 [.ref 63, .int (vd_I (pl : Int)), .int (vd_I vt), .int b3, .int b4, b5] [] (vd_mf N g') Q) ∧ vd_FS s q pw ph P' f' g' ∧ vd_fFl s f f' ∧ vd_gFl q g g' := by
  obtain ⟨f', g', P', t1, t2, fs', F, G⟩ := vd_colF (vt := vt) hM hN hp h605 hq hnow hX p0 q0 hBG hpl hvt hWs hHs hcov hWH (vd_cu pl * H) 0 f g P (by omega) fc fs
  rw [show ((0 : Nat) : Int) = 0 from rfl] at t1
  rw [show 4 * ((0 : Nat) : Int) = 0 from rfl] at t2
  have usI : (if pl = 0 then (8 : Int) else 4) = ((vd_us pl : Nat) : Int) := by
    unfold vd_us
    by_cases c : pl = 0
    · rw [if_pos c, if_pos c]; rfl
    · rw [if_neg c, if_neg c]; rfl
  have P223 := fun (d : Nat) (Q : vd_M → (Option Value ⊕ Nat) → Prop) => vd_P223 (g := g) (d := d) (Q := Q) hN hpl
  rw [usI] at P223
  refine ⟨f', g', P', fun d Q => ?_, fun a3 a4 a5 => ?_, fs', F, G⟩
  · rw [← t1 vd_U vd_U vd_U vd_U vd_U d Q]
    by_cases cp : pl = 0
    · have cp' := eq_true (show ((pl : Nat) : Int) = 0 by omega)
      have ec : ((vd_cu pl : Nat) : Int) = 2 := by unfold vd_cu; rw [if_pos cp]; rfl
      have P139 : ∀ d Q, vd_wp d 139 0 [.int (vd_I (pl : Int))] [] (vd_mf M f) Q = Q (vd_mf M f) (.inl (some (.int (vd_I 192)))) := fun d Q => by
        simp (disch := omega) only [vd_S139_0 hM, vd_I_toInt, cp', if_true, vd_S139_4 hM, vd_S139_12 hM]
      unfold vd_stp vd_ost
      rw [ec]
      rcases hvt with rfl | rfl
      · simp only [if_neg (show ¬ ((0 : Int) = 1) by decide), if_pos cp]
        simp (disch := omega) only [vd_S138_0 hM, vd_I_toInt, cp', if_true, vd_S138_4 hM, vd_S138_9 hM, show ¬ ((1 - 0 : Int) = 0) by decide, if_false, vd_S138_14 hM, vd_S138_22 hM, vd_S138_28 hM, vd_S138_29 hM, P139, vd_S138_32 hM, vd_S138_36 hM, vd_rs_v, vd_rs_n]
      · simp only [if_true, if_pos cp]
        simp (disch := omega) only [vd_S138_0 hM, vd_I_toInt, cp', if_true, vd_S138_4 hM, vd_S138_9 hM, show ((1 - 1 : Int) = 0) from rfl, vd_S138_18 hM, vd_S138_19 hM, P139, vd_S138_22 hM, vd_S138_35 hM, vd_S138_36 hM, vd_rs_v, vd_rs_n]
    · have cp' : ¬ (((pl : Nat) : Int) = 0) := by omega
      have ec : ((vd_cu pl : Nat) : Int) = 1 := by unfold vd_cu; rw [if_neg cp]; rfl
      have P139 : ∀ d Q, vd_wp d 139 0 [.int (vd_I (pl : Int))] [] (vd_mf M f) Q = Q (vd_mf M f) (.inl (some (.int (vd_I 96)))) := fun d Q => by
        simp (disch := omega) only [vd_S139_0 hM, vd_I_toInt, cp', if_false, vd_S139_10 hM, vd_S139_12 hM]
      unfold vd_stp vd_ost
      rw [ec]
      rcases hvt with rfl | rfl
      · simp only [if_neg (show ¬ ((0 : Int) = 1) by decide), if_neg cp]
        simp (disch := omega) only [vd_S138_0 hM, vd_I_toInt, cp', if_false, vd_S138_8 hM, vd_S138_9 hM, show ¬ ((1 - 0 : Int) = 0) by decide, vd_S138_14 hM, vd_S138_22 hM, vd_S138_28 hM, vd_S138_29 hM, P139, vd_S138_32 hM, vd_S138_36 hM, vd_rs_v, vd_rs_n]
      · simp only [if_true, if_neg cp]
        simp (disch := omega) only [vd_S138_0 hM, vd_I_toInt, cp', if_false, vd_S138_8 hM, vd_S138_9 hM, show ((1 - 1 : Int) = 0) from rfl, if_true, vd_S138_18 hM, vd_S138_19 hM, P139, vd_S138_22 hM, vd_S138_35 hM, vd_S138_36 hM, vd_rs_v, vd_rs_n]
  · obtain ⟨b5, h5⟩ := t2 a5
    refine ⟨vd_I ((vd_us pl : Nat) : Int), vd_I (4 * ((vd_cu pl * H : Nat) : Int)), b5, fun d Q => ?_⟩
    rw [← h5 d Q]
    simp only [vd_S264_19 hN, vd_S264_21 hN, P223, vd_S264_24 hN, vd_rs_v, vd_rs_n]
end VDPF
