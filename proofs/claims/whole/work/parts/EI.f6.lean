/-! ===== the filter: all planes, both directions ===== -/
theorem vd_SC.sr60 {M : vd_M} {ow fa lo lf : Nat} (h : vd_SC M ow fa lo lf) (v : Option Nat) : vd_SC (vd_sr M 60 5 v) ow fa lo lf := h
theorem vd_PC.sr60 {M : vd_M} {p s : Nat} (h : vd_PC M p s) (v : Option Nat) : vd_PC (vd_sr M 60 5 v) p s := by
  obtain ⟨⟨h1, h2⟩, h3, h4⟩ := h
  refine ⟨⟨h1, ?_⟩, h3, h4⟩
  rw [vd_sr_ne (by omega)]
  exact h2
theorem vd_sr60_5 (M : vd_M) (v : Option Nat) : vd_r (vd_sr M 60 5 v) 60 5 = v := by
  rw [vd_sr_r]
  exact if_pos ⟨rfl, rfl⟩
section VDF6
variable {M N : vd_M} {ow fa lo lf W H nb p s q : Nat} {O : Nat → Nat → Option Nat} {B X : Nat → Nat → Int} {pw ph : Int}
/-- one plane, both directions -/
theorem vd_both (hM : vd_SC M ow fa lo lf) (hN : vd_SR N) (hp : vd_PC M p s) (h605 : vd_r M 60 5 = some s) (hq : vd_PD N q) (hnow : vd_r N 63 23 = some q) (hX : vd_XV X) (p0 : 1 ≤ pw ∧ pw ≤ 192) (q0 : 1 ≤ ph ∧ ph ≤ 192) (hBG : ∀ k, k < nb → vd_BG X (B k)) {pl : Nat} (hpl : pl < 3) (hWs : vd_us pl * W ≤ vd_ws pl pw) (hHs : vd_us pl * H ≤ vd_ws pl ph) (hcov : ∀ i j, i < W → j < H → O i j ≠ none) (hWH : W ≤ 24 ∧ H ≤ 24) {f g : Nat → Nat → Int32} {P : Nat → Nat → Nat → Int} (fc : vd_FC ow fa W H nb O B X f g) (fs : vd_FS s q pw ph P f g) : ∃ (f' g' : Nat → Nat → Int32) (P' : Nat → Nat → Nat → Int), (∀ o1 d Q, vd_wp (d + 5) 136 64 [.ref 60, .ref o1, .int (vd_I (pl : Int))] [] (vd_mf M f) Q = vd_wp (d + 5) 136 59 [.ref 60, .ref o1, .int (vd_I ((pl + 1 : Nat) : Int))] [] (vd_mf M f') Q) ∧ (∀ a2 a3 a4 a5, ∃ b2 b3 b4 b5 : Value, ∀ d Q, vd_wp (d + 6) 264 12 [.ref 63, .int (vd_I (pl : Int)), a2, a3, a4, a5] [] (vd_mf N g) Q = vd_wp (d + 6) 264 7 [.ref 63, .int (vd_I ((pl + 1 : Nat) : Int)), b2, b3, b4, b5] [] (vd_mf N g') Q) ∧ vd_FS s q pw ph P' f' g' ∧ vd_fFl s f f' ∧ vd_gFl q g g' := by
  obtain ⟨f1, g1, P1, t1, t2, fs1, F1, G1⟩ := vd_P138 (vt := 0) hM hN hp h605 hq hnow hX p0 q0 hBG hpl (Or.inl rfl) hWs hHs hcov hWH fc fs
  obtain ⟨f2, g2, P2, u1, u2, fs2, F2, G2⟩ := vd_P138 (vt := 1) hM hN hp h605 hq hnow hX p0 q0 hBG hpl (Or.inr rfl) hWs hHs hcov hWH (fc.keep (N := N) (p := p) hM hp hq F1 G1) fs1
  rw [show (1 - 0 : Int) = 1 from rfl] at t1
  rw [show (1 - 1 : Int) = 0 from rfl] at u1
  have e1 : (pl : Int) + 1 = ((pl + 1 : Nat) : Int) := by omega
  refine ⟨f2, g2, P2, fun o1 d Q => ?_, fun a2 a3 a4 a5 => ?_, fs2, F1.trans F2, G1.trans G2⟩
  · simp (disch := omega) only [vd_S136_64 hM, vd_S136_67 hM, t1, vd_S136_70 hM, vd_S136_73 hM, u1, vd_S136_76 hM, vd_I_add, e1, vd_rs_v, vd_rs_n]
  · obtain ⟨b3, b4, b5, h1⟩ := t2 a3 a4 a5
    obtain ⟨c3, c4, c5, h2⟩ := u2 (.int b3) (.int b4) b5
    refine ⟨.int (vd_I 2), .int c3, .int c4, c5, fun d Q => ?_⟩
    rw [vd_S264_12 hN, vd_S264_14 hN]
    simp (disch := omega) only [vd_I_toInt, show (0 : Int) < 2 by decide, if_true, h1, vd_S264_84 hN, vd_I_add, show (0 + 1 : Int) = 1 from rfl]
    rw [vd_S264_14 hN]
    simp (disch := omega) only [vd_I_toInt, show (1 : Int) < 2 by decide, if_true, h2, vd_S264_84 hN, vd_I_add, show (1 + 1 : Int) = 2 from rfl]
    rw [vd_S264_14 hN]
    simp (disch := omega) only [vd_I_toInt, Int.lt_irrefl, if_false, vd_S264_90 hN, vd_I_add, e1]
end VDF6
