/-! ===== the filter of a frame, on or off ===== -/
section VDFT
variable {M N : vd_M} {ow fa lo lf W H p s q nb : Nat} {X : Nat → Nat → Int} {O : Nat → Nat → Option Nat} {B : Nat → Nat → Int} {pw ph : Int}
theorem vd_wsW {W : Nat} {pw : Int} (hW : (W : Int) = (pw + 7) / 8) (b : 1 ≤ pw ∧ pw ≤ 192) (pl : Nat) : vd_us pl * W ≤ vd_ws pl pw := by
  unfold vd_us vd_ws
  by_cases c : pl = 0
  · rw [if_pos c, if_pos c]; omega
  · rw [if_neg c, if_neg c]; omega
theorem vd_filt (hM : vd_SC M ow fa lo lf) (hN : vd_SR N) (hp : vd_PC M p s) (hq : vd_PD N q) (hnow : vd_r N 63 23 = some q) (hX : vd_XV X) (b : 1 ≤ pw ∧ pw ≤ 192 ∧ 1 ≤ ph ∧ ph ≤ 192) (hW : (W : Int) = (pw + 7) / 8) (hH : (H : Int) = (ph + 7) / 8) (hBG : ∀ k, k < nb → vd_BG X (B k)) (hcov : ∀ i j, i < W → j < H → O i j ≠ none) {f g : Nat → Nat → Int32} {P : Nat → Nat → Nat → Int} (ga : vd_GA ow fa W H nb O B f) (gb : vd_GB W H O B g) (ca : vd_CA X f) (cb : vd_CB X g) (h4 : f 37 4 = vd_I (nb : Int)) (psc : vd_PSC s pw ph P f) (psr : vd_PSR q pw ph P g) (hPb : ∀ pl x y, 0 ≤ P pl x y ∧ P pl x y ≤ 255) (gq : g q 0 = vd_I pw) : ∃ (M' : vd_M) (f' g' : Nat → Nat → Int32) (P' : Nat → Nat → Nat → Int) (ln : Int32), (M' = M ∨ M' = vd_sr M 60 5 (some s)) ∧ (∀ (x1 x2 x4 : Int32) (a5 : Value) d Q, vd_wp (d + 6) 26 231 [.ref 10, .int x1, .int x2, .ref p, .int x4, a5] [] (vd_mf M f) Q = vd_wp (d + 6) 26 239 [.ref 10, .int x1, .int x2, .ref p, .int x4, a5] [] (vd_mf M' f') Q) ∧ (∀ (x1 x2 x3 x4 : Int32) (a5 : Value) d Q, vd_wp (d + 7) 186 268 [.ref 63, .int x1, .int x2, .int x3, .int x4, a5] [] (vd_mf N g) Q = vd_wp (d + 7) 186 283 [.ref 63, .int x1, .int x2, .int x3, .int x4, a5] [.int ln] (vd_mf N g') Q) ∧ f' 60 2 = ln ∧ vd_PSC s pw ph P' f' ∧ vd_PSR q pw ph P' g' ∧ (∀ pl x y, 0 ≤ P' pl x y ∧ P' pl x y ≤ 255) ∧ (∀ c i, c ≠ s → c ≠ 60 → c ≠ 61 → c ≠ 62 → f' c i = f c i) ∧ vd_gFl q g g' := by
  have h20 : f 20 0 = vd_I (X 0 10) := ca.2.2.2.1.1
  have h41 : g 63 41 = vd_I (X 0 10) := cb.2.2.1.1
  have X10 := hX.2.1.2.1
  have sp := hp.2.2
  by_cases c : X 0 10 = 0
  · rw [c] at h20 h41
    refine ⟨M, vd_up f 60 2 (vd_I 0), g, P, vd_I 0, Or.inl rfl, fun x1 x2 x4 a5 d Q => ?_, fun x1 x2 x3 x4 a5 d Q => ?_, vd_up_eq _ _ _ _, psc.keep (fun i => by rw [vd_up_ne (by omega)]), psr, hPb, fun c i _ q1 _ _ => by rw [vd_up_ne (by omega)], fun _ _ _ _ _ => rfl⟩
    · simp (disch := omega) only [vd_S26_231 hM, vd_S26_235 hM, vd_S26_236 hM, vd_S136_0 hM, h20, vd_I_toInt, eq_self, if_true, vd_S136_15 hM, vd_rs_v, vd_rs_n]
    · simp (disch := omega) only [vd_S186_268 hN, h41, vd_I_toInt, show ¬ ((0 : Int) < 0) by decide, if_false, vd_S186_282 hN]
  · obtain ⟨f', g', P', e1, e2, ⟨a1, a2, a3, a4, _⟩, a5, a6⟩ := vd_filterA hM hN hp hq hnow hX c ⟨b.1, b.2.1⟩ ⟨b.2.2.1, b.2.2.2⟩ hBG (vd_wsW hW ⟨b.1, b.2.1⟩) (vd_wsW hH ⟨b.2.2.1, b.2.2.2⟩) hcov ⟨by omega, by omega⟩ ga gb ca cb h4 psc psr hPb gq
    have hM' := hM.sr60 (some s)
    refine ⟨vd_sr M 60 5 (some s), f', g', P', g' 63 129, Or.inr rfl, fun x1 x2 x4 a5 d Q => ?_, fun x1 x2 x3 x4 a5 d Q => ?_, a4, a1, a2, a3, a5, a6⟩
    · simp only [vd_S26_231 hM, vd_S26_235 hM, vd_S26_236 hM, e1, vd_rs_v, vd_rs_n]
    · simp (disch := omega) only [vd_S186_268 hN, h41, vd_I_toInt, show (0 < X 0 10) by omega, if_true, vd_S186_275 hN, vd_S186_276 hN, e2, vd_rs_v, vd_rs_n, vd_S186_279 hN]
end VDFT
