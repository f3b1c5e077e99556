/-! ===== the filter, whole ===== -/
section VDFA
variable {M N : vd_M} {ow fa lo lf W H nb p s q : Nat} {O : Nat → Nat → Option Nat} {B X : Nat → Nat → Int} {pw ph : Int}
theorem vd_L136 (hM : vd_SC M ow fa lo lf) (hX : vd_XV X) (o1 : Nat) : ∀ (r k : Nat) (f : Nat → Nat → Int32), k + r = nb → vd_GA ow fa W H nb O B f → vd_CA X f → f 37 4 = vd_I (nb : Int) → (∀ j, j < k → f 61 j = vd_I (vd_lv X (B j))) → ∃ f' : Nat → Nat → Int32, (∀ d Q, vd_wp (d + 2) 136 26 [.ref 60, .ref o1, .int (vd_I (k : Int))] [] (vd_mf M f) Q = vd_wp (d + 2) 136 57 [.ref 60, .ref o1, .int (vd_I (nb : Int))] [] (vd_mf M f') Q) ∧ (∀ j, j < nb → f' 61 j = vd_I (vd_lv X (B j))) ∧ (∀ c i, c ≠ 61 → f' c i = f c i) := by
  have hpar := vd_par4 hM
  intro r
  induction r with
  | zero =>
    intro k f hk ga ca h4 hA
    have e : k = nb := by omega
    have nb1 := ga.2.1.2.2.2.2
    subst e
    refine ⟨f, fun d Q => ?_, hA, fun _ _ _ => rfl⟩
    rw [vd_S136_26 hM, h4]
    simp (disch := omega) only [vd_I_toInt, Int.lt_irrefl, if_false]
  | succ r ih =>
    intro k f hk ga ca h4 hA
    have nb1 := ga.2.1.2.2.2.2
    have hkn : k < nb := by omega
    have c : (k : Int) < (nb : Int) := by omega
    have e1 : (k : Int) + 1 = ((k + 1 : Nat) : Int) := by omega
    have e18 : (k : Int) * 18 = 18 * (k : Int) := by omega
    have P := vd_P137 (k := k) (b := B k) hM hX ca (by omega) (fun j hj => ga.2.2.2.2.1 k j hkn hj) (ga.2.2.2.2.2 k hkn)
    have nk : ((k : Nat) : Int).toNat = k := Int.toNat_natCast k
    obtain ⟨f2, p1, p2, p3⟩ := ih (k + 1) (vd_up f 61 k (vd_I (vd_lv X (B k)))) (by omega) (ga.keep fun c i a => vd_up_ne (by omega)) (ca.keep fun c i a1 a2 => vd_up_ne (by omega)) (by rw [vd_up_ne (by omega)]; exact h4) (fun j hj => by
      by_cases e : j = k
      · rw [e, vd_up_eq]
      · rw [vd_up_ne (by omega)]; exact hA j (by omega))
    refine ⟨f2, fun d Q => ?_, p2, fun c i h => by rw [p3 c i h, vd_up_ne (by omega)]⟩
    rw [← p1 d Q, vd_S136_26 hM, h4]
    simp (disch := omega) only [vd_I_toInt, c, if_true, vd_S136_37 hM, vd_I_mul, e18, vd_S136_47 hM, P, vd_S136_50 hM, nk, vd_I_add, e1, vd_rs_v, vd_rs_n]
theorem vd_filterA (hM : vd_SC M ow fa lo lf) (hN : vd_SR N) (hp : vd_PC M p s) (hq : vd_PD N q) (hnow : vd_r N 63 23 = some q) (hX : vd_XV X) (hX10 : X 0 10 ≠ 0) (p0 : 1 ≤ pw ∧ pw ≤ 192) (q0 : 1 ≤ ph ∧ ph ≤ 192) (hBG : ∀ k, k < nb → vd_BG X (B k)) (hWs : ∀ pl, vd_us pl * W ≤ vd_ws pl pw) (hHs : ∀ pl, vd_us pl * H ≤ vd_ws pl ph) (hcov : ∀ i j, i < W → j < H → O i j ≠ none) (hWH : W ≤ 24 ∧ H ≤ 24) {f g : Nat → Nat → Int32} {P : Nat → Nat → Nat → Int} (ga : vd_GA ow fa W H nb O B f) (gb : vd_GB W H O B g) (ca : vd_CA X f) (cb : vd_CB X g) (h4 : f 37 4 = vd_I (nb : Int)) (psc : vd_PSC s pw ph P f) (psr : vd_PSR q pw ph P g) (hPb : ∀ pl x y, 0 ≤ P pl x y ∧ P pl x y ≤ 255) (gq : g q 0 = vd_I pw) : ∃ (f' g' : Nat → Nat → Int32) (P' : Nat → Nat → Nat → Int), (∀ d Q, vd_wp (d + 5) 136 0 [.ref 60, .ref p, vd_U] [] (vd_mf M f) Q = Q (vd_mf (vd_sr M 60 5 (some s)) f') (.inl none)) ∧ (∀ d Q, vd_wp (d + 6) 264 0 [.ref 63, vd_U, vd_U, vd_U, vd_U, vd_U] [] (vd_mf N g) Q = Q (vd_mf N g') (.inl (some (.int (g' 63 129))))) ∧ vd_FS s q pw ph P' f' g' ∧ (∀ c i, c ≠ s → c ≠ 60 → c ≠ 61 → c ≠ 62 → f' c i = f c i) ∧ vd_gFl q g g' := by
  have hpar := vd_par4 hM
  have hp' := hp.2.2
  have hqb := hq.2.2.2
  obtain ⟨⟨hk7, hrs⟩, _⟩ := id hp
  have hM1 := hM.sr60 (some s)
  have hp1 := hp.sr60 (some s)
  have h605 := vd_sr60_5 M (some s)
  obtain ⟨f0, hf0⟩ : ∃ f0, f0 = vd_up f 60 2 (vd_I 0) := ⟨_, rfl⟩
  obtain ⟨g0, hg0⟩ : ∃ g0, g0 = vd_up g 63 129 (vd_I 0) := ⟨_, rfl⟩
  have k0 : ∀ c i, c ≠ 60 → f0 c i = f c i := fun c i h => by rw [hf0, vd_up_ne (by omega)]
  have j0 : ∀ c i, ¬ (c = 63 ∧ i = 129) → g0 c i = g c i := fun c i h => by rw [hg0, vd_up_ne h]
  obtain ⟨f1, l1, l2, l3⟩ := vd_L136 hM1 hX p nb 0 f0 (by omega) (ga.keep fun c i a => k0 c i (by omega)) (ca.keep fun c i a1 a2 => k0 c i (by omega)) (by rw [k0 _ _ (by omega)]; exact h4) (fun j hj => by omega)
  have k1 : ∀ c i, c ≠ 60 → c ≠ 61 → f1 c i = f c i := fun c i a b => by rw [l3 c i b, k0 c i a]
  have fc1 : vd_FC ow fa W H nb O B X f1 g0 := ⟨ga.keep fun c i a => k1 c i (by omega) (by omega), gb.keep fun c i a => j0 c i (by omega), ⟨ca.keep fun c i a1 a2 => k1 c i (by omega) (by omega), cb.keep fun c i a => by unfold vd_inB at a; exact j0 c i (by omega)⟩, l2⟩
  have fs1 : vd_FS s q pw ph P f1 g0 := ⟨psc.keep fun i => k1 _ _ (by omega) (by omega), psr.keep fun c i a b => j0 _ _ (by omega), hPb, by rw [l3 _ _ (by omega), hf0, vd_up_eq, hg0, vd_up_eq], by rw [j0 _ _ (by omega)]; exact gq⟩
  obtain ⟨f2, g2, P2, a1, a2, fs2, F2, G2⟩ := vd_both (pl := 0) hM1 hN hp1 h605 hq hnow hX p0 q0 hBG (by decide) (hWs 0) (hHs 0) hcov hWH fc1 fs1
  have fc2 := fc1.keep (N := N) (p := p) hM1 hp1 hq F2 G2
  obtain ⟨f3, g3, P3, b1, b2, fs3, F3, G3⟩ := vd_both (pl := 1) hM1 hN hp1 h605 hq hnow hX p0 q0 hBG (by decide) (hWs 1) (hHs 1) hcov hWH fc2 fs2
  have fc3 := fc2.keep (N := N) (p := p) hM1 hp1 hq F3 G3
  obtain ⟨f4, g4, P4, c1, c2, fs4, F4, G4⟩ := vd_both (pl := 2) hM1 hN hp1 h605 hq hnow hX p0 q0 hBG (by decide) (hWs 2) (hHs 2) hcov hWH fc3 fs3
  have z0 : ((0 : Nat) : Int) = 0 := rfl
  have z1 : ((1 : Nat) : Int) = 1 := rfl
  have z2 : ((2 : Nat) : Int) = 2 := rfl
  have z3 : ((3 : Nat) : Int) = 3 := rfl
  simp only [Nat.zero_add, Nat.reduceAdd, z0, z1, z2, z3] at a1 a2 b1 b2 c1 c2
  rw [z0] at l1
  have F14 : vd_fFl s f1 f4 := (F2.trans F3).trans F4
  have G04 : vd_gFl q g0 g4 := (G2.trans G3).trans G4
  refine ⟨f4, g4, P4, fun d Q => ?_, fun d Q => ?_, fs4, fun c i q1 q2 q3 q4 => by rw [F14 c i q1 q4 (by omega), k1 c i q2 q3], fun c k q1 q2 q3 => by rw [G04 c k q1 q2 q3, j0 c k (by omega)]⟩
  · have f20 := ca.2.2.2.1.1
    have X10 := hX.2.1.2.1
    rw [vd_S136_0 hM, f20]
    simp (disch := first | assumption | omega) only [vd_I_toInt, hX10, if_false, ← hf0, vd_S136_16 hM, hrs, vd_vr_some, vd_S136_21 hM, vd_S136_24 hM1]
    refine (l1 (d + 3) Q).trans ?_
    rw [vd_S136_57 hM1, vd_S136_59 hM1]
    simp (disch := omega) only [vd_I_toInt, show (0 : Int) < 3 by decide, if_true, a1]
    rw [vd_S136_59 hM1]
    simp (disch := omega) only [vd_I_toInt, show (1 : Int) < 3 by decide, if_true, b1]
    rw [vd_S136_59 hM1]
    simp (disch := omega) only [vd_I_toInt, show (2 : Int) < 3 by decide, if_true, c1]
    rw [vd_S136_59 hM1]
    simp (disch := omega) only [vd_I_toInt, Int.lt_irrefl, if_false, vd_S136_82 hM1]
  · obtain ⟨x2, x3, x4, x5, e1⟩ := a2 vd_U vd_U vd_U vd_U
    obtain ⟨y2, y3, y4, y5, e2⟩ := b2 x2 x3 x4 x5
    obtain ⟨w2, w3, w4, w5, e3⟩ := c2 y2 y3 y4 y5
    rw [vd_S264_0 hN, ← hg0, vd_S264_7 hN]
    simp (disch := omega) only [vd_I_toInt, show (0 : Int) < 3 by decide, if_true, e1]
    rw [vd_S264_7 hN]
    simp (disch := omega) only [vd_I_toInt, show (1 : Int) < 3 by decide, if_true, e2]
    rw [vd_S264_7 hN]
    simp (disch := omega) only [vd_I_toInt, show (2 : Int) < 3 by decide, if_true, e3]
    rw [vd_S264_7 hN]
    simp (disch := omega) only [vd_I_toInt, Int.lt_irrefl, if_false, vd_S264_96 hN]
end VDFA
