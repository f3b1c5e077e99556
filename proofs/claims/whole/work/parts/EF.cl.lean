/-! ===== the filter: one cell of four samples, both ===== -/
section VDCL
variable {M N : vd_M} {ow fa lo lf W H nb p s q pl X4 Y4 : Nat} {O : Nat → Nat → Option Nat} {B X : Nat → Nat → Int} {pw ph vt : Int} {P : Nat → Nat → Nat → Int} {f g : Nat → Nat → Int32}
theorem vd_G265l (hN : vd_SR N) (hX : vd_XV X) (cb : vd_CB X g) {lev : Int} (l0 : 1 ≤ lev ∧ lev ≤ 63) (x1 x2 x3 x4 x5 x6 x7 x8 x9 : Int32) (d : Nat) (Q : vd_M → (Option Value ⊕ Nat) → Prop) : vd_wp (d + 1) 265 162 [.ref 63, .int x1, .int x2, .int x3, .int x4, .int x5, .int x6, .int x7, .int x8, .int x9, .int (vd_I lev), vd_U, vd_U] [] (vd_mf N g) Q = vd_wp (d + 1) 265 223 [.ref 63, .int x1, .int x2, .int x3, .int x4, .int x5, .int x6, .int x7, .int x8, .int x9, .int (vd_I lev), .int (vd_I (vd_lim X lev)), .int (vd_I 0)] [] (vd_mf N g) Q := by
  have f42 := cb.2.2.1.2.1
  have X11 := hX.2.1.2.2.1
  have P289 := fun (a c : Int) (h1 : -1000 ≤ a ∧ a ≤ 1000) (h2 : -1000 ≤ c ∧ c ≤ 1000) (d : Nat) (Q : vd_M → (Option Value ⊕ Nat) → Prop) => vd_P289 (M := N) (f := g) (d := d) (Q := Q) (a := a) (b := c) (by omega) (by omega) (by omega) (by omega)
  have P287 := fun (a c : Int) (h1 : -1000 ≤ a ∧ a ≤ 1000) (h2 : -1000 ≤ c ∧ c ≤ 1000) (d : Nat) (Q : vd_M → (Option Value ⊕ Nat) → Prop) => vd_P287 (M := N) (f := g) (d := d) (Q := Q) (a := a) (b := c) (by omega) (by omega) (by omega) (by omega)
  have sh0 : vd_I lev >>> (vd_I 0 &&& 31) = vd_I lev := by
    have := vd_I_shr (z := lev) (n := 0) (by omega) (by omega) (by decide)
    rw [show ((0 : Nat) : Int) = 0 from rfl, show ((2 ^ 0 : Nat) : Int) = 1 from rfl, Int.ediv_one] at this
    exact this
  by_cases c0 : 0 < X 0 11
  · by_cases c4 : 4 < X 0 11
    · have el : vd_lim X lev = max (min (lev / 4) (9 - X 0 11)) 1 := by unfold vd_lim; rw [if_pos c0, if_pos c4]
      rw [el]
      simp (disch := omega) only [vd_S265_162 hN, f42, vd_I_toInt, c4, if_true, vd_S265_172 hN, vd_S265_188 hN, c0, vd_shr2, vd_S265_198 hN, vd_I_sub, vd_S265_207 hN, P289, vd_S265_210 hN, vd_S265_212 hN, vd_S265_215 hN, P287, vd_S265_218 hN, vd_rs_v, vd_rs_n]
    · have el : vd_lim X lev = max (min (lev / 2) (9 - X 0 11)) 1 := by unfold vd_lim; rw [if_pos c0, if_neg c4]
      rw [el]
      simp (disch := omega) only [vd_S265_162 hN, f42, vd_I_toInt, c4, if_false, vd_S265_176 hN, c0, if_true, vd_S265_183 hN, vd_S265_188 hN, vd_shr1, vd_S265_198 hN, vd_I_sub, vd_S265_207 hN, P289, vd_S265_210 hN, vd_S265_212 hN, vd_S265_215 hN, P287, vd_S265_218 hN, vd_rs_v, vd_rs_n]
  · have el : vd_lim X lev = max lev 1 := by unfold vd_lim; rw [if_neg c0]
    have c4 : ¬ (4 < X 0 11) := by omega
    rw [el]
    simp (disch := omega) only [vd_S265_162 hN, f42, vd_I_toInt, c4, if_false, vd_S265_176 hN, c0, vd_S265_187 hN, vd_S265_188 hN, sh0, vd_S265_212 hN, vd_S265_215 hN, P287, vd_S265_218 hN, vd_rs_v, vd_rs_n]
def vd_ClPost (M N : vd_M) (s q pl X4 Y4 : Nat) (pw ph vt : Int) (f g : Nat → Nat → Int32) : Prop := ∃ (f' g' : Nat → Nat → Int32) (P' : Nat → Nat → Nat → Int), (∀ a8 a9 a10 a11, ∃ (b8 b9 : Int32) (b10 b11 : Value), ∀ d Q, vd_wp (d + 4) 138 72 [.ref 60, .int (vd_I (pl : Int)), .int (vd_I (1 - vt)), .int (vd_I ((vd_cu pl : Nat) : Int)), .int (vd_I (vd_stp pl vt)), .int (vd_I (vd_ost pl vt)), .int (vd_I (Y4 : Int)), .int (vd_I (X4 : Int)), a8, a9, a10, a11] [] (vd_mf M f) Q = vd_wp (d + 4) 138 201 [.ref 60, .int (vd_I (pl : Int)), .int (vd_I (1 - vt)), .int (vd_I ((vd_cu pl : Nat) : Int)), .int (vd_I (vd_stp pl vt)), .int (vd_I (vd_ost pl vt)), .int (vd_I (Y4 : Int)), .int (vd_I (X4 : Int)), .int b8, .int b9, b10, b11] [] (vd_mf M f') Q) ∧ (∀ d Q, vd_wp (d + 5) 265 0 [.ref 63, .int (vd_I (pl : Int)), .int (vd_I (4 * (X4 : Int))), .int (vd_I (4 * (Y4 : Int))), .int (vd_I vt), vd_U, vd_U, vd_U, vd_U, vd_U, vd_U, vd_U, vd_U] [] (vd_mf N g) Q = Q (vd_mf N g') (.inl none)) ∧ vd_FS s q pw ph P' f' g' ∧ vd_fFl s f f' ∧ vd_gFl q g g'
theorem vd_cellF (hM : vd_SC M ow fa lo lf) (hN : vd_SR N) (hp : vd_PC M p s) (h605 : vd_r M 60 5 = some s) (hq : vd_PD N q) (hnow : vd_r N 63 23 = some q) (hX : vd_XV X) (p0 : 1 ≤ pw ∧ pw ≤ 192) (q0 : 1 ≤ ph ∧ ph ≤ 192) (fc : vd_FC ow fa W H nb O B X f g) (hBG : ∀ k, k < nb → vd_BG X (B k)) (fs : vd_FS s q pw ph P f g) (hpl : pl < 3) (hvt : vt = 0 ∨ vt = 1) (hWs : vd_us pl * W ≤ vd_ws pl pw) (hHs : vd_us pl * H ≤ vd_ws pl ph) (hx : X4 < vd_cu pl * W) (hy : Y4 < vd_cu pl * H) {k : Nat} (hO : O (X4 / vd_cu pl) (Y4 / vd_cu pl) = some k) : vd_ClPost M N s q pl X4 Y4 pw ph vt f g := by
  have hp' := hp.2.2
  have hqb := hq.2.2.2
  obtain ⟨ga, gb, ⟨ca, cb⟩, lv⟩ := id fc
  obtain ⟨_, ⟨W1, W2, H1, H2, nb1⟩, _, k2, k3, k4⟩ := id ga
  have hk : k < nb := k2 _ _ _ hO
  have bV := k4 k hk
  obtain ⟨xx, yy, w, h, bb, bX, hw, hh⟩ := hBG k hk
  obtain ⟨⟨b0, b1, b2, b3⟩, _⟩ := id bb
  obtain ⟨sz, ez, hs, hz, hz0⟩ := vd_szV (pl := pl) bV bX.1
  have G := fun st ot a8 a9 a10 a11 d Q => vd_G138 (vt := vt) hM hX fc hpl hvt hx hy hO b2 b3 ez hs st ot a8 a9 a10 a11 d Q
  obtain ⟨x9, R⟩ := vd_G265 (vt := vt) hN gb W2 H2 hpl hvt hx hy hO bV b2 b3 hw hh ez hs
  have lb := vd_lv_b hX (B k)
  have cuv := vd_cu_v pl
  by_cases cE : vd_isE (B k) (4 * (if vt = 1 then (Y4 : Int) else (X4 : Int))) ((vd_sn sz : Nat) : Int) ((vd_us pl : Nat) : Int) vt = 0
  · refine ⟨f, g, P, fun a8 a9 a10 a11 => ⟨vd_I (18 * (k : Int)), vd_I ((vd_sn sz : Nat) : Int), a10, a11, fun d Q => ?_⟩, fun d Q => ?_, fs, fun _ _ _ _ _ => rfl, fun _ _ _ _ _ => rfl⟩
    · exact (G _ _ a8 a9 a10 a11 (d + 2) Q).trans (if_pos cE)
    · exact (R (d + 3) Q).trans (if_pos cE)
  obtain ⟨psc, psr, pb, cnt, gq⟩ := id fs
  obtain ⟨f1, l1, l6, l7, l8, F1⟩ := vd_P141 (lev := vd_lv X (B k)) hM hX ca lb
  have fs1 : vd_FS s q pw ph P f1 g := ⟨psc.keep fun i => F1 _ _ (by omega), psr, pb, by rw [F1 _ _ (by omega)]; exact cnt, gq⟩
  have ff1 : vd_fFl s f f1 := fun k j a b c => F1 k j (by omega)
  have xb : X4 < 48 ∧ Y4 < 48 := by
    rcases cuv with ⟨_, e, _⟩ | ⟨_, e, _⟩ <;> rw [e] at hx hy <;> omega
  have P109 := fun (d : Nat) (Q : vd_M → (Option Value ⊕ Nat) → Prop) => vd_P109 (x := 4 * X4) (y := 4 * Y4) (f := f1) (d := d) (Q := Q) hM hpl
  have eX : ((4 * X4 : Nat) : Int) = 4 * (X4 : Int) := by omega
  have eY : ((4 * Y4 : Nat) : Int) = 4 * (Y4 : Int) := by omega
  rw [eX, eY] at P109
  have c166 : ∀ a8 a9 a10 a11 d Q, vd_wp (d + 4) 138 72 [.ref 60, .int (vd_I (pl : Int)), .int (vd_I (1 - vt)), .int (vd_I ((vd_cu pl : Nat) : Int)), .int (vd_I (vd_stp pl vt)), .int (vd_I (vd_ost pl vt)), .int (vd_I (Y4 : Int)), .int (vd_I (X4 : Int)), a8, a9, a10, a11] [] (vd_mf M f) Q = vd_wp (d + 4) 138 166 [.ref 60, .int (vd_I (pl : Int)), .int (vd_I (1 - vt)), .int (vd_I ((vd_cu pl : Nat) : Int)), .int (vd_I (vd_stp pl vt)), .int (vd_I (vd_ost pl vt)), .int (vd_I (Y4 : Int)), .int (vd_I (X4 : Int)), .int (vd_I (18 * (k : Int))), .int (vd_I ((vd_sn sz : Nat) : Int)), .int (vd_I ((vd_ax pl (4 * X4) (4 * Y4) : Nat) : Int)), .int (vd_I 0)] [] (vd_mf M f1) Q := by
    intro a8 a9 a10 a11 d Q
    refine (G _ _ a8 a9 a10 a11 (d + 2) Q).trans ?_
    rw [if_neg cE]
    simp (disch := omega) only [vd_S138_146 hM, l1, vd_S138_149 hM, vd_I_mul, vd_S138_158 hM, P109, vd_S138_161 hM, vd_rs_v, vd_rs_n]
  have ub : X4 / vd_cu pl < W ∧ Y4 / vd_cu pl < H := by
    rcases cuv with ⟨_, e, _⟩ | ⟨_, e, _⟩ <;> rw [e] at hx hy ⊢ <;> omega
  obtain ⟨⟨_, _, _, _, g96, _⟩, ⟨_, _, _, g90⟩, ⟨g102, _, g100⟩, _⟩ := gb.2.2 _ _ k ub.1 ub.2 hO
  have ix := vd_ix ub.1 ub.2
  have WH : W * H ≤ 576 := Nat.mul_le_mul W2 H2
  have P266 := vd_P266 (u := W * (Y4 / vd_cu pl) + X4 / vd_cu pl) hN hX cb (by omega) g96 g90 g102 g100 bV
  by_cases cl : vd_lv X (B k) = 0
  · refine ⟨f1, g, P, fun a8 a9 a10 a11 => ⟨vd_I (18 * (k : Int)), vd_I ((vd_sn sz : Nat) : Int), .int (vd_I ((vd_ax pl (4 * X4) (4 * Y4) : Nat) : Int)), .int (vd_I 0), fun d Q => ?_⟩, fun d Q => ?_, fs1, ff1, fun _ _ _ _ _ => rfl⟩
    · rw [cl] at l6
      rw [c166, vd_S138_166 hM]
      simp (disch := omega) only [vd_I_toInt, show (0 : Int) < 4 by decide, if_true, vd_S138_172 hM, l6, Int.lt_irrefl, if_false]
    · refine (R (d + 3) Q).trans ?_
      rw [if_neg cE]
      simp (disch := omega) only [vd_S265_148 hN, vd_S265_151 hN, P266, vd_S265_154 hN, vd_I_toInt, vd_S265_161 hN, vd_rs_v, vd_rs_n]
      rw [if_pos cl]
  · obtain ⟨m, hm⟩ : ∃ m : Int, ((sz : Int) = 0 ∧ ((vd_sn sz : Nat) : Int) = 4 ∧ m = 4) ∨ ((sz : Int) = 1 ∧ ((vd_sn sz : Nat) : Int) = 8 ∧ m = 4) ∨ ((sz : Int) = 2 ∧ ((vd_sn sz : Nat) : Int) = 16 ∧ m = 8) ∨ ((sz : Int) = 3 ∧ ((vd_sn sz : Nat) : Int) = 32 ∧ m = 8) := by
      have : sz = 0 ∨ sz = 1 ∨ sz = 2 ∨ sz = 3 := by omega
      rcases this with rfl | rfl | rfl | rfl
      · exact ⟨4, Or.inl ⟨rfl, rfl, rfl⟩⟩
      · exact ⟨4, Or.inr (Or.inl ⟨rfl, rfl, rfl⟩)⟩
      · exact ⟨8, Or.inr (Or.inr (Or.inl ⟨rfl, rfl, rfl⟩))⟩
      · exact ⟨8, Or.inr (Or.inr (Or.inr ⟨rfl, rfl, rfl⟩))⟩
    have cE2 : ¬ (4 * (if vt = 1 then (Y4 : Int) else (X4 : Int)) = 0 ∨ 4 * (if vt = 1 then (Y4 : Int) else (X4 : Int)) % ((vd_sn sz : Nat) : Int) ≠ 0) := fun hh => cE (if_pos hh)
    have w32 : vd_ws pl pw % 32 = 0 ∧ vd_ws pl ph % 32 = 0 := by
      unfold vd_ws
      split <;> omega
    have usX : vd_us pl * W = 4 * (vd_cu pl * W) ∧ vd_us pl * H = 4 * (vd_cu pl * H) := by
      rcases cuv with ⟨e1, e2, _⟩ | ⟨e1, e2, _⟩ <;> rw [e1, e2] <;> omega
    have limb := vd_lim_b hX lb
    obtain ⟨f2, g2, P2, u1, u2, u3, u4, u5⟩ := vd_four (x := 4 * X4) (y := 4 * Y4) (vt := vt) (m := m) (n := ((vd_sn sz : Nat) : Int)) (sz := (sz : Int)) (L := vd_lim X (vd_lv X (B k))) (lev := vd_lv X (B k)) hM hN hp h605 hq hnow p0 q0 hpl hvt hm (by
      rcases hvt with rfl | rfl
      · rw [if_neg (show ¬ ((0 : Int) = 1) by decide)] at cE2 ⊢
        rcases hm with ⟨_, e, e'⟩ | ⟨_, e, e'⟩ | ⟨_, e, e'⟩ | ⟨_, e, e'⟩ <;> rw [e] at cE2 <;> omega
      · rw [if_pos (show (1 : Int) = 1 from rfl)]
        omega) (by
      rcases hvt with rfl | rfl
      · rw [if_neg (show ¬ ((0 : Int) = 1) by decide)]
        omega
      · rw [if_pos (show (1 : Int) = 1 from rfl)] at cE2 ⊢
        rcases hm with ⟨_, e, e'⟩ | ⟨_, e, e'⟩ | ⟨_, e, e'⟩ | ⟨_, e, e'⟩ <;> rw [e] at cE2 <;> omega) (by omega) (by omega) (vd_I (1 - vt)) (vd_I ((vd_cu pl : Nat) : Int)) (vd_I (Y4 : Int)) (vd_I (X4 : Int)) (vd_I (18 * (k : Int))) (vd_I ((vd_us pl : Nat) : Int)) (vd_I ((W * (Y4 / vd_cu pl) + X4 / vd_cu pl : Nat) : Int)) (vd_I (4 * (if vt = 1 then (Y4 : Int) else (X4 : Int)))) x9 4 0 f1 g P (by decide) fs1 ⟨l6, l7, l8⟩
    rw [show ((0 : Nat) : Int) = 0 from rfl] at u1 u2
    rw [eX, eY] at u2
    refine ⟨f2, g2, P2, fun a8 a9 a10 a11 => ⟨vd_I (18 * (k : Int)), vd_I ((vd_sn sz : Nat) : Int), .int (vd_I ((vd_ax pl (4 * X4) (4 * Y4) : Nat) : Int)), .int (vd_I 4), fun d Q => (c166 a8 a9 a10 a11 d Q).trans (u1 d Q)⟩, fun d Q => ?_, u3, ff1.trans u4, u5⟩
    refine (R (d + 3) Q).trans ?_
    rw [if_neg cE, ← u2 d Q, ← vd_G265l hN hX cb (by omega) _ _ _ _ _ _ _ _ _ (d + 4) Q]
    simp (disch := omega) only [vd_S265_148 hN, vd_S265_151 hN, P266, vd_S265_154 hN, vd_I_toInt, cl, if_false, vd_rs_v, vd_rs_n]
end VDCL
