/-! ===== the filter: a line by the reference, put together ===== -/
section VDLQ
variable {N : vd_M} {q pl : Nat} {pw vt x y m L E t sz n : Int} {v : Int → Int}
theorem vd_P267 (hN : vd_SR N) (hq : vd_PD N q) (hnow : vd_r N 63 23 = some q) (hpl : pl < 3) (p0 : 1 ≤ pw ∧ pw ≤ 192) {g : Nat → Nat → Int32} (gq : g q 0 = vd_I pw) (hvt : vt = 0 ∨ vt = 1) (xb : -1000 ≤ x ∧ x ≤ 1000) (yb : -1000 ≤ y ∧ y ≤ 1000) (hsz : (sz = 0 ∧ n = 4 ∧ m = 4) ∨ (sz = 1 ∧ n = 8 ∧ m = 4) ∨ (sz = 2 ∧ n = 16 ∧ m = 8) ∨ (sz = 3 ∧ n = 32 ∧ m = 8)) (hl : ∀ i : Int, -m ≤ i → i < m → (0 ≤ vd_lx vt x i ∧ vd_lx vt x i < (vd_ws pl pw : Int)) ∧ (0 ≤ vd_ly vt y i ∧ vd_ly vt y i < (vd_sd pl : Int)) ∧ g (q + 2 + pl) (vd_lix pl pw vt x y i) &&& vd_I 255 = vd_I (v i)) (hv : vd_vb v) (hL : -1000 ≤ L ∧ L ≤ 1000) (hE : -1000 ≤ E ∧ E ≤ 1000) (ht : 0 ≤ t ∧ t ≤ 3) (hwb : vd_vb (vd_lnw L E t n v)) : ∃ (g' : Nat → Nat → Int32) (c : Int), (∀ d Q, vd_wp (d + 4) 267 0 [.ref 63, .int (vd_I (pl : Int)), .int (vd_I x), .int (vd_I y), .int (vd_I vt), .int (vd_I sz), .int (vd_I L), .int (vd_I E), .int (vd_I t), vd_U, vd_U, vd_U] [] (vd_mf N g) Q = Q (vd_mf N g') (.inl none)) ∧ (∀ i : Int, -m ≤ i → i < m → g' (q + 2 + pl) (vd_lix pl pw vt x y i) &&& vd_I 255 = vd_I (vd_lnw L E t n v i)) ∧ g' 63 129 = g 63 129 + vd_I c ∧ vd_ch c v (vd_lnw L E t n v) ∧ (∀ c k, c ≠ 128 → c ≠ q + 2 + pl → ¬ (c = 63 ∧ 129 ≤ k ∧ k ≤ 133) → g' c k = g c k) ∧ (∀ k, (∀ i : Int, -m ≤ i → i < m → k ≠ vd_lix pl pw vt x y i) → g' (q + 2 + pl) k = g (q + 2 + pl) k) := by
  have hqb := hq.2.2.2
  have m4 : 4 ≤ m ∧ m ≤ 8 := by omega
  have hfk : vd_fok .boolean (vd_I vt) = true := by rcases hvt with rfl | rfl <;> decide
  obtain ⟨g1, hg1⟩ : ∃ g1, g1 = vd_up (vd_up (vd_up (vd_up g 63 130 (vd_I (pl : Int))) 63 131 (vd_I x)) 63 132 (vd_I y)) 63 133 (vd_I vt) := ⟨_, rfl⟩
  have k1 : ∀ c k, ¬ (c = 63 ∧ 130 ≤ k ∧ k ≤ 133) → g1 c k = g c k := fun c k h => by rw [hg1, vd_up_ne (by omega), vd_up_ne (by omega), vd_up_ne (by omega), vd_up_ne (by omega)]
  have lr1 : vd_LR q pl pw vt x y m v g1 := ⟨⟨hvt, xb, yb, m4.2⟩, ⟨by rw [hg1, vd_up_ne (by omega), vd_up_ne (by omega), vd_up_ne (by omega), vd_up_eq], by rw [hg1, vd_up_ne (by omega), vd_up_ne (by omega), vd_up_eq], by rw [hg1, vd_up_ne (by omega), vd_up_eq], by rw [hg1, vd_up_eq]⟩, by rw [k1 _ _ (by omega)]; exact gq, fun i i0 i1 => by
    have := hl i i0 i1
    refine ⟨this.1, this.2.1, ?_⟩
    rw [k1 _ _ (by omega)]
    exact this.2.2⟩
  obtain ⟨g2, a1, lr2, h8, F2⟩ := vd_L267a hN hq hnow hpl p0 ⟨by omega, m4.2⟩ (vd_I (pl : Int)) (vd_I x) (vd_I y) (vd_I vt) (vd_I sz) (vd_I L) (vd_I E) (vd_I t) vd_U (2 * m).toNat (-m) g1 (by omega) (by omega) lr1 (fun j j0 j1 => by omega)
  have h1 := hv (-2)
  have h2 := hv (-1)
  have h3 := hv 0
  have h4 := hv 1
  have A := fun (z : Int) (h : -100000 ≤ z ∧ z ≤ 100000) => vd_abP (M := N) (f := g2) h
  have P := fun (k : Int) (k0 : 0 ≤ k) (k1 : k < m) => vd_P269 hN h8 k0 k1 m4.2
  have P' := fun (k : Int) (k0 : 0 ≤ k) (k1 : k < m) => vd_P270 hN h8 k0 k1 m4.2
  have q1 := vd_av_b (z := v (-1) - v 0) (c := 255) (by omega) (by omega)
  have q2 := vd_av_b (z := v (-2) - v 1) (c := 255) (by omega) (by omega)
  have lb := fun d Q => vd_L267b hN hv m4 h8 hL (vd_I (pl : Int)) (vd_I x) (vd_I y) (vd_I vt) (vd_I sz) (vd_I E) (vd_I t) vd_U d Q 3 0 (by decide) (by decide)
  have head : ∀ d Q, vd_wp (d + 4) 267 0 [.ref 63, .int (vd_I (pl : Int)), .int (vd_I x), .int (vd_I y), .int (vd_I vt), .int (vd_I sz), .int (vd_I L), .int (vd_I E), .int (vd_I t), vd_U, vd_U, vd_U] [] (vd_mf N g) Q = if vd_ok3 L v 3 0 = 0 then Q (vd_mf N g2) (.inl none) else if E < vd_gap v then Q (vd_mf N g2) (.inl none) else vd_wp (d + 4) 267 170 [.ref 63, .int (vd_I (pl : Int)), .int (vd_I x), .int (vd_I y), .int (vd_I vt), .int (vd_I sz), .int (vd_I L), .int (vd_I E), .int (vd_I t), .int (vd_I m), .int (vd_I 3), vd_U] [] (vd_mf N g2) Q := by
    intro d Q
    have e40 : vd_wp (d + 4) 267 0 [.ref 63, .int (vd_I (pl : Int)), .int (vd_I x), .int (vd_I y), .int (vd_I vt), .int (vd_I sz), .int (vd_I L), .int (vd_I E), .int (vd_I t), vd_U, vd_U, vd_U] [] (vd_mf N g) Q = vd_wp (d + 4) 267 40 [.ref 63, .int (vd_I (pl : Int)), .int (vd_I x), .int (vd_I y), .int (vd_I vt), .int (vd_I sz), .int (vd_I L), .int (vd_I E), .int (vd_I t), .int (vd_I m), .int (vd_I (-m)), vd_U] [] (vd_mf N g1) Q := by
      by_cases c : 1 < sz
      · have em : m = 8 := by omega
        rw [em]
        simp (disch := first | assumption | omega) only [vd_S267_0 hN, vd_I_toInt, c, if_true, ← hg1, vd_S267_27 hN, vd_S267_33 hN, vd_I_neg]
      · have em : m = 4 := by omega
        rw [em]
        simp (disch := first | assumption | omega) only [vd_S267_0 hN, vd_I_toInt, c, if_false, ← hg1, vd_S267_32 hN, vd_S267_33 hN, vd_I_neg]
    rw [e40]
    refine (a1 (d + 1) Q).trans ?_
    rw [vd_S267_69 hN]
    refine (lb (d + 3) Q).trans ?_
    by_cases c3 : vd_ok3 L v 3 0 = 0
    · rw [if_pos c3, if_pos c3]
    · rw [if_neg c3, if_neg c3]
      simp (disch := omega) only [vd_S267_131 hN, vd_S267_134 hN, P, show (-1 - 0 : Int) = -1 from rfl, vd_S267_137 hN, vd_S267_139 hN, P', vd_S267_142 hN, vd_I_sub, vd_S267_143 hN, A, vd_S267_146 hN, vd_I_mul, vd_S267_149 hN, show (-1 - 1 : Int) = -2 from rfl, vd_S267_152 hN, vd_S267_154 hN, vd_S267_157 hN, vd_S267_158 hN, vd_S267_161 hN, vd_I_div, vd_I_add, vd_I_toInt, vd_S267_169 hN, vd_rs_v, vd_rs_n]
      rfl
  have k2 : ∀ c k, c ≠ 128 → ¬ (c = 63 ∧ 130 ≤ k ∧ k ≤ 133) → g2 c k = g c k := fun c k a b => by rw [F2 c k a, k1 c k b]
  have none' : ∀ {w : Int → Int}, w = v → (∀ i : Int, -m ≤ i → i < m → g2 (q + 2 + pl) (vd_lix pl pw vt x y i) &&& vd_I 255 = vd_I (w i)) ∧ g2 63 129 = g 63 129 + vd_I 0 ∧ vd_ch 0 v w ∧ (∀ c k, c ≠ 128 → c ≠ q + 2 + pl → ¬ (c = 63 ∧ 129 ≤ k ∧ k ≤ 133) → g2 c k = g c k) ∧ (∀ k, (∀ i : Int, -m ≤ i → i < m → k ≠ vd_lix pl pw vt x y i) → g2 (q + 2 + pl) k = g (q + 2 + pl) k) := by
    intro w hw
    subst hw
    exact ⟨fun i i0 i1 => (lr2.2.2.2 i i0 i1).2.2, by rw [k2 _ _ (by omega) (by omega), show vd_I 0 = 0 from rfl, Int32.add_zero], vd_ch0 _, fun c k a b e => k2 c k a (by omega), fun k a => k2 _ _ (by omega) (by omega)⟩
  by_cases c3 : vd_ok3 L v 3 0 = 0
  · have er : vd_lnw L E t n v = v := if_pos (Or.inl c3)
    exact ⟨g2, 0, fun d Q => by rw [head, if_pos c3], none' er⟩
  by_cases cE : E < vd_gap v
  · have er : vd_lnw L E t n v = v := if_pos (Or.inr cE)
    exact ⟨g2, 0, fun d Q => by rw [head, if_neg c3, if_pos cE], none' er⟩
  -- from a smoothed line on
  have rest : ∀ (g3 : Nat → Nat → Int32), vd_LR q pl pw vt x y m (vd_lnw L E t n v) g3 → vd_L8 m v g3 → vd_gLn q pl pw vt x y m g2 g3 → (∀ d Q, ∃ x10 : Int32, vd_wp (d + 4) 267 170 [.ref 63, .int (vd_I (pl : Int)), .int (vd_I x), .int (vd_I y), .int (vd_I vt), .int (vd_I sz), .int (vd_I L), .int (vd_I E), .int (vd_I t), .int (vd_I m), .int (vd_I 3), vd_U] [] (vd_mf N g2) Q = vd_wp (d + 4) 267 240 [.ref 63, .int (vd_I (pl : Int)), .int (vd_I x), .int (vd_I y), .int (vd_I vt), .int (vd_I sz), .int (vd_I L), .int (vd_I E), .int (vd_I t), .int (vd_I m), .int x10, vd_U] [] (vd_mf N g3) Q) → ∃ (g' : Nat → Nat → Int32) (c : Int), (∀ d Q, vd_wp (d + 4) 267 0 [.ref 63, .int (vd_I (pl : Int)), .int (vd_I x), .int (vd_I y), .int (vd_I vt), .int (vd_I sz), .int (vd_I L), .int (vd_I E), .int (vd_I t), vd_U, vd_U, vd_U] [] (vd_mf N g) Q = Q (vd_mf N g') (.inl none)) ∧ (∀ i : Int, -m ≤ i → i < m → g' (q + 2 + pl) (vd_lix pl pw vt x y i) &&& vd_I 255 = vd_I (vd_lnw L E t n v i)) ∧ g' 63 129 = g 63 129 + vd_I c ∧ vd_ch c v (vd_lnw L E t n v) ∧ (∀ c k, c ≠ 128 → c ≠ q + 2 + pl → ¬ (c = 63 ∧ 129 ≤ k ∧ k ≤ 133) → g' c k = g c k) ∧ (∀ k, (∀ i : Int, -m ≤ i → i < m → k ≠ vd_lix pl pw vt x y i) → g' (q + 2 + pl) k = g (q + 2 + pl) k) := by
    intro g3 lr3 h83 gl3 e3
    have lp := fun (x10 : Int32) d Q => vd_L267c hN hq hnow hpl p0 ⟨by omega, m4.2⟩ hv hwb lr3 h83 (vd_I (pl : Int)) (vd_I x) (vd_I y) (vd_I vt) (vd_I sz) (vd_I L) (vd_I E) (vd_I t) x10 d Q (2 * m).toNat (-m) (by omega) (by omega)
    have dv := vd_df_v (vd_lnw L E t n v) v (2 * m).toNat (-m)
    have d0 := vd_df_0 (vd_lnw L E t n v) v (2 * m).toNat (-m)
    have g3129 : g3 63 129 = g 63 129 := by rw [gl3.1 _ _ (by omega), k2 _ _ (by omega) (by omega)]
    have dch : vd_ch (vd_df (vd_lnw L E t n v) v (2 * m).toNat (-m)) v (vd_lnw L E t n v) := by
      refine ⟨dv, d0.trans ⟨fun h i => ?_, fun h i _ _ => h i⟩⟩
      by_cases ci : -m ≤ i ∧ i < m
      · exact h i ci.1 (by omega)
      · exact vd_lnw_o (m := m) (by omega) (by omega)
    have run : ∀ d Q, vd_wp (d + 4) 267 0 [.ref 63, .int (vd_I (pl : Int)), .int (vd_I x), .int (vd_I y), .int (vd_I vt), .int (vd_I sz), .int (vd_I L), .int (vd_I E), .int (vd_I t), vd_U, vd_U, vd_U] [] (vd_mf N g) Q = if vd_df (vd_lnw L E t n v) v (2 * m).toNat (-m) = 0 then Q (vd_mf N g3) (.inl none) else Q (vd_mf N (vd_up g3 63 129 (g3 63 129 + vd_I 1))) (.inl none) := by
      intro d Q
      obtain ⟨x10, e⟩ := e3 d Q
      rw [head, if_neg c3, if_neg cE, e, vd_S267_240 hN, vd_I_neg]
      exact lp x10 (d + 1) Q
    rcases dv with c | c
    · rw [c] at dch
      exact ⟨g3, 0, fun d Q => by rw [run, if_pos c], fun i i0 i1 => (lr3.2.2.2 i i0 i1).2.2, by rw [g3129, show vd_I 0 = 0 from rfl, Int32.add_zero], dch, fun c k a b e => by rw [gl3.1 c k b, k2 c k a (by omega)], fun k a => by rw [gl3.2 k a, k2 _ _ (by omega) (by omega)]⟩
    · rw [c] at dch
      refine ⟨vd_up g3 63 129 (g3 63 129 + vd_I 1), 1, fun d Q => by rw [run, if_neg (by omega)], fun i i0 i1 => ?_, by rw [vd_up_eq, g3129], dch, fun c k a b e => ?_, fun k a => ?_⟩
      · rw [vd_up_ne (by omega)]
        exact (lr3.2.2.2 i i0 i1).2.2
      · rw [vd_up_ne (by omega), gl3.1 c k b, k2 c k a (by omega)]
      · rw [vd_up_ne (by omega), gl3.2 k a, k2 _ _ (by omega) (by omega)]
  have ev3 := fun d Q => vd_L271 hN hv h8 m4.2 (a := 1) (e := 3) (by decide) (by omega) d Q 3 1 (by decide) (by decide)
  have o1 : ¬ ((1 : Int) = 0) := by decide
  have m272 : ∀ w : Int, (w = 3 ∨ w = 7) → w + 1 ≤ m → ∃ g' : Nat → Nat → Int32, (∀ d Q, vd_wp (d + 3) 272 0 [.ref 63, .int (vd_I w), vd_U, vd_U, vd_U] [] (vd_mf N g2) Q = Q (vd_mf N g') (.inl none)) ∧ vd_LR q pl pw vt x y m (vd_mr w v) g' ∧ vd_L8 m v g' ∧ vd_gLn q pl pw vt x y m g2 g' := by
    intro w hw hwm
    obtain ⟨g', r1, r2⟩ := vd_L272 hN hq hnow hpl p0 hv hw hwm m4.2 (2 * w).toNat (-w) g2 vd_U vd_U (by omega) (by omega) (by rw [show -w + w = 0 by omega, vd_mpt_0]; exact lr2) h8
    refine ⟨g', fun d Q => ?_, r2⟩
    rw [vd_S272_0 hN, vd_I_neg]
    exact r1 d Q
  by_cases cn : n < 8 ∨ vd_eq3 v 3 1 = 0
  · have er : vd_lnw L E t n v = vd_nwr t v := by
      unfold vd_lnw
      rw [if_neg (by omega), if_pos cn]
    obtain ⟨g3, r1, r2, r3, r4⟩ := vd_P274 hN hq hnow hpl p0 lr2 h8 hv (by omega) ht
    refine rest g3 (by rw [er]; exact r2) r3 r4 (fun d Q => ⟨vd_I 0, ?_⟩)
    by_cases c0 : 0 < sz
    · have ce : vd_eq3 v 3 1 = 0 := by omega
      by_cases c1 : 1 < sz
      · simp (disch := omega) only [vd_S267_170 hN, vd_I_toInt, c0, if_true, vd_S267_175 hN, vd_S267_178 hN, vd_S271_0 hN, ev3, ce, vd_S267_181 hN, vd_S267_188 hN, vd_S267_189 hN, c1, vd_S267_197 hN, vd_S267_221 hN, vd_S267_234 hN, vd_S267_237 hN, r1, vd_rs_v, vd_rs_n]
      · simp (disch := omega) only [vd_S267_170 hN, vd_I_toInt, c0, if_true, vd_S267_175 hN, vd_S267_178 hN, vd_S271_0 hN, ev3, ce, vd_S267_181 hN, vd_S267_188 hN, vd_S267_189 hN, c1, if_false, vd_S267_221 hN, vd_S267_234 hN, vd_S267_237 hN, r1, vd_rs_v, vd_rs_n]
    · have c1 : ¬ (1 < sz) := by omega
      simp (disch := omega) only [vd_S267_170 hN, vd_I_toInt, c0, if_false, vd_S267_188 hN, vd_S267_189 hN, c1, vd_S267_221 hN, if_true, vd_S267_234 hN, vd_S267_237 hN, r1, vd_rs_v, vd_rs_n]
  · have c0 : 0 < sz := by omega
    have ev1 : vd_eq3 v 3 1 = 1 := by have := vd_eq3_v v 3 1; omega
    by_cases cm : n < 16 ∨ vd_eq3 v 4 4 = 0
    · have er : vd_lnw L E t n v = vd_mr 3 v := by
        unfold vd_lnw
        rw [if_neg (by omega), if_neg cn, if_pos cm]
      obtain ⟨g3, r1, r2, r3, r4⟩ := m272 3 (Or.inl rfl) (by omega)
      refine rest g3 (by rw [er]; exact r2) r3 r4 (fun d Q => ⟨vd_I 1, ?_⟩)
      by_cases c1 : 1 < sz
      · have ce4 : vd_eq3 v 4 4 = 0 := by omega
        have ev4 := fun d Q => vd_L271 hN hv h8 m4.2 (a := 4) (e := 7) (by decide) (by omega) d Q 4 4 (by decide) (by decide)
        simp (disch := omega) only [vd_S267_170 hN, vd_I_toInt, c0, if_true, vd_S267_175 hN, vd_S267_178 hN, vd_S271_0 hN, ev3, ev1, vd_S267_181 hN, o1, if_false, vd_S267_184 hN, vd_S267_189 hN, c1, vd_S267_197 hN, vd_S267_202 hN, vd_S267_206 hN, ev4, ce4, vd_S267_209 hN, vd_S267_221 hN, vd_S267_226 hN, vd_S267_228 hN, r1, vd_S267_231 hN, vd_rs_v, vd_rs_n]
      · simp (disch := omega) only [vd_S267_170 hN, vd_I_toInt, c0, if_true, vd_S267_175 hN, vd_S267_178 hN, vd_S271_0 hN, ev3, ev1, vd_S267_181 hN, o1, if_false, vd_S267_184 hN, vd_S267_189 hN, c1, vd_S267_221 hN, vd_S267_226 hN, vd_S267_228 hN, r1, vd_S267_231 hN, vd_rs_v, vd_rs_n]
    · have er : vd_lnw L E t n v = vd_mr 7 v := by
        unfold vd_lnw
        rw [if_neg (by omega), if_neg cn, if_neg cm]
      have c1 : 1 < sz := by omega
      have ce4 : vd_eq3 v 4 4 = 1 := by have := vd_eq3_v v 4 4; omega
      have ev4 := fun d Q => vd_L271 hN hv h8 m4.2 (a := 4) (e := 7) (by decide) (by omega) d Q 4 4 (by decide) (by decide)
      obtain ⟨g3, r1, r2, r3, r4⟩ := m272 7 (Or.inr rfl) (by omega)
      refine rest g3 (by rw [er]; exact r2) r3 r4 (fun d Q => ⟨vd_I 1, ?_⟩)
      simp (disch := omega) only [vd_S267_170 hN, vd_I_toInt, c0, if_true, vd_S267_175 hN, vd_S267_178 hN, vd_S271_0 hN, ev3, ev1, vd_S267_181 hN, o1, if_false, vd_S267_184 hN, vd_S267_189 hN, c1, vd_S267_197 hN, vd_S267_202 hN, vd_S267_206 hN, ev4, ce4, vd_S267_209 hN, vd_S267_212 hN, vd_S267_215 hN, r1, vd_S267_218 hN, vd_rs_v, vd_rs_n]
end VDLQ
