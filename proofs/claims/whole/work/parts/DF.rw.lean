/-! ===== all squares of a plane of a block ===== -/
section VDRW
variable {M N : vd_M} {ow fa lo lf W H nb o : Nat} {O : Nat → Nat → Option Nat} {B X : Nat → Nat → Int} {Z : Nat → Nat → Nat → Nat} {b : Nat → Int} {pw ph : Int} {p s q pl sz : Nat}
theorem vd_rowQ (hC : vd_QC M N ow fa lo lf nb W H o p s q X Z b pw ph) (hpl : pl < 3) (hs : sz < 4) (hl : X 0 13 = 1 → sz = 0) {x0 w xe xc y : Nat} (hxe : x0 + w = xe) (hxc : xc = min xe (vd_us pl * W)) (hxw : xe ≤ vd_ws pl pw) (hy : y + vd_sn sz ≤ vd_ws pl ph) (hy4 : y % 4 = 0) (hyH : y < vd_us pl * H) (hO : ∀ a c, x0 / 4 ≤ a → a < xe / 4 → y / 4 ≤ c → c < (y + vd_sn sz) / 4 → a / vd_cu pl < W → c / vd_cu pl < H → O (a / vd_cu pl) (c / vd_cu pl) ≠ none) : ∀ (m x n0 : Nat) (P K : Nat → Nat → Nat → Int) (f g : Nat → Nat → Int32) (a11 c11 c12 c13 : Value), x + m * vd_sn sz = xe → x0 ≤ x → x % 4 = 0 → vd_SB fa nb q W H O B X Z b pw ph f g → vd_QI s q W H pw ph O n0 P K f g → n0 + 32 * (vd_sn sz * vd_sn sz) * m ≤ 8000000 → (∀ a c, x / 4 ≤ a → a < xe / 4 → y / 4 ≤ c → c < (y + vd_sn sz) / 4 → K pl a c ≠ 2 ∧ (o = 1 → K pl a c ≠ 0)) → ∃ (f' g' : Nat → Nat → Int32) (P' K' : Nat → Nat → Nat → Int) (xf : Int32) (b11 d11 d12 d13 : Value), (∀ x3 x7 d Q, vd_wp (d + 4) 112 127 [.ref 44, .int (vd_I (pl : Int)), .int (vd_I (o : Int)), .int x3, .int (vd_I (sz : Int)), .int (vd_I ((vd_sn sz : Nat) : Int)), .int (vd_I (xc : Int)), .int x7, .int (vd_I (vd_md b pl)), .int (vd_I (y : Int)), .int (vd_I (x : Int)), a11] [] (vd_mf M f) Q = vd_wp (d + 4) 112 255 [.ref 44, .int (vd_I (pl : Int)), .int (vd_I (o : Int)), .int x3, .int (vd_I (sz : Int)), .int (vd_I ((vd_sn sz : Nat) : Int)), .int (vd_I (xc : Int)), .int x7, .int (vd_I (vd_md b pl)), .int (vd_I (y : Int)), .int xf, b11] [] (vd_mf M f') Q) ∧ (∀ x4 x6 d Q, vd_wp (d + 6) 235 149 [.ref 63, .int (vd_I (pl : Int)), .int (vd_I ((vd_us pl : Nat) : Int)), .int (vd_I (x0 : Int)), .int x4, .int (vd_I (w : Int)), .int x6, .int (vd_I (sz : Int)), .int (vd_I ((vd_sn sz : Nat) : Int)), .int (vd_I (y : Int)), .int (vd_I (x : Int)), c11, c12, c13] [] (vd_mf N g) Q = vd_wp (d + 6) 235 326 [.ref 63, .int (vd_I (pl : Int)), .int (vd_I ((vd_us pl : Nat) : Int)), .int (vd_I (x0 : Int)), .int x4, .int (vd_I (w : Int)), .int x6, .int (vd_I (sz : Int)), .int (vd_I ((vd_sn sz : Nat) : Int)), .int (vd_I (y : Int)), .int (vd_I (xe : Int)), d11, d12, d13] [] (vd_mf N g') Q) ∧ vd_QI s q W H pw ph O (n0 + 32 * (vd_sn sz * vd_sn sz) * m) P' K' f' g' ∧ (∀ c a e, ¬ (c = pl ∧ x / 4 ≤ a ∧ a < xe / 4 ∧ y / 4 ≤ e ∧ e < (y + vd_sn sz) / 4) → K' c a e = K c a e) ∧ vd_fS s f f' ∧ vd_gS q g g' := by
  obtain ⟨⟨hM, hN⟩, ⟨hp, h44⟩, ⟨hq, hnow⟩, sw⟩ := id hC
  have nb := vd_nnb hs
  have n4 : vd_sn sz % 4 = 0 := by rcases vd_nn_v hs with ⟨_, e⟩ | ⟨_, e⟩ | ⟨_, e⟩ | ⟨_, e⟩ <;> rw [e]
  have hW := sw.2.1
  have p0 := sw.2.2.2.2.1.1
  have q0 := sw.2.2.2.2.1.2
  have wsb := (vd_ws_b (pl := pl) p0.1 p0.2).1
  have hsb := (vd_ws_b (pl := pl) q0.1 q0.2).1
  have sd : vd_sd pl ≤ 192 := by unfold vd_sd; split <;> omega
  have us8 : vd_us pl ≤ 8 := by rcases vd_us_v pl with e | e <;> rw [e] <;> decide
  have usW : vd_us pl * W ≤ 192 := Nat.mul_le_mul us8 hW.2.1
  intro m
  induction m with
  | zero =>
    intro x n0 P K f g a11 c11 c12 c13 hx hx0 hx4 sb qi hn hreg
    have e : x = xe := by omega
    subst e
    have c : ¬ ((x : Int) < (xc : Int)) := by omega
    have c2 : ¬ ((x : Int) < (x0 : Int) + (w : Int)) := by omega
    refine ⟨f, g, P, K, vd_I (x : Int), a11, c11, c12, c13, fun x3 x7 d Q => ?_, fun x4 x6 d Q => ?_, qi, fun _ _ _ _ => rfl, vd_fS.refl s f, vd_gS.refl q g⟩
    · rw [vd_S112_127 hM]
      simp (disch := omega) only [vd_I_toInt, c, if_false]
    · rw [vd_S235_149 hN]
      simp (disch := omega) only [vd_I_add, vd_I_toInt, c2, if_false]
  | succ m ih =>
    intro x n0 P K f g a11 c11 c12 c13 hx hx0 hx4 sb qi hn hreg
    have gG := sb.2.2.1.2.1.1
    by_cases cW : x < vd_us pl * W
    · rw [Nat.succ_mul] at hx
      rw [Nat.mul_succ] at hn
      have c : (x : Int) < (xc : Int) := by omega
      have ex : (x : Int) + ((vd_sn sz : Nat) : Int) = ((x + vd_sn sz : Nat) : Int) := by omega
      obtain ⟨f1, g1, P1, r, b12, b13, t1, t2, hr, qi1, F1, G1⟩ := vd_square hC sb qi hpl hs hl (by omega) hx4 hy4 (by omega) hy cW hyH (fun a e h => hO a e (by unfold vd_insq at h; omega) (by unfold vd_insq at h; omega) (by unfold vd_insq at h; omega) (by unfold vd_insq at h; omega)) (fun a e h => hreg a e (by unfold vd_insq at h; omega) (by unfold vd_insq at h; omega) (by unfold vd_insq at h; omega) (by unfold vd_insq at h; omega)) c12 c13
      have kk : ∀ c a e, ¬ (c = pl ∧ x / 4 ≤ a ∧ a < (x + vd_sn sz) / 4 ∧ y / 4 ≤ e ∧ e < (y + vd_sn sz) / 4) → vd_K1 K pl sz x y r c a e = K c a e := fun c a e h => vd_rect_out (by omega)
      obtain ⟨f2, g2, P2, K2, xf, b11, d11, d12, d13, u1, u2, qi2, k2, F2, G2⟩ := ih (x + vd_sn sz) (n0 + 32 * (vd_sn sz * vd_sn sz)) P1 (vd_K1 K pl sz x y r) f1 g1 (.int (vd_I r)) (.int (vd_I r)) b12 b13 (by omega) (by omega) (by omega) (sb.keep hM hp hq F1 G1) qi1 (by omega) (fun a e h1 h2 h3 h4 => by rw [kk _ _ _ (by omega)]; exact hreg a e (by omega) h2 h3 h4)
      refine ⟨f2, g2, P2, K2, xf, b11, d11, d12, d13, fun x3 x7 d Q => ?_, fun x4 x6 d Q => ?_, ?_, fun c a e h => ?_, F1.trans F2, G1.trans G2⟩
      · rw [← u1, vd_S112_127 hM]
        simp (disch := omega) only [vd_I_toInt, c, if_true, t1, vd_S112_245 hM, vd_I_add, ex]
      · rw [← u2, vd_inR hN gG ⟨hW.2.1, hW.2.2.2.1⟩ hxe (by omega) (by omega) (by omega) cW hyH, t2, vd_S235_316 hN]
        simp (disch := omega) only [vd_I_add, ex]
      · rw [show n0 + 32 * (vd_sn sz * vd_sn sz) * (m + 1) = n0 + 32 * (vd_sn sz * vd_sn sz) + 32 * (vd_sn sz * vd_sn sz) * m by rw [Nat.mul_succ]; omega]
        exact qi2
      · rw [k2 c a e (by omega), kk c a e (by omega)]
    · have c : ¬ ((x : Int) < (xc : Int)) := by omega
      have xb : x ≤ xe := by omega
      refine ⟨f, g, P, K, vd_I (x : Int), a11, c11, c12, c13, fun x3 x7 d Q => ?_, fun x4 x6 d Q => ?_, ⟨qi.1, qi.2.1, qi.2.2.1.mono (by omega), qi.2.2.2⟩, fun _ _ _ _ => rfl, vd_fS.refl s f, vd_gS.refl q g⟩
      · rw [vd_S112_127 hM]
        simp (disch := omega) only [vd_I_toInt, c, if_false]
      · exact vd_skipR hN gG ⟨hW.2.1, hW.2.2.2.1⟩ ⟨nb.1, nb.2.1⟩ hxe (by omega) (by omega) x4 x6 _ c11 c12 c13 (d + 6) Q (m + 1) x hx (Or.inl (by omega))
/-- rows beyond the picture -/
theorem vd_skipC {g : Nat → Nat → Int32} (hN : vd_SR N) (hG : g 63 26 = vd_I (W : Int) ∧ g 63 27 = vd_I (H : Int)) (hW : W ≤ 24 ∧ H ≤ 24) {n x0 w xe T y0 h ye : Nat} (hn : 4 ≤ n ∧ n ≤ 32) (hxe : x0 + w = xe) (hT : x0 + T * n = xe) (hx9 : xe ≤ 1000) (hye : y0 + h = ye) (hy9 : ye ≤ 1000) (x7 : Int32) (a11 a12 a13 : Value) (d : Nat) (Q : vd_M → (Option Value ⊕ Nat) → Prop) : ∀ (m y : Nat) (a10 : Value), y + m * n = ye → vd_us pl * H ≤ y → vd_wp d 235 136 [.ref 63, .int (vd_I (pl : Int)), .int (vd_I ((vd_us pl : Nat) : Int)), .int (vd_I (x0 : Int)), .int (vd_I (y0 : Int)), .int (vd_I (w : Int)), .int (vd_I (h : Int)), .int x7, .int (vd_I (n : Int)), .int (vd_I (y : Int)), a10, a11, a12, a13] [] (vd_mf N g) Q = Q (vd_mf N g) (.inl none) := by
  intro m
  induction m with
  | zero =>
    intro y a10 hy _
    have c : ¬ ((y : Int) < (y0 : Int) + (h : Int)) := by omega
    rw [vd_S235_136 hN]
    simp (disch := omega) only [vd_I_add, vd_I_toInt, c, if_false, vd_S235_336 hN]
  | succ m ih =>
    intro y a10 hy ho
    rw [Nat.succ_mul] at hy
    have c : (y : Int) < (y0 : Int) + (h : Int) := by omega
    have ey : (y : Int) + (n : Int) = ((y + n : Nat) : Int) := by omega
    have sk := vd_skipR (pl := pl) (y := y) hN hG hW hn hxe hx9 (by omega) (vd_I (y0 : Int)) (vd_I (h : Int)) x7 a11 a12 a13 d Q T x0 hT (Or.inr ho)
    rw [← ih (y + n) (.int (vd_I (xe : Int))) (by omega) (by omega), vd_S235_136 hN]
    simp (disch := omega) only [vd_I_add, vd_I_toInt, c, if_true, vd_S235_146 hN, sk, vd_S235_326 hN, ey]
theorem vd_colQ (hC : vd_QC M N ow fa lo lf nb W H o p s q X Z b pw ph) (hpl : pl < 3) (hs : sz < 4) (hl : X 0 13 = 1 → sz = 0) {x0 w xe xc T bx y0 h ye yc : Nat} (hxe : x0 + w = xe) (hxc : xc = min xe (vd_us pl * W)) (hxw : xe ≤ vd_ws pl pw) (hT : x0 + T * vd_sn sz = xe) (hx4 : x0 % 4 = 0) (hbx : b 0 = (bx : Int) ∧ x0 = vd_us pl * bx) (hye : y0 + h = ye) (hyc : yc = min ye (vd_us pl * H)) (hyw : ye ≤ vd_ws pl ph) (hO : ∀ a c, x0 / 4 ≤ a → a < xe / 4 → y0 / 4 ≤ c → c < ye / 4 → a / vd_cu pl < W → c / vd_cu pl < H → O (a / vd_cu pl) (c / vd_cu pl) ≠ none) : ∀ (m y n0 : Nat) (P K : Nat → Nat → Nat → Int) (f g : Nat → Nat → Int32) (a10 a11 c10 c11 c12 c13 : Value), y + m * vd_sn sz = ye → y0 ≤ y → y % 4 = 0 → vd_SB fa nb q W H O B X Z b pw ph f g → vd_QI s q W H pw ph O n0 P K f g → n0 + 32 * (vd_sn sz * vd_sn sz) * T * m ≤ 8000000 → (∀ a c, x0 / 4 ≤ a → a < xe / 4 → y / 4 ≤ c → c < ye / 4 → K pl a c ≠ 2 ∧ (o = 1 → K pl a c ≠ 0)) → ∃ (f' g' : Nat → Nat → Int32) (P' K' : Nat → Nat → Nat → Int), (∀ d Q, vd_wp (d + 4) 112 111 [.ref 44, .int (vd_I (pl : Int)), .int (vd_I (o : Int)), .int (vd_I ((vd_us pl : Nat) : Int)), .int (vd_I (sz : Int)), .int (vd_I ((vd_sn sz : Nat) : Int)), .int (vd_I (xc : Int)), .int (vd_I (yc : Int)), .int (vd_I (vd_md b pl)), .int (vd_I (y : Int)), a10, a11] [] (vd_mf M f) Q = Q (vd_mf M f') (.inl none)) ∧ (∀ d Q, vd_wp (d + 6) 235 136 [.ref 63, .int (vd_I (pl : Int)), .int (vd_I ((vd_us pl : Nat) : Int)), .int (vd_I (x0 : Int)), .int (vd_I (y0 : Int)), .int (vd_I (w : Int)), .int (vd_I (h : Int)), .int (vd_I (sz : Int)), .int (vd_I ((vd_sn sz : Nat) : Int)), .int (vd_I (y : Int)), c10, c11, c12, c13] [] (vd_mf N g) Q = Q (vd_mf N g') (.inl none)) ∧ vd_QI s q W H pw ph O (n0 + 32 * (vd_sn sz * vd_sn sz) * T * m) P' K' f' g' ∧ (∀ c a e, ¬ (c = pl ∧ x0 / 4 ≤ a ∧ a < xe / 4 ∧ y0 / 4 ≤ e ∧ e < ye / 4) → K' c a e = K c a e) ∧ vd_fS s f f' ∧ vd_gS q g g' := by
  obtain ⟨⟨hM, hN⟩, ⟨hp, h44⟩, ⟨hq, hnow⟩, sw⟩ := id hC
  have nb1 := vd_nnb hs
  have n4 : vd_sn sz % 4 = 0 := by rcases vd_nn_v hs with ⟨_, e⟩ | ⟨_, e⟩ | ⟨_, e⟩ | ⟨_, e⟩ <;> rw [e]
  have hW := sw.2.1
  have p0 := sw.2.2.2.2.1.1
  have q0 := sw.2.2.2.2.1.2
  have wsb := (vd_ws_b (pl := pl) p0.1 p0.2).1
  have hsb := (vd_ws_b (pl := pl) q0.1 q0.2).1
  have sd : vd_sd pl ≤ 192 := by unfold vd_sd; split <;> omega
  have us8 : vd_us pl ≤ 8 := by rcases vd_us_v pl with e | e <;> rw [e] <;> decide
  have usH : vd_us pl * H ≤ 192 := Nat.mul_le_mul us8 hW.2.2.2.1
  have eb : ((vd_us pl : Nat) : Int) * b 0 = (x0 : Int) := by rw [hbx.1, hbx.2, Int.natCast_mul]
  have b0b := sw.2.2.2.1.1
  intro m
  induction m with
  | zero =>
    intro y n0 P K f g a10 a11 c10 c11 c12 c13 hy hy0 hy4 sb qi hn hreg
    have c : ¬ ((y : Int) < (yc : Int)) := by omega
    have c2 : ¬ ((y : Int) < (y0 : Int) + (h : Int)) := by omega
    refine ⟨f, g, P, K, fun d Q => ?_, fun d Q => ?_, qi, fun _ _ _ _ => rfl, vd_fS.refl s f, vd_gS.refl q g⟩
    · rw [vd_S112_111 hM]
      simp (disch := omega) only [vd_I_toInt, c, if_false, vd_S112_265 hM]
    · rw [vd_S235_136 hN]
      simp (disch := omega) only [vd_I_add, vd_I_toInt, c2, if_false, vd_S235_336 hN]
  | succ m ih =>
    intro y n0 P K f g a10 a11 c10 c11 c12 c13 hy hy0 hy4 sb qi hn hreg
    have gG := sb.2.2.1.2.1.1
    by_cases cH : y < vd_us pl * H
    · rw [Nat.succ_mul] at hy
      rw [Nat.mul_succ] at hn
      have c : (y : Int) < (yc : Int) := by omega
      have c2 : (y : Int) < (y0 : Int) + (h : Int) := by omega
      have ey : (y : Int) + ((vd_sn sz : Nat) : Int) = ((y + vd_sn sz : Nat) : Int) := by omega
      have P83 := fun (d : Nat) (Q : vd_M → (Option Value ⊕ Nat) → Prop) => vd_P83 (f := f) (d := d) (Q := Q) (k := nb) (q := 0) hM sb.1.1.1 hW.2.2.2.2 (by decide)
      have e0 : ((0 : Nat) : Int) = 0 := rfl
      rw [e0, sb.1.1.2 0 (by decide)] at P83
      obtain ⟨f1, g1, P1, K1, xf, b11, d11, d12, d13, t1, t2, qi1, k1, F1, G1⟩ := vd_rowQ hC hpl hs hl hxe hxc hxw (show y + vd_sn sz ≤ vd_ws pl ph by omega) hy4 cH (fun a e h1 h2 h3 h4 => hO a e h1 h2 (by omega) (by omega)) T x0 n0 P K f g a11 c11 c12 c13 hT (Nat.le_refl _) hx4 sb qi (by omega) (fun a e h1 h2 h3 h4 => hreg a e h1 h2 h3 (by omega))
      obtain ⟨f2, g2, P2, K2, u1, u2, qi2, k2, F2, G2⟩ := ih (y + vd_sn sz) (n0 + 32 * (vd_sn sz * vd_sn sz) * T) P1 K1 f1 g1 (.int xf) b11 (.int (vd_I (xe : Int))) d11 d12 d13 (by omega) (by omega) (by omega) (sb.keep hM hp hq F1 G1) qi1 (by omega) (fun a e h1 h2 h3 h4 => by rw [k1 _ _ _ (by omega)]; exact hreg a e h1 h2 (by omega) h4)
      refine ⟨f2, g2, P2, K2, fun d Q => ?_, fun d Q => ?_, ?_, fun c a e h => ?_, F1.trans F2, G1.trans G2⟩
      · rw [← u1 d Q, vd_S112_111 hM]
        simp (disch := omega) only [vd_I_toInt, c, if_true, vd_S112_118 hM, vd_S112_121 hM, P83, vd_S112_124 hM, vd_I_mul, eb, t1, vd_S112_255 hM, vd_I_add, ey, vd_rs_v, vd_rs_n]
      · rw [← u2 d Q, vd_S235_136 hN]
        simp (disch := omega) only [vd_I_add, vd_I_toInt, c2, if_true, vd_S235_146 hN, t2, vd_S235_326 hN, ey]
      · rw [show n0 + 32 * (vd_sn sz * vd_sn sz) * T * (m + 1) = n0 + 32 * (vd_sn sz * vd_sn sz) * T + 32 * (vd_sn sz * vd_sn sz) * T * m by rw [Nat.mul_succ]; omega]
        exact qi2
      · rw [k2 c a e h, k1 c a e (by omega)]
    · have c : ¬ ((y : Int) < (yc : Int)) := by omega
      have yb : y ≤ ye := by omega
      refine ⟨f, g, P, K, fun d Q => ?_, fun d Q => ?_, ⟨qi.1, qi.2.1, qi.2.2.1.mono (by omega), qi.2.2.2⟩, fun _ _ _ _ => rfl, vd_fS.refl s f, vd_gS.refl q g⟩
      · rw [vd_S112_111 hM]
        simp (disch := omega) only [vd_I_toInt, c, if_false, vd_S112_265 hM]
      · exact vd_skipC hN gG ⟨hW.2.1, hW.2.2.2.1⟩ ⟨nb1.1, nb1.2.1⟩ hxe hT (by omega) hye (by omega) _ c11 c12 c13 (d + 6) Q (m + 1) y c10 hy (by omega)
end VDRW
