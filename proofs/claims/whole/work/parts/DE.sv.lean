/-! ===== squares in a row ===== -/
def vd_QI (s q W H : Nat) (pw ph : Int) (O : Nat → Nat → Option Nat) (n : Nat) (P K : Nat → Nat → Nat → Int) (f g : Nat → Nat → Int32) : Prop := vd_PK s q pw ph P K f g ∧ vd_PKV W H pw ph O P K ∧ vd_RD n f g ∧ f 45 3 = g 63 47
/-- what stays while a block is painted -/
def vd_QC (M N : vd_M) (ow fa lo lf nb W H o p s q : Nat) (X : Nat → Nat → Int) (Z : Nat → Nat → Nat → Nat) (b : Nat → Int) (pw ph : Int) : Prop := (vd_SC M ow fa lo lf ∧ vd_SR N) ∧ (vd_PC M p s ∧ vd_r M 44 7 = some p) ∧ (vd_PD N q ∧ vd_r N 63 23 = some q) ∧ vd_SW nb W H X Z b pw ph o
section VDSV
variable {M N : vd_M} {ow fa lo lf W H nb o : Nat} {O : Nat → Nat → Option Nat} {B X : Nat → Nat → Int} {Z : Nat → Nat → Nat → Nat} {b : Nat → Int} {pw ph : Int} {p s q pl sz x y n0 : Nat} {P K : Nat → Nat → Nat → Int} {f g : Nat → Nat → Int32}
def vd_QPost (M N : vd_M) (W H : Nat) (O : Nat → Nat → Option Nat) (s q pl sz o x y n0 : Nat) (pw ph md : Int) (K : Nat → Nat → Nat → Int) (a12 a13 : Value) (f g : Nat → Nat → Int32) : Prop := ∃ (f' g' : Nat → Nat → Int32) (P' : Nat → Nat → Nat → Int) (r : Int) (b12 b13 : Value), (∀ x3 x6 x7 a11 d Q, vd_wp (d + 4) 112 134 [.ref 44, .int (vd_I (pl : Int)), .int (vd_I (o : Int)), .int x3, .int (vd_I (sz : Int)), .int (vd_I ((vd_sn sz : Nat) : Int)), .int x6, .int x7, .int (vd_I md), .int (vd_I (y : Int)), .int (vd_I (x : Int)), a11] [] (vd_mf M f) Q = vd_wp (d + 4) 112 245 [.ref 44, .int (vd_I (pl : Int)), .int (vd_I (o : Int)), .int x3, .int (vd_I (sz : Int)), .int (vd_I ((vd_sn sz : Nat) : Int)), .int x6, .int x7, .int (vd_I md), .int (vd_I (y : Int)), .int (vd_I (x : Int)), .int (vd_I r)] [] (vd_mf M f') Q) ∧ (∀ x2 x3 x4 x5 x6 a11 d Q, vd_wp (d + 6) 235 183 [.ref 63, .int (vd_I (pl : Int)), .int x2, .int x3, .int x4, .int x5, .int x6, .int (vd_I (sz : Int)), .int (vd_I ((vd_sn sz : Nat) : Int)), .int (vd_I (y : Int)), .int (vd_I (x : Int)), a11, a12, a13] [] (vd_mf N g) Q = vd_wp (d + 6) 235 316 [.ref 63, .int (vd_I (pl : Int)), .int x2, .int x3, .int x4, .int x5, .int x6, .int (vd_I (sz : Int)), .int (vd_I ((vd_sn sz : Nat) : Int)), .int (vd_I (y : Int)), .int (vd_I (x : Int)), .int (vd_I r), b12, b13] [] (vd_mf N g') Q) ∧ (r = 0 ∨ r = 1) ∧ vd_QI s q W H pw ph O (n0 + 32 * (vd_sn sz * vd_sn sz)) P' (vd_K1 K pl sz x y r) f' g' ∧ vd_fS s f f' ∧ vd_gS q g g'
theorem vd_square (hC : vd_QC M N ow fa lo lf nb W H o p s q X Z b pw ph) (sb : vd_SB fa nb q W H O B X Z b pw ph f g) (qi : vd_QI s q W H pw ph O n0 P K f g) (hpl : pl < 3) (hs : sz < 4) (hl : X 0 13 = 1 → sz = 0) (hn : n0 + 32 * (vd_sn sz * vd_sn sz) ≤ 8000000) (hx4 : x % 4 = 0) (hy4 : y % 4 = 0) (hx : x + vd_sn sz ≤ vd_ws pl pw) (hy : y + vd_sn sz ≤ vd_ws pl ph) (hxW : x < vd_us pl * W) (hyH : y < vd_us pl * H) (hO : ∀ a b, vd_insq sz x y a b → a / vd_cu pl < W → b / vd_cu pl < H → O (a / vd_cu pl) (b / vd_cu pl) ≠ none) (hK : ∀ a b, vd_insq sz x y a b → K pl a b ≠ 2 ∧ (o = 1 → K pl a b ≠ 0)) (a12 a13 : Value) : vd_QPost M N W H O s q pl sz o x y n0 pw ph (vd_md b pl) K a12 a13 f g := by
  obtain ⟨⟨hM, hN⟩, ⟨hp, h44⟩, ⟨hq, hnow⟩, sw⟩ := hC
  obtain ⟨pk, kv, rd, cnt⟩ := qi
  have hp' := hp.2.2
  have hq' := hq.2.2.2
  have p0 := sw.2.2.2.2.1.1
  have q0 := sw.2.2.2.2.1.2
  have h5 := sw.2.2.2.2.2.2
  obtain ⟨f1, g1, r, C, lr, lc, t1, t2, hr, hr0, rd1, hC1, cnt1, pos1, k43, k106, ks, kq, F1, G1⟩ := vd_sqA hM hN hp hq sb sw pk.2.1 pk.2.2.1 kv rd cnt hpl hs hn hxW hyH
  have sb1 := sb.keep hM hp hq F1 G1
  have h110 := sb.2.2.2.2.1.2.2.2.2.2
  obtain ⟨f2, g2, b12, b13, m1, m2, kc2, kh2, F2, G2⟩ := vd_sqB (b := b) hM hN (pk.2.1.keep k43) (pk.2.2.1.keep fun c i h1 h2 => k106 c i (by omega) (by omega)) (sb1.2.2.2.2.1.2.2.2.2.2) h5 (fun h => hr0 (by rw [h110, h])) hr p0 q0 hpl hs hx4 hy4 hx hy (fun a b h => (hK a b h).1) a12 a13
  have F2' : vd_fS s f1 f2 := fun c i _ _ a _ _ _ _ _ _ _ => F2 c i a
  have G2' : vd_gS q g1 g2 := fun c i _ _ _ _ a _ _ => G2 c i a
  have sb2 := sb1.keep hM hp hq F2' G2'
  have kv1 := kv.mark (r := r) hpl hs hr hx4 hy4 hx hy hO
  obtain ⟨f3, g3, P3, u1, u2, pk3, pb3, F3, G3⟩ := vd_sqC (C := C) (lr := lr) (lc := lc) hM hN hp h44 hq hnow sb2 sw (pk.1.1.keep fun i => by rw [F2 _ _ (by omega), ks]) (pk.1.2.keep fun c i h1 h2 => by rw [G2 _ _ (by omega), kq c i h1 h2]) kc2 kh2 (pk.2.2.2.keep fun c i h1 h2 => by rw [G2 _ _ (by omega), k106 c i (by omega) (by omega)]) kv kv1 hr hpl hs hl hx4 hy4 hx hy (fun ho a b h => (hK a b h).2 ho) ⟨by rw [F2 _ _ (by omega)]; exact pos1.1, by rw [F2 _ _ (by omega)]; exact pos1.2.1, by rw [F2 _ _ (by omega)]; exact pos1.2.2.1, by rw [F2 _ _ (by omega)]; exact pos1.2.2.2⟩ (fun h => ⟨fun k hk => by rw [F2 _ _ (by omega), G2 _ _ (by omega)]; exact (hC1 h).1 k hk, ⟨by rw [F2 _ _ (by omega)]; exact (hC1 h).2.1.1, by rw [F2 _ _ (by omega)]; exact (hC1 h).2.1.2⟩, (hC1 h).2.2⟩)
  have F3' : vd_fS s f2 f3 := fun c i _ _ _ _ a5 a6 a7 a8 _ a10 => F3 c i a5 a6 a7 a8 a10
  have G3' : vd_gS q g2 g3 := fun c i a1 _ _ a4 _ a6 a7 => G3 c i a6 (by omega) a4 a7
  refine ⟨f3, g3, P3, r, b12, b13, fun x3 x6 x7 a11 d Q => ?_, fun x2 x3 x4 x5 x6 a11 d Q => ?_, hr, ⟨pk3, ⟨pb3, kv1.2⟩, ?_, ?_⟩, (F1.trans F2').trans F3', (G1.trans G2').trans G3'⟩
  · rw [t1, m1, u1]
  · rw [t2, m2, u2]
  · refine rd1.keep (fun c i h => ?_) (fun c i h => ?_)
    · rw [F3 _ _ (by omega) (by omega) (by omega) (by omega) (by omega), F2 _ _ (by omega)]
    · rw [G3 _ _ (by omega) (by omega) (by omega) (by omega), G2 _ _ (by omega)]
  · rw [F3 _ _ (by omega) (by omega) (by omega) (by omega) (by omega), F2 _ _ (by omega), G3 _ _ (by omega) (by omega) (by omega) (by omega), G2 _ _ (by omega)]
    exact cnt1
/-- beyond the picture the reference passes on -/
theorem vd_skipR (hN : vd_SR N) (hG : g 63 26 = vd_I (W : Int) ∧ g 63 27 = vd_I (H : Int)) (hW : W ≤ 24 ∧ H ≤ 24) {n x0 w xe : Nat} (hn : 4 ≤ n ∧ n ≤ 32) (hxe : x0 + w = xe) (hx9 : xe ≤ 1000) (hy9 : y ≤ 1000) (x4 x6 x7 : Int32) (a11 a12 a13 : Value) (d : Nat) (Q : vd_M → (Option Value ⊕ Nat) → Prop) : ∀ (m x : Nat), x + m * n = xe → (vd_us pl * W ≤ x ∨ vd_us pl * H ≤ y) → vd_wp d 235 149 [.ref 63, .int (vd_I (pl : Int)), .int (vd_I ((vd_us pl : Nat) : Int)), .int (vd_I (x0 : Int)), .int x4, .int (vd_I (w : Int)), .int x6, .int x7, .int (vd_I (n : Int)), .int (vd_I (y : Int)), .int (vd_I (x : Int)), a11, a12, a13] [] (vd_mf N g) Q = vd_wp d 235 326 [.ref 63, .int (vd_I (pl : Int)), .int (vd_I ((vd_us pl : Nat) : Int)), .int (vd_I (x0 : Int)), .int x4, .int (vd_I (w : Int)), .int x6, .int x7, .int (vd_I (n : Int)), .int (vd_I (y : Int)), .int (vd_I (xe : Int)), a11, a12, a13] [] (vd_mf N g) Q := by
  intro m
  induction m with
  | zero =>
    intro x hx _
    have e : x = xe := by omega
    subst e
    have c : ¬ ((x : Int) < (x0 : Int) + (w : Int)) := by omega
    rw [vd_S235_149 hN]
    simp (disch := omega) only [vd_I_add, vd_I_toInt, c, if_false]
  | succ m ih =>
    intro x hx ho
    rw [Nat.succ_mul] at hx
    have c : (x : Int) < (x0 : Int) + (w : Int) := by omega
    have ex : (x : Int) + (n : Int) = ((x + n : Nat) : Int) := by omega
    rw [← ih (x + n) (by omega) (by omega), vd_S235_149 hN]
    rcases vd_us_v pl with e | e
    · rw [e] at ho ⊢
      have e8 : ((8 : Nat) : Int) = 8 := rfl
      rw [e8]
      by_cases cx : (x : Int) / 8 < (W : Int)
      · have cy : ¬ ((y : Int) / 8 < (H : Int)) := by omega
        simp (disch := omega) only [vd_I_add, vd_I_toInt, c, if_true, vd_S235_158 hN, vd_S235_161 hN, vd_I_div, hG.1, hG.2, cx, vd_S235_169 hN, vd_S235_172 hN, cy, if_false, vd_S235_180 hN, vd_S235_316 hN, ex]
      · simp (disch := omega) only [vd_I_add, vd_I_toInt, c, if_true, vd_S235_158 hN, vd_S235_161 hN, vd_I_div, hG.1, hG.2, cx, if_false, vd_S235_316 hN, ex]
    · rw [e] at ho ⊢
      have e8 : ((4 : Nat) : Int) = 4 := rfl
      rw [e8]
      by_cases cx : (x : Int) / 4 < (W : Int)
      · have cy : ¬ ((y : Int) / 4 < (H : Int)) := by omega
        simp (disch := omega) only [vd_I_add, vd_I_toInt, c, if_true, vd_S235_158 hN, vd_S235_161 hN, vd_I_div, hG.1, hG.2, cx, vd_S235_169 hN, vd_S235_172 hN, cy, if_false, vd_S235_180 hN, vd_S235_316 hN, ex]
      · simp (disch := omega) only [vd_I_add, vd_I_toInt, c, if_true, vd_S235_158 hN, vd_S235_161 hN, vd_I_div, hG.1, hG.2, cx, if_false, vd_S235_316 hN, ex]
/-- within it, it goes on to the square -/
theorem vd_inR (hN : vd_SR N) (hG : g 63 26 = vd_I (W : Int) ∧ g 63 27 = vd_I (H : Int)) (hW : W ≤ 24 ∧ H ≤ 24) {x0 w xe : Nat} (hxe : x0 + w = xe) (hx9 : xe ≤ 1000) (hy9 : y ≤ 1000) (hx : x < xe) (hxW : x < vd_us pl * W) (hyH : y < vd_us pl * H) (x4 x6 x7 x8 : Int32) (a11 a12 a13 : Value) (d : Nat) (Q : vd_M → (Option Value ⊕ Nat) → Prop) : vd_wp d 235 149 [.ref 63, .int (vd_I (pl : Int)), .int (vd_I ((vd_us pl : Nat) : Int)), .int (vd_I (x0 : Int)), .int x4, .int (vd_I (w : Int)), .int x6, .int x7, .int x8, .int (vd_I (y : Int)), .int (vd_I (x : Int)), a11, a12, a13] [] (vd_mf N g) Q = vd_wp d 235 183 [.ref 63, .int (vd_I (pl : Int)), .int (vd_I ((vd_us pl : Nat) : Int)), .int (vd_I (x0 : Int)), .int x4, .int (vd_I (w : Int)), .int x6, .int x7, .int x8, .int (vd_I (y : Int)), .int (vd_I (x : Int)), a11, a12, a13] [] (vd_mf N g) Q := by
  have c : (x : Int) < (x0 : Int) + (w : Int) := by omega
  rw [vd_S235_149 hN]
  rcases vd_us_v pl with e | e
  · rw [e] at hxW hyH ⊢
    have e8 : ((8 : Nat) : Int) = 8 := rfl
    rw [e8]
    have cx : (x : Int) / 8 < (W : Int) := by omega
    have cy : (y : Int) / 8 < (H : Int) := by omega
    simp (disch := omega) only [vd_I_add, vd_I_toInt, c, if_true, vd_S235_158 hN, vd_S235_161 hN, vd_I_div, hG.1, hG.2, cx, vd_S235_169 hN, vd_S235_172 hN, cy]
  · rw [e] at hxW hyH ⊢
    have e8 : ((4 : Nat) : Int) = 4 := rfl
    rw [e8]
    have cx : (x : Int) / 4 < (W : Int) := by omega
    have cy : (y : Int) / 4 < (H : Int) := by omega
    simp (disch := omega) only [vd_I_add, vd_I_toInt, c, if_true, vd_S235_158 hN, vd_S235_161 hN, vd_I_div, hG.1, hG.2, cx, vd_S235_169 hN, vd_S235_172 hN, cy]
end VDSV
