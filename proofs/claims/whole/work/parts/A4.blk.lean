/-! ===== a block: opened, read and settled ===== -/
def vd_fT (ow fa : Nat) (f f' : Nat → Nat → Int32) : Prop := ∀ c i, c ≠ 34 → c ≠ 36 → c ≠ fa → c ≠ ow → c ≠ 42 → c ≠ 44 → c ≠ 54 → c ≠ 56 → ¬ (c = 37 ∧ i = 4) → f' c i = f c i
def vd_gT (g g' : Nat → Nat → Int32) : Prop := ∀ c i, ¬ (c = 63 ∧ (i = 46 ∨ i = 69 ∨ (91 ≤ i ∧ i ≤ 128))) → c ≠ 72 → c ≠ 81 → c ≠ 82 → ¬ (88 ≤ c ∧ c ≤ 104) → ¬ (117 ≤ c ∧ c ≤ 121) → g' c i = g c i
section VDBL
variable {M N : vd_M} {ow fa lo lf W H nb : Nat} {O : Nat → Nat → Option Nat} {B : Nat → Nat → Int} {X mp : Nat → Nat → Int} {x y w h n : Nat} {mo : Int} {L : Nat → Nat → Nat → Int} {pw ph : Int} {f g : Nat → Nat → Int32}
def vd_BlkPost (M N : vd_M) (ow fa lo lf W H nb : Nat) (O : Nat → Nat → Option Nat) (B : Nat → Nat → Int) (X : Nat → Nat → Int) (mo : Int) (L : Nat → Nat → Nat → Int) (pw ph : Int) (x y w h n : Nat) (f g : Nat → Nat → Int32) : Prop := ∃ (f' g' : Nat → Nat → Int32) (b : Nat → Int) (mp' : Nat → Nat → Int), (∀ a5 a6 a7 d Q, vd_wp (d + 4) 67 0 [.ref 44, .int (vd_I (x : Int)), .int (vd_I (y : Int)), .int (vd_I (w : Int)), .int (vd_I (h : Int)), a5, a6, a7] [] (vd_mf M f) Q = vd_wp (d + 4) 67 174 [.ref 44, .int (vd_I (x : Int)), .int (vd_I (y : Int)), .int (vd_I (w : Int)), .int (vd_I (h : Int)), .int (vd_I (b 4)), .int (vd_I (if b 7 < 0 then 1 else 0)), a7] [] (vd_mf M f') Q) ∧ (∀ a5 d Q, vd_wp (d + 6) 196 0 [.ref 63, .int (vd_I (8 * (x : Int))), .int (vd_I (8 * (y : Int))), .int (vd_I (8 * (w : Int))), .int (vd_I (8 * (h : Int))), a5] [] (vd_mf N g) Q = vd_wp (d + 6) 196 239 [.ref 63, .int (vd_I (8 * (x : Int))), .int (vd_I (8 * (y : Int))), .int (vd_I (8 * (w : Int))), .int (vd_I (8 * (h : Int))), .int (vd_I 2)] [] (vd_mf N g') Q) ∧ vd_FK ow fa lo lf W H (nb + 1) (vd_Og O nb x (min W (x + w)) y (min H (y + h))) (vd_Bg B nb b) X mp' mo L pw ph (n + 98) f' g' ∧ (∀ i j, 0 ≤ mp' i j ∧ mp' i j ≤ 7) ∧ (∀ q, q < 18 → f' fa (18 * nb + q) = vd_I (b q)) ∧ vd_nb b g' ∧ vd_BV b ∧ vd_bb b x y w h ∧ vd_BX X b w h ∧ (f' 44 8 = vd_I (18 * (nb : Int)) ∧ g' 63 95 = vd_I (8 * (x : Int)) ∧ g' 63 96 = vd_I (8 * (y : Int))) ∧ vd_fT ow fa f f' ∧ vd_gT g g'
theorem vd_blk (hM : vd_SC M ow fa lo lf) (hN : vd_SR N) (k : vd_FK ow fa lo lf W H nb O B X mp mo L pw ph n f g) (hc : vd_BC W H nb X mp x y w h) (kv : vd_VV W H mo L pw ph) (hn : n + 98 ≤ 8000000) : vd_BlkPost M N ow fa lo lf W H nb O B X mo L pw ph x y w h n f g := by
  have hp := vd_par4 hM
  obtain ⟨f1, g1, e1, t1, k1, ⟨c1, c2⟩, ⟨d1, d2⟩, z, F1, G1⟩ := vd_open hM hN k hc
  have hc0 := hc
  obtain ⟨hX, _, hW, hnb, ⟨hx, hy⟩, hw8, hh8⟩ := hc0
  have vf1 : vd_VF lo lf W H mo L pw ph f1 g1 := k.2.2.2.2.2.2.keep (fun c i q => F1 c i (by omega) (by omega) (by omega)) (fun c i q => G1 c i (by omega))
  obtain ⟨f2, g2, b, mp', e2, t2, k2, mb, hb, nb2, BV, bb, BX2, FB2, GB2⟩ := vd_readB hM hN k1 hc ⟨vf1.1, vf1.2.1, vf1.2.2.1, vf1.2.2.2, d1, d2⟩ kv hn z
  have vf2 : vd_VF lo lf W H mo L pw ph f2 g2 := vf1.keep (fun c i q => FB2 c i (by omega) (by omega) (by omega) (by omega) (by omega) (by omega) (by omega)) (fun c i q => GB2 c i (by omega) (by omega) (by omega) (by omega) (by omega))
  obtain ⟨r2, ga2, gb2, ⟨ca2, cb2⟩, ⟨ma2, mb2⟩, ⟨here, _, _⟩, bx2, by2, _⟩ := k2
  have P101 := fun d Q => vd_P101 (f := f2) (d := d) (Q := Q) (k := nb) (x := x) (y := y) (w := w) (h := h) (W := W) (H := H) hM hnb bx2 ga2.1.1 ga2.1.2 hW.2.1 hW.2.2.2 (by omega) (by omega) (by omega) (by omega)
  obtain ⟨g3, t3, nd3, K3⟩ := vd_P221 hN nb2 bb gb2.1.1 gb2.1.2 hW.2.1 hW.2.2.2 (Nat.le_of_lt hx) (Nat.le_of_lt hy)
  have F3 : ∀ c i, c ≠ ow → vd_ur 24 f2 ow x (min W (x + w)) y (vd_I (18 * (nb : Int))) (min H (y + h) - y) c i = f2 c i := fun c i q => vd_ur_ne q _ i
  have G3 : ∀ c i, ¬ (88 ≤ c ∧ c ≤ 104) → g3 c i = g2 c i := fun c i q => K3 c i fun i' j' _ _ _ _ => by unfold vd_nk; omega
  refine ⟨vd_ur 24 f2 ow x (min W (x + w)) y (vd_I (18 * (nb : Int))) (min H (y + h) - y), g3, b, mp', fun a5 a6 a7 d Q => ?_, fun a5 d Q => ?_, ⟨?_, ?_, ?_, ⟨?_, ?_⟩, ⟨?_, ?_⟩, ⟨?_, ?_⟩, ?_⟩, mb, fun q hq => ?_, ?_, BV, bb, BX2, ⟨?_, ?_, ?_⟩, fun c i q1 q2 q3 q4 q5 q6 q7 q8 q9 => ?_, fun c i q1 q2 q3 q4 q5 q6 => ?_⟩
  · refine (e1 a5 a6 a7 (d + 1) Q).trans ((e2 _ _ _ _ a5 a6 a7 d Q).trans ?_)
    simp (disch := omega) only [vd_S67_163 hM, vd_S67_171 hM, here, P101, vd_rs_v, vd_rs_n]
  · refine (t1 a5 (d + 4) Q).trans ((t2 _ _ _ _ a5 d Q).trans ?_)
    simp (disch := omega) only [vd_S196_235 hN, vd_S196_236 hN, t3, vd_rs_v, vd_rs_n]
  · exact r2.keep (fun c i q => F3 c i (by omega)) (fun c i q => G3 c i (by omega))
  · exact ga2.grow hM hnb (by omega) (by omega) hb BV
  · exact gb2.grow ga2.2.2.2.1 (by omega) nd3 K3
  · exact ca2.keep fun c i q1 q2 => F3 c i (by omega)
  · exact cb2.keep fun c i q => G3 c i (by unfold vd_inB at q; omega)
  · intro i j hi hj
    rw [F3 _ _ (by omega)]
    exact ma2 i j hi hj
  · intro i j hi hj
    rw [G3 _ _ (by omega)]
    exact mb2 i j hi hj
  · rw [F3 _ _ (by omega), FB2 _ _ (by omega) (by omega) (by omega) (by omega) (by omega) (by omega) (by omega), c1]
    exact congrArg vd_I (by omega)
  · rw [G3 _ _ (by omega), GB2 _ _ (by omega) (by omega) (by omega) (by omega) (by omega), c2]
    exact congrArg vd_I (by omega)
  · exact vf2.keep (fun c i q => F3 c i (by have := hM.par; omega)) (fun c i q => G3 c i (by omega))
  · rw [F3 _ _ (by omega)]
    exact hb q hq
  · exact nb2.keep fun c i q => G3 c i (by omega)
  · rw [F3 _ _ (by omega)]; exact here
  · rw [G3 _ _ (by omega), GB2 _ _ (by omega) (by omega) (by omega) (by omega) (by omega)]; exact d1
  · rw [G3 _ _ (by omega), GB2 _ _ (by omega) (by omega) (by omega) (by omega) (by omega)]; exact d2
  · rw [F3 _ _ q4, FB2 c i q1 q2 q3 q5 q6 q7 q8, F1 c i q6 q9 (by omega)]
  · rw [G3 _ _ q5, GB2 c i (by omega) q2 q3 q4 q6, G1 c i (by omega)]
end VDBL
