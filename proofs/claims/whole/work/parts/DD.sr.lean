/-! ===== one square, whole ===== -/
theorem vd_KWr.same {pw ph : Int} {K K' : Nat → Nat → Nat → Int} {g : Nat → Nat → Int32} (k : vd_KWr pw ph K g) (h : ∀ pl a b, K' pl a b = 0 ↔ K pl a b = 0) : vd_KWr pw ph K' g := fun pl x y h1 h2 h3 => by
  rw [k pl x y h1 h2 h3]
  by_cases c : K pl (x / 4) (y / 4) = 0
  · rw [if_pos c, if_pos ((h _ _ _).mpr c)]
  · rw [if_neg c, if_neg fun e => c ((h _ _ _).mp e)]
section VDSR
variable {M N : vd_M} {ow fa lo lf W H nb o : Nat} {O : Nat → Nat → Option Nat} {B X : Nat → Nat → Int} {Z : Nat → Nat → Nat → Nat} {b : Nat → Int} {pw ph : Int} {p s q pl sz x y n0 : Nat} {P K : Nat → Nat → Nat → Int} {f g : Nat → Nat → Int32} {r : Int}
def vd_K1 (K : Nat → Nat → Nat → Int) (pl sz x y : Nat) (r : Int) : Nat → Nat → Nat → Int := vd_rect K pl (x / 4) (y / 4) (vd_sn sz / 4) (vd_sn sz / 4) fun _ _ => 1 + r
def vd_insq (sz x y a b : Nat) : Prop := x / 4 ≤ a ∧ a < x / 4 + vd_sn sz / 4 ∧ y / 4 ≤ b ∧ b < y / 4 + vd_sn sz / 4
theorem vd_PKV.mark (kv : vd_PKV W H pw ph O P K) (hpl : pl < 3) (hs : sz < 4) (hr : r = 0 ∨ r = 1) (hx4 : x % 4 = 0) (hy4 : y % 4 = 0) (hx : x + vd_sn sz ≤ vd_ws pl pw) (hy : y + vd_sn sz ≤ vd_ws pl ph) (hO : ∀ a b, vd_insq sz x y a b → a / vd_cu pl < W → b / vd_cu pl < H → O (a / vd_cu pl) (b / vd_cu pl) ≠ none) : vd_PKV W H pw ph O P (vd_K1 K pl sz x y r) := by
  have nb := vd_nnb hs
  have n4 : vd_sn sz % 4 = 0 := by rcases vd_nn_v hs with ⟨_, e⟩ | ⟨_, e⟩ | ⟨_, e⟩ | ⟨_, e⟩ <;> rw [e]
  refine ⟨kv.1, fun c a b => ?_, fun c a b h => ?_, fun c a b h1 h2 h3 h4 => ?_⟩
  · unfold vd_K1 vd_rect
    split
    · rcases hr with rfl | rfl
      · exact Or.inr (Or.inl rfl)
      · exact Or.inr (Or.inr rfl)
    · exact kv.2.1 c a b
  · unfold vd_K1
    rw [vd_rect_out (fun ⟨e, h1, h2, h3, h4⟩ => h (by subst e; omega))]
    exact kv.2.2.1 c a b h
  · by_cases hh : c = pl ∧ x / 4 ≤ a ∧ a < x / 4 + vd_sn sz / 4 ∧ y / 4 ≤ b ∧ b < y / 4 + vd_sn sz / 4
    · obtain ⟨rfl, q1, q2, q3, q4⟩ := hh
      exact hO a b ⟨q1, q2, q3, q4⟩ h3 h4
    · unfold vd_K1 at h2
      rw [vd_rect_out hh] at h2
      exact kv.2.2.2 c a b h1 h2 h3 h4
def vd_QbPost (M N : vd_M) (pl sz x y : Nat) (r : Int) (a12 a13 : Value) (K : Nat → Nat → Nat → Int) (f g : Nat → Nat → Int32) : Prop := ∃ (f' g' : Nat → Nat → Int32) (b12 b13 : Value), (∀ x2 x3 x6 x7 x8 a11 d Q, vd_wp (d + 4) 112 173 [.ref 44, .int (vd_I (pl : Int)), .int x2, .int x3, .int (vd_I (sz : Int)), .int (vd_I ((vd_sn sz : Nat) : Int)), .int x6, .int x7, .int x8, .int (vd_I (y : Int)), .int (vd_I (x : Int)), a11] [.int (vd_I r)] (vd_mf M f) Q = vd_wp (d + 4) 112 193 [.ref 44, .int (vd_I (pl : Int)), .int x2, .int x3, .int (vd_I (sz : Int)), .int (vd_I ((vd_sn sz : Nat) : Int)), .int x6, .int x7, .int x8, .int (vd_I (y : Int)), .int (vd_I (x : Int)), .int (vd_I r)] [] (vd_mf M f') Q) ∧ (∀ x2 x3 x4 x5 x6 a11 d Q, vd_wp (d + 6) 235 209 [.ref 63, .int (vd_I (pl : Int)), .int x2, .int x3, .int x4, .int x5, .int x6, .int (vd_I (sz : Int)), .int (vd_I ((vd_sn sz : Nat) : Int)), .int (vd_I (y : Int)), .int (vd_I (x : Int)), a11, a12, a13] [.int (vd_I r)] (vd_mf N g) Q = vd_wp (d + 6) 235 267 [.ref 63, .int (vd_I (pl : Int)), .int x2, .int x3, .int x4, .int x5, .int x6, .int (vd_I (sz : Int)), .int (vd_I ((vd_sn sz : Nat) : Int)), .int (vd_I (y : Int)), .int (vd_I (x : Int)), .int (vd_I r), b12, b13] [] (vd_mf N g') Q) ∧ vd_KC (vd_K1 K pl sz x y r) f' ∧ vd_KH (vd_K1 K pl sz x y r) g' ∧ (∀ c i, c ≠ 43 → f' c i = f c i) ∧ (∀ c i, ¬ (110 ≤ c ∧ c ≤ 112) → g' c i = g c i)
theorem vd_sqB (hM : vd_SC M ow fa lo lf) (hN : vd_SR N) (kc : vd_KC K f) (kh : vd_KH K g) (h110 : g 63 110 = vd_I (b 5)) (h5 : b 5 = 0 ∨ b 5 = 1) (h5r : b 5 = 1 → r = 0) (hr : r = 0 ∨ r = 1) (p0 : 1 ≤ pw ∧ pw ≤ 192) (q0 : 1 ≤ ph ∧ ph ≤ 192) (hpl : pl < 3) (hs : sz < 4) (hx4 : x % 4 = 0) (hy4 : y % 4 = 0) (hx : x + vd_sn sz ≤ vd_ws pl pw) (hy : y + vd_sn sz ≤ vd_ws pl ph) (hK2 : ∀ a b, vd_insq sz x y a b → K pl a b ≠ 2) (a12 a13 : Value) : vd_QbPost M N pl sz x y r a12 a13 K f g := by
  have nb := vd_nnb hs
  have n4 : vd_sn sz % 4 = 0 := by rcases vd_nn_v hs with ⟨_, e⟩ | ⟨_, e⟩ | ⟨_, e⟩ | ⟨_, e⟩ <;> rw [e]
  have wsb := (vd_ws_b (pl := pl) p0.1 p0.2).1
  have hsb := (vd_ws_b (pl := pl) q0.1 q0.2).1
  have fo : vd_sd pl = 4 * vd_fo pl ∧ vd_sd pl ≤ 192 := by unfold vd_sd vd_fo; split <;> omega
  obtain ⟨f1, m1, m2, m3⟩ := vd_P111 (f := f) (cx := x / 4) (cy := y / 4) (cw := vd_sn sz / 4) (ch := vd_sn sz / 4) (nm := r) hM hpl (by omega) (by omega) hr
  rw [show 4 * ((x / 4 : Nat) : Int) = (x : Int) by omega, show 4 * ((y / 4 : Nat) : Int) = (y : Int) by omega, show 4 * ((vd_sn sz / 4 : Nat) : Int) = ((vd_sn sz : Nat) : Int) by omega] at m1
  have KC1 : vd_KC (vd_K1 K pl sz x y r) f1 := kc.rect hpl (by omega) (fun a b h1 h2 h3 h4 => m2 a b h1 h2 h3 h4) (fun k h => m3 43 k (fun _ => h)) (by omega)
  have cls : ∀ x2 x3 x6 x7 x8 a11 d Q, vd_wp (d + 4) 112 173 [.ref 44, .int (vd_I (pl : Int)), .int x2, .int x3, .int (vd_I (sz : Int)), .int (vd_I ((vd_sn sz : Nat) : Int)), .int x6, .int x7, .int x8, .int (vd_I (y : Int)), .int (vd_I (x : Int)), a11] [.int (vd_I r)] (vd_mf M f) Q = vd_wp (d + 4) 112 193 [.ref 44, .int (vd_I (pl : Int)), .int x2, .int x3, .int (vd_I (sz : Int)), .int (vd_I ((vd_sn sz : Nat) : Int)), .int x6, .int x7, .int x8, .int (vd_I (y : Int)), .int (vd_I (x : Int)), .int (vd_I r)] [] (vd_mf M f1) Q := fun x2 x3 x6 x7 x8 a11 d Q => by
    simp (disch := omega) only [vd_S112_173 hM, vd_S112_190 hM, m1, vd_rs_v, vd_rs_n]
  rcases h5 with c | c
  · obtain ⟨g1, b13, t1, t2, t3⟩ := vd_L235j hN hpl hx4 hy4 (show x + vd_sn sz ≤ 4 * vd_fo pl by omega) (show y + vd_sn sz ≤ 4 * vd_fo pl by omega) n4 nb.2.1 hr (vd_sn sz / 4) 0 g a13 (by omega)
    have z0 : 4 * ((0 : Nat) : Int) = 0 := rfl
    rw [z0] at t1
    refine ⟨f1, g1, .int (vd_I ((vd_sn sz : Nat) : Int)), b13, cls, fun x2 x3 x4 x5 x6 a11 d Q => ?_, KC1, ?_, fun c i h => m3 c i (fun e => absurd e h), fun c i h => t3 c i (fun e => by omega)⟩
    · rw [vd_S235_209 hN, h110, c]
      simp (disch := omega) only [vd_I_toInt, eq_self, if_true, vd_S235_218 hN]
      exact t1 x2 x3 x4 x5 x6 _ (d + 4) Q
    · refine kh.rect hpl (by omega) (fun a b ha hb => ?_) (fun c k _ _ h => t3 c k (fun e a b h1 _ h2 => h e a b h1 h2))
      rw [t2 a b ha (Nat.zero_le _) hb]
      rcases hr with rfl | rfl <;> rfl
  · have r0 := h5r c
    subst r0
    refine ⟨f1, g, a12, a13, cls, fun x2 x3 x4 x5 x6 a11 d Q => ?_, KC1, kh.same (fun c a b => ?_) (fun _ _ _ _ => rfl), fun c i h => m3 c i (fun e => absurd e h), fun _ _ _ => rfl⟩
    · rw [vd_S235_209 hN, h110, c]
      simp (disch := omega) only [vd_I_toInt, show ¬ ((1 : Int) = 0) by decide, if_false]
    · unfold vd_K1
      by_cases hh : c = pl ∧ x / 4 ≤ a ∧ a < x / 4 + vd_sn sz / 4 ∧ y / 4 ≤ b ∧ b < y / 4 + vd_sn sz / 4
      · obtain ⟨rfl, h1, h2, h3, h4⟩ := hh
        rw [vd_rect_in h1 h2 h3 h4]
        have := hK2 a b ⟨h1, h2, h3, h4⟩
        omega
      · rw [vd_rect_out hh]
/-- the square is predicted and its numbers are added -/
def vd_QcPost (M N : vd_M) (s q pl sz o x y : Nat) (pw ph md r : Int) (K1 : Nat → Nat → Nat → Int) (f g : Nat → Nat → Int32) : Prop := ∃ (f' g' : Nat → Nat → Int32) (P' : Nat → Nat → Nat → Int), (∀ x3 x6 x7 d Q, vd_wp (d + 4) 112 193 [.ref 44, .int (vd_I (pl : Int)), .int (vd_I (o : Int)), .int x3, .int (vd_I (sz : Int)), .int (vd_I ((vd_sn sz : Nat) : Int)), .int x6, .int x7, .int (vd_I md), .int (vd_I (y : Int)), .int (vd_I (x : Int)), .int (vd_I r)] [] (vd_mf M f) Q = vd_wp (d + 4) 112 245 [.ref 44, .int (vd_I (pl : Int)), .int (vd_I (o : Int)), .int x3, .int (vd_I (sz : Int)), .int (vd_I ((vd_sn sz : Nat) : Int)), .int x6, .int x7, .int (vd_I md), .int (vd_I (y : Int)), .int (vd_I (x : Int)), .int (vd_I r)] [] (vd_mf M f') Q) ∧ (∀ x2 x3 x4 x5 x6 a12 a13 d Q, vd_wp (d + 6) 235 267 [.ref 63, .int (vd_I (pl : Int)), .int x2, .int x3, .int x4, .int x5, .int x6, .int (vd_I (sz : Int)), .int (vd_I ((vd_sn sz : Nat) : Int)), .int (vd_I (y : Int)), .int (vd_I (x : Int)), .int (vd_I r), a12, a13] [] (vd_mf N g) Q = vd_wp (d + 6) 235 316 [.ref 63, .int (vd_I (pl : Int)), .int x2, .int x3, .int x4, .int x5, .int x6, .int (vd_I (sz : Int)), .int (vd_I ((vd_sn sz : Nat) : Int)), .int (vd_I (y : Int)), .int (vd_I (x : Int)), .int (vd_I r), a12, a13] [] (vd_mf N g') Q) ∧ vd_PK s q pw ph P' K1 f' g' ∧ (∀ pl x y, 0 ≤ P' pl x y ∧ P' pl x y ≤ 255) ∧ (∀ c i, c ≠ 49 → c ≠ 50 → c ≠ 52 → c ≠ 53 → c ≠ s → f' c i = f c i) ∧ (∀ c i, ¬ (123 ≤ c ∧ c ≤ 127) → ¬ (c = 63 ∧ (i = 123 ∨ (126 ≤ i ∧ i ≤ 128))) → ¬ (106 ≤ c ∧ c ≤ 108) → ¬ (q + 2 ≤ c ∧ c ≤ q + 4) → g' c i = g c i)
theorem vd_sqC (hM : vd_SC M ow fa lo lf) (hN : vd_SR N) (hp : vd_PC M p s) (h44 : vd_r M 44 7 = some p) (hq : vd_PD N q) (hnow : vd_r N 63 23 = some q) (sb : vd_SB fa nb q W H O B X Z b pw ph f g) (sw : vd_SW nb W H X Z b pw ph o) (hsc : vd_PSC s pw ph P f) (hsr : vd_PSR q pw ph P g) (kc : vd_KC (vd_K1 K pl sz x y r) f) (kh : vd_KH (vd_K1 K pl sz x y r) g) (kw : vd_KWr pw ph K g) (kv : vd_PKV W H pw ph O P K) (kv1 : vd_PKV W H pw ph O P (vd_K1 K pl sz x y r)) (hr : r = 0 ∨ r = 1) (hpl : pl < 3) (hs : sz < 4) (hl : X 0 13 = 1 → sz = 0) (hx4 : x % 4 = 0) (hy4 : y % 4 = 0) (hx : x + vd_sn sz ≤ vd_ws pl pw) (hy : y + vd_sn sz ≤ vd_ws pl ph) (hK1 : o = 1 → ∀ a b, vd_insq sz x y a b → K pl a b ≠ 0) (pos : f 45 11 = vd_I (pl : Int) ∧ f 45 12 = vd_I (x : Int) ∧ f 45 13 = vd_I (y : Int) ∧ f 45 14 = vd_I (sz : Int)) {C : Nat → Int} {lr lc : Int} (hC : r = 1 → (∀ p, p < vd_sn sz * vd_sn sz → f 49 p = vd_I (C p) ∧ g 123 p = vd_I (C p)) ∧ (f 45 15 = vd_I lr ∧ f 45 16 = vd_I lc) ∧ vd_NL (vd_sn sz) C lr lc) : vd_QcPost M N s q pl sz o x y pw ph (vd_md b pl) r (vd_K1 K pl sz x y r) f g := by
  have nb := vd_nnb hs
  have hn4 : vd_nn4 (vd_sn sz) := by unfold vd_nn4; rcases vd_nn_v hs with ⟨_, e⟩ | ⟨_, e⟩ | ⟨_, e⟩ | ⟨_, e⟩ <;> rw [e] <;> omega
  have hp' := hp.2.2
  have hq' := hq.2.2.2
  obtain ⟨hX, hW, hZ, hb, ⟨p0, q0⟩, ho, h5⟩ := id sw
  have hmd := sw.md pl
  have o2 : o < 2 := by omega
  obtain ⟨⟨⟨c1, c2⟩, ⟨c3, c4⟩, c5, c6, c7, c8⟩, sct, ⟨cb, gb, st⟩, dd, nb1⟩ := id sb
  obtain ⟨⟨a1, a2, a3, a4, g103, g110⟩, ⟨g105, g106, g107, g111⟩, _⟩ := id nb1
  have oI : (if b 7 < 0 then (1 : Int) else 0) = (o : Int) := by
    rcases ho with ⟨e, e7, _⟩ | ⟨e, e7, _⟩
    · rw [if_pos (by omega), e]; rfl
    · rw [if_neg (by omega), e]; rfl
  rw [oI] at g111
  have v0 : 1 + r ≠ 0 := by omega
  -- prediction
  obtain ⟨f1, g1, P1, t1, t2, pk, pb, F1, G1⟩ : ∃ (f1 g1 : Nat → Nat → Int32) (P1 : Nat → Nat → Nat → Int), (∀ x3 x6 x7 d Q, vd_wp (d + 4) 112 193 [.ref 44, .int (vd_I (pl : Int)), .int (vd_I (o : Int)), .int x3, .int (vd_I (sz : Int)), .int (vd_I ((vd_sn sz : Nat) : Int)), .int x6, .int x7, .int (vd_I (vd_md b pl)), .int (vd_I (y : Int)), .int (vd_I (x : Int)), .int (vd_I r)] [] (vd_mf M f) Q = vd_wp (d + 4) 112 228 [.ref 44, .int (vd_I (pl : Int)), .int (vd_I (o : Int)), .int x3, .int (vd_I (sz : Int)), .int (vd_I ((vd_sn sz : Nat) : Int)), .int x6, .int x7, .int (vd_I (vd_md b pl)), .int (vd_I (y : Int)), .int (vd_I (x : Int)), .int (vd_I r)] [] (vd_mf M f1) Q) ∧ (∀ x2 x3 x4 x5 x6 a12 a13 d Q, vd_wp (d + 6) 235 267 [.ref 63, .int (vd_I (pl : Int)), .int x2, .int x3, .int x4, .int x5, .int x6, .int (vd_I (sz : Int)), .int (vd_I ((vd_sn sz : Nat) : Int)), .int (vd_I (y : Int)), .int (vd_I (x : Int)), .int (vd_I r), a12, a13] [] (vd_mf N g) Q = vd_wp (d + 6) 235 300 [.ref 63, .int (vd_I (pl : Int)), .int x2, .int x3, .int x4, .int x5, .int x6, .int (vd_I (sz : Int)), .int (vd_I ((vd_sn sz : Nat) : Int)), .int (vd_I (y : Int)), .int (vd_I (x : Int)), .int (vd_I r), a12, a13] [] (vd_mf N g1) Q) ∧ vd_PK s q pw ph P1 (vd_K1 K pl sz x y r) f1 g1 ∧ (∀ pl x y, 0 ≤ P1 pl x y ∧ P1 pl x y ≤ 255) ∧ vd_fZ s f f1 ∧ vd_gZ q g g1 := by
    rcases hmd with ⟨co, cm⟩ | ⟨co, cm0, cm1⟩
    · have c' : ¬ (((o : Nat) : Int) = 0) := by omega
      refine ⟨f, g, P, fun x3 x6 x7 d Q => ?_, fun x2 x3 x4 x5 x6 a12 a13 d Q => ?_, ⟨⟨hsc, hsr⟩, kc, kh, kw.same fun c a b => ?_⟩, kv.1, fun _ _ _ _ _ => rfl, fun _ _ _ _ _ _ _ => rfl⟩
      · simp (disch := omega) only [vd_S112_193 hM, vd_I_toInt, c', if_false]
      · simp (disch := omega) only [vd_S235_267 hN, g111, vd_I_toInt, c', if_false]
      · unfold vd_K1
        by_cases hh : c = pl ∧ x / 4 ≤ a ∧ a < x / 4 + vd_sn sz / 4 ∧ y / 4 ≤ b ∧ b < y / 4 + vd_sn sz / 4
        · obtain ⟨rfl, h1, h2, h3, h4⟩ := hh
          rw [vd_rect_in h1 h2 h3 h4]
          have := hK1 co a b ⟨h1, h2, h3, h4⟩
          omega
        · rw [vd_rect_out hh]
    · have c' : ((o : Nat) : Int) = 0 := by omega
      obtain ⟨fe, f1, g1, P1, s1, s2, s3, s4, s5, s6, s7, s8, s9⟩ := vd_still hM hN hp hq hnow v0 hsc kc hsr kw kv kv1 dd p0 q0 hpl hn4 hx4 hy4 hx hy (md := vd_md b pl) ⟨cm0, cm1⟩
      refine ⟨f1, g1, P1, fun x3 x6 x7 d Q => ?_, fun x2 x3 x4 x5 x6 a12 a13 d Q => ?_, ⟨⟨s4, s5⟩, kc.keep fun i => s8 _ _ (by omega) (by omega) (by omega), kh.keep fun c i h1 h2 => s9 _ _ (by omega) (by omega) (by omega) (by omega) (by omega), s6⟩, s7, s8, s9⟩
      · simp (disch := omega) only [vd_S112_193 hM, vd_I_toInt, c', eq_self, if_true, vd_S112_197 hM, h44, vd_vr_some, vd_S112_212 hM, s1, vd_S112_215 hM, vd_S112_225 hM, s2, vd_rs_v, vd_rs_n]
      · by_cases cp : pl = 0
        · have cp' : ((pl : Nat) : Int) = 0 := by omega
          have em : vd_md b pl = b 7 := if_pos cp
          rw [em] at s3
          simp (disch := omega) only [vd_S235_267 hN, g111, vd_I_toInt, c', eq_self, if_true, vd_S235_274 hN, vd_S235_286 hN, g106, vd_S235_297 hN, vd_rs_v, vd_rs_n]
          have s3' := fun Q => s3 d Q
          rw [cp'] at s3' ⊢
          simp (disch := omega) only [eq_self, if_true, vd_S235_286 hN, g106, vd_S235_297 hN, s3', vd_rs_v, vd_rs_n]
        · have cp' : ¬ (((pl : Nat) : Int) = 0) := by omega
          have em : vd_md b pl = b 8 := if_neg cp
          rw [em] at s3
          simp (disch := omega) only [vd_S235_267 hN, g111, vd_I_toInt, c', cp', eq_self, if_true, if_false, vd_S235_274 hN, vd_S235_293 hN, g107, vd_S235_297 hN, s3, vd_rs_v, vd_rs_n]
  rcases hr with rfl | rfl
  · refine ⟨f1, g1, P1, fun x3 x6 x7 d Q => ?_, fun x2 x3 x4 x5 x6 a12 a13 d Q => ?_, pk, pb, fun c i h1 h2 h3 h4 h5 => F1 c i h3 h4 h5, fun c i h1 h2 h3 h4 => G1 c i (by omega) (by omega) (by omega) h3 h4⟩
    · rw [t1]
      simp (disch := omega) only [vd_S112_228 hM, vd_I_toInt, eq_self, if_true]
    · rw [t2]
      simp (disch := omega) only [vd_S235_300 hN, vd_I_toInt, eq_self, if_true]
  · obtain ⟨hC1, ⟨hlr, hlc⟩, hNL⟩ := hC rfl
    have F1' : ∀ c i, c = 45 ∨ c = 49 → f1 c i = f c i := fun c i h => F1 c i (by omega) (by omega) (by omega)
    have l13 := hX.2.1.2.2.2.2
    have sbW : vd_stW f1 := ⟨fun j hj => by rw [F1 _ _ (by omega) (by omega) (by omega)]; exact c6.1 j hj, fun k p h1 h2 => by rw [F1 _ _ (by omega) (by omega) (by omega)]; exact c6.2 k p h1 h2⟩
    have G1' : ∀ c i, ¬ (126 ≤ c ∧ c ≤ 127) → ¬ (c = 63 ∧ 126 ≤ i) → ¬ (106 ≤ c ∧ c ≤ 108) → ¬ (q + 2 ≤ c ∧ c ≤ q + 4) → g1 c i = g c i := fun c i h1 h2 h3 h4 => G1 c i (by omega) (by omega) (by omega) h3 h4
    have stR1 : vd_stR g1 := ⟨fun j hj => by rw [G1' _ _ (by omega) (by omega) (by omega) (by omega)]; exact st.1 j hj, fun j hj => by rw [G1' _ _ (by omega) (by omega) (by omega) (by omega)]; exact st.2 j hj⟩
    obtain ⟨f2, g2, P2, u1, u2, u3, u4, u5, u6⟩ := vd_addSq (ls := X 0 13) (lr := lr) (lc := lc) (C := C) (o := o) (x := x) (y := y) hM hN hp hq hnow pk pb (by rw [G1' _ _ (by omega) (by omega) (by omega) (by omega)]; exact dd.1) p0 q0 hpl hs o2 (by rw [F1' _ _ (Or.inl rfl)]; exact c3) (by rw [F1' _ _ (Or.inl rfl)]; exact pos.1) (by rw [F1' _ _ (Or.inl rfl)]; exact pos.2.1) (by rw [F1' _ _ (Or.inl rfl)]; exact pos.2.2.1) (by rw [F1' _ _ (Or.inl rfl)]; exact pos.2.2.2) (by rw [F1' _ _ (Or.inl rfl)]; exact hlr) (by rw [F1' _ _ (Or.inl rfl)]; exact hlc) hNL (fun p hp => by rw [F1' _ _ (Or.inr rfl), G1' _ _ (by omega) (by omega) (by omega) (by omega)]; exact hC1 p hp) (by rw [G1' _ _ (by omega) (by omega) (by omega) (by omega)]; exact cb.2.2.1.2.2.2) (by rw [G1' _ _ (by omega) (by omega) (by omega) (by omega)]; exact g111) (by
      rcases l13 with e | e
      · exact Or.inr e
      · exact Or.inl ⟨e, hl e⟩) sbW stR1 hx hy
    refine ⟨f2, g2, P2, fun x3 x6 x7 d Q => ?_, fun x2 x3 x4 x5 x6 a12 a13 d Q => ?_, u3, u4, fun c i h1 h2 h3 h4 h5 => by rw [u5 c i h1 h2 h5]; exact F1 c i h3 h4 h5, fun c i h1 h2 h3 h4 => by rw [u6 c i (by omega) (by omega) (by omega) h4]; exact G1 c i (by omega) (by omega) (by omega) h3 h4⟩
    · rw [t1]
      simp (disch := omega) only [vd_S112_228 hM, vd_I_toInt, show ¬ ((1 : Int) = 0) by decide, if_false, vd_S112_233 hM, h44, vd_vr_some, vd_S112_242 hM, u1, vd_rs_v, vd_rs_n]
    · rw [t2]
      simp (disch := omega) only [vd_S235_300 hN, vd_I_toInt, show ¬ ((1 : Int) = 0) by decide, if_false, vd_S235_305 hN, vd_S235_313 hN, u2, vd_rs_v, vd_rs_n]
end VDSR
