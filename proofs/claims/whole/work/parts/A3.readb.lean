/-! ===== a block is read ===== -/
def vd_b18 (a0 a1 a2 a3 a4 a5 a6 a7 a8 a9 a10 a11 a12 a13 a14 a15 a16 a17 : Int) : Nat → Int
  | 0 => a0
  | 1 => a1
  | 2 => a2
  | 3 => a3
  | 4 => a4
  | 5 => a5
  | 6 => a6
  | 7 => a7
  | 8 => a8
  | 9 => a9
  | 10 => a10
  | 11 => a11
  | 12 => a12
  | 13 => a13
  | 14 => a14
  | 15 => a15
  | 16 => a16
  | 17 => a17
  | _ => 0
theorem vd_b18_all {a0 a1 a2 a3 a4 a5 a6 a7 a8 a9 a10 a11 a12 a13 a14 a15 a16 a17 : Int} {P : Nat → Int → Prop} (h0 : P 0 a0) (h1 : P 1 a1) (h2 : P 2 a2) (h3 : P 3 a3) (h4 : P 4 a4) (h5 : P 5 a5) (h6 : P 6 a6) (h7 : P 7 a7) (h8 : P 8 a8) (h9 : P 9 a9) (h10 : P 10 a10) (h11 : P 11 a11) (h12 : P 12 a12) (h13 : P 13 a13) (h14 : P 14 a14) (h15 : P 15 a15) (h16 : P 16 a16) (h17 : P 17 a17) : ∀ q, q < 18 → P q (vd_b18 a0 a1 a2 a3 a4 a5 a6 a7 a8 a9 a10 a11 a12 a13 a14 a15 a16 a17 q) := by
  intro q hq
  have : q = 0 ∨ q = 1 ∨ q = 2 ∨ q = 3 ∨ q = 4 ∨ q = 5 ∨ q = 6 ∨ q = 7 ∨ q = 8 ∨ q = 9 ∨ q = 10 ∨ q = 11 ∨ q = 12 ∨ q = 13 ∨ q = 14 ∨ q = 15 ∨ q = 16 ∨ q = 17 := by omega
  rcases this with rfl | rfl | rfl | rfl | rfl | rfl | rfl | rfl | rfl | rfl | rfl | rfl | rfl | rfl | rfl | rfl | rfl | rfl
  · exact h0
  · exact h1
  · exact h2
  · exact h3
  · exact h4
  · exact h5
  · exact h6
  · exact h7
  · exact h8
  · exact h9
  · exact h10
  · exact h11
  · exact h12
  · exact h13
  · exact h14
  · exact h15
  · exact h16
  · exact h17
/-- size, kind and kernel of a block, as far as its painting needs them -/
def vd_BX (X : Nat → Nat → Int) (b : Nat → Int) (w h : Nat) : Prop := b 6 ≤ vd_mx w h (X 0 1) ∧ (b 7 < 0 → X 0 0 = 0 ∧ 0 ≤ b 11 ∧ 0 ≤ b 16) ∧ (b 7 < 0 → b 7 = -1 ∧ b 8 = -1) ∧ (0 ≤ b 7 → 0 ≤ b 8)
section VDRB
variable {M N : vd_M} {ow fa lo lf W H nb : Nat} {O : Nat → Nat → Option Nat} {B : Nat → Nat → Int} {X mp : Nat → Nat → Int} {x y w h n : Nat} {mo : Int} {L : Nat → Nat → Nat → Int} {pw ph : Int} {f g : Nat → Nat → Int32}
def vd_RdPost (M N : vd_M) (ow fa W H nb : Nat) (O : Nat → Nat → Option Nat) (B : Nat → Nat → Int) (X : Nat → Nat → Int) (x y w h n : Nat) (f g : Nat → Nat → Int32) : Prop := ∃ (f' g' : Nat → Nat → Int32) (b : Nat → Int) (mp' : Nat → Nat → Int), (∀ x1 x2 x3 x4 a5 a6 a7 d Q, vd_wp (d + 4) 67 47 [.ref 44, .int x1, .int x2, .int x3, .int x4, a5, a6, a7] [.ref 44] (vd_mf M f) Q = vd_wp (d + 4) 67 163 [.ref 44, .int x1, .int x2, .int x3, .int x4, .int (vd_I (b 4)), .int (vd_I (if b 7 < 0 then 1 else 0)), a7] [] (vd_mf M f') Q) ∧ (∀ x1 x2 x3 x4 a5 d Q, vd_wp (d + 6) 196 52 [.ref 63, .int x1, .int x2, .int x3, .int x4, a5] [.ref 63] (vd_mf N g) Q = vd_wp (d + 6) 196 235 [.ref 63, .int x1, .int x2, .int x3, .int x4, .int (vd_I 2)] [] (vd_mf N g') Q) ∧ vd_BK ow fa W H nb O B X mp' x y w h (n + 98) f' g' ∧ (∀ i j, 0 ≤ mp' i j ∧ mp' i j ≤ 7) ∧ (∀ q, q < 18 → f' fa (18 * nb + q) = vd_I (b q)) ∧ vd_nb b g' ∧ vd_BV b ∧ vd_bb b x y w h ∧ vd_BX X b w h ∧ vd_fB fa f f' ∧ vd_gB g g'
theorem vd_readB (hM : vd_SC M ow fa lo lf) (hN : vd_SR N) (k : vd_BK ow fa W H nb O B X mp x y w h n f g) (hc : vd_BC W H nb X mp x y w h) (kx : vd_VX lo lf W H mo L pw ph x y f g) (kv : vd_VV W H mo L pw ph) (hn : n + 98 ≤ 8000000) (z : ∀ q, 4 ≤ q → q < 18 → f fa (18 * nb + q) = vd_I 0) : vd_RdPost M N ow fa W H nb O B X x y w h n f g := by
  have hp := vd_par4 hM
  obtain ⟨f1, g1, sg, rt, mp', e1, t1, k1, mb, ⟨⟨sg0, sg1⟩, rt01⟩, ⟨q17, q103, q112⟩, F1, G1, FB1, GB1⟩ := vd_readSeg hM hN k hc (by omega) (z 17 (by decide) (by decide))
  have hc0 := hc
  obtain ⟨hX, _, hW, hnb, ⟨hx, hy⟩, hw8, hh8⟩ := hc0
  have hc1 : vd_BC W H nb X mp' x y w h := ⟨hX, mb, hW, hnb, ⟨hx, hy⟩, hw8, hh8⟩
  obtain ⟨s, rfl⟩ := Int.eq_ofNat_of_zero_le sg0
  have hs : s < 8 := by omega
  have P4 := fun d Q => vd_P74 (d := d) (Q := Q) (k := nb) (q := 4) (x := vd_I (s : Int)) (f := f1) hM k1.2.2.2.2.2.1.1 hnb (by decide)
  have k2 := k1.put hM (q := 4) (v := vd_I (s : Int)) (by decide)
  obtain ⟨f3, g3, sk, e3, t3, sk01, k3, ⟨q5, q110⟩, F3, G3, FB3, GB3⟩ := vd_skip hM hN k2 hc1 (by omega) hs q103
  have h103 : g3 63 103 = vd_I (s : Int) := by rw [G3 _ (by decide) (by decide)]; exact q103
  obtain ⟨f4, g4, ot, e4, t4, ot01, otX, otf, k4, FD4, GD4⟩ := vd_other hM hN k3 hc1 (by omega) hs h103
  have F4 : ∀ q, f4 fa q = f3 fa q := fun q => FD4.cur hM q
  have G4 : ∀ i, 95 ≤ i → g4 63 i = g3 63 i := fun i hi => GD4.cur hi
  obtain ⟨f5, g5, sz, e5, t5, ⟨sz0, sz1, sz2⟩, k5, ⟨q6, q105, q111⟩, F5, G5, FB5, GB5⟩ := vd_size hM hN k4 hc1 (by omega) sk01 ot01 (by rw [F4]; exact q5) (by rw [G4 _ (by decide)]; exact q110)
  -- the rest of the reference's beginning
  generalize hg6 : vd_up (vd_up (vd_up (vd_up (vd_up (vd_up (vd_up (vd_up (vd_up (vd_up g5 63 106 (vd_I (-1))) 63 107 (vd_I (-1))) 63 108 (vd_I (-1))) 63 109 (vd_I (-1))) 117 0 (vd_I (-1))) 118 0 (vd_I 0)) 119 0 (vd_I 0)) 117 1 (vd_I (-1))) 118 1 (vd_I 0)) 119 1 (vd_I 0) = g6
  have k6 : vd_BK ow fa W H nb O B X mp' x y w h (n + 4 + 1 + 1 + 3) f5 g6 := by
    rw [← hg6]
    exact (((((((((k5.note (Or.inl (by omega))).note (Or.inl (by omega))).note (Or.inl (by omega))).note (Or.inl (by omega))).note (Or.inr (by omega))).note (Or.inr (by omega))).note (Or.inr (by omega))).note (Or.inr (by omega))).note (Or.inr (by omega))).note (Or.inr (by omega))
  have GB6 : vd_gB g5 g6 := by
    rw [← hg6]
    exact ((((((((((vd_gB.refl g5).up (by omega)).up (by omega)).up (by omega)).up (by omega)).up (by omega)).up (by omega)).up (by omega)).up (by omega)).up (by omega)).up (by omega)
  have G6 : ∀ i, i < 106 ∨ 109 < i → g6 63 i = g5 63 i := fun i hi => by rw [← hg6, vd_up_ne (by omega), vd_up_ne (by omega), vd_up_ne (by omega), vd_up_ne (by omega), vd_up_ne (by omega), vd_up_ne (by omega), vd_up_ne (by omega), vd_up_ne (by omega), vd_up_ne (by omega), vd_up_ne (by omega)]
  have r0 : g6 117 0 = vd_I (-1) := by rw [← hg6, vd_up_ne (by omega), vd_up_ne (by omega), vd_up_ne (by omega), vd_up_ne (by omega), vd_up_ne (by omega), vd_up_eq]
  have r1 : g6 117 1 = vd_I (-1) := by rw [← hg6, vd_up_ne (by omega), vd_up_ne (by omega), vd_up_eq]
  have r2 : g6 118 0 = vd_I 0 := by rw [← hg6, vd_up_ne (by omega), vd_up_ne (by omega), vd_up_ne (by omega), vd_up_ne (by omega), vd_up_eq]
  have r3 : g6 119 0 = vd_I 0 := by rw [← hg6, vd_up_ne (by omega), vd_up_ne (by omega), vd_up_ne (by omega), vd_up_eq]
  have r4 : g6 118 1 = vd_I 0 := by rw [← hg6, vd_up_ne (by omega), vd_up_eq]
  have r5 : g6 119 1 = vd_I 0 := by rw [← hg6, vd_up_eq]
  have m108 : g6 63 108 = vd_I (-1) := by rw [← hg6, vd_up_ne (by omega), vd_up_ne (by omega), vd_up_ne (by omega), vd_up_ne (by omega), vd_up_ne (by omega), vd_up_ne (by omega), vd_up_ne (by omega), vd_up_eq]
  have m109 : g6 63 109 = vd_I (-1) := by rw [← hg6, vd_up_ne (by omega), vd_up_ne (by omega), vd_up_ne (by omega), vd_up_ne (by omega), vd_up_ne (by omega), vd_up_ne (by omega), vd_up_eq]
  have m106 : g6 63 106 = vd_I (-1) := by rw [← hg6, vd_up_ne (by omega), vd_up_ne (by omega), vd_up_ne (by omega), vd_up_ne (by omega), vd_up_ne (by omega), vd_up_ne (by omega), vd_up_ne (by omega), vd_up_ne (by omega), vd_up_ne (by omega), vd_up_eq]
  have m107 : g6 63 107 = vd_I (-1) := by rw [← hg6, vd_up_ne (by omega), vd_up_ne (by omega), vd_up_ne (by omega), vd_up_ne (by omega), vd_up_ne (by omega), vd_up_ne (by omega), vd_up_ne (by omega), vd_up_ne (by omega), vd_up_eq]
  have u111 : g6 63 111 = vd_I ot := by rw [G6 _ (by omega)]; exact q111
  have u110 : g6 63 110 = vd_I sk := by rw [G6 _ (by omega), G5 _ (by decide) (by decide) (by decide) (by decide), G4 _ (by decide)]; exact q110
  have u112 : g6 63 112 = vd_I rt := by rw [G6 _ (by omega), G5 _ (by decide) (by decide) (by decide) (by decide), G4 _ (by decide), G3 _ (by decide) (by decide)]; exact q112
  have u105 : g6 63 105 = vd_I sz := by rw [G6 _ (by omega)]; exact q105
  have u103 : g6 63 103 = vd_I (s : Int) := by rw [G6 _ (by omega), G5 _ (by decide) (by decide) (by decide) (by decide), G4 _ (by decide)]; exact h103
  have i0 : (0 : Int).toNat = 0 := rfl
  have i1 : (1 : Int).toNat = 1 := rfl
  have mid : ∀ x1 x2 x3 x4 a5 d Q, vd_wp (d + 6) 196 52 [.ref 63, .int x1, .int x2, .int x3, .int x4, a5] [.ref 63] (vd_mf N g) Q = vd_wp (d + 6) 196 217 [.ref 63, .int x1, .int x2, .int x3, .int x4, .int (vd_I 2)] [] (vd_mf N g6) Q := fun x1 x2 x3 x4 a5 d Q => by
    rw [vd_S196_52 hN, t1]
    simp only [vd_rs_v, vd_rs_n]
    refine (t3 x1 x2 x3 x4 a5 (d + 4) Q).trans ((t4 x1 x2 x3 x4 a5 (d + 4) Q).trans ((t5 x1 x2 x3 x4 a5 (d + 2) Q).trans ?_))
    rw [vd_S196_158 hN, vd_S196_181 hN]
    simp (disch := omega) only [vd_S196_187 hN, vd_S196_194 hN, vd_S196_202 hN, vd_S196_210 hN, vd_I_toInt, show (0 : Int) < 2 by decide, if_true, i0, vd_I_add, show (0 + 1 : Int) = 1 from rfl]
    rw [vd_S196_181 hN]
    simp (disch := omega) only [vd_S196_187 hN, vd_S196_194 hN, vd_S196_202 hN, vd_S196_210 hN, vd_I_toInt, show (1 : Int) < 2 by decide, if_true, i1, vd_I_add, show (1 + 1 : Int) = 2 from rfl]
    rw [vd_S196_181 hN]
    simp (disch := omega) only [vd_I_toInt, Int.lt_irrefl, if_false, hg6]
  have e4' : ((4 : Nat) : Int) = 4 := rfl
  rw [e4'] at P4
  have cls : ∀ x1 x2 x3 x4 a5 a6 a7 d Q, vd_wp (d + 4) 67 47 [.ref 44, .int x1, .int x2, .int x3, .int x4, a5, a6, a7] [.ref 44] (vd_mf M f) Q = vd_wp (d + 4) 67 135 [.ref 44, .int x1, .int x2, .int x3, .int x4, .int (vd_I (s : Int)), .int (vd_I ot), a7] [] (vd_mf M f5) Q := fun x1 x2 x3 x4 a5 a6 a7 d Q => by
    rw [vd_S67_47 hM, e1]
    simp only [vd_rs_v, vd_rs_n, vd_S67_50 hM, vd_S67_56 hM, P4]
    exact (e3 x1 x2 x3 x4 a6 a7 (d + 2) Q).trans ((e4 x1 x2 x3 x4 a6 a7 (d + 1) Q).trans (e5 x1 x2 x3 x4 _ a6 a7 (d + 1) Q))
  have FB5' : vd_fB fa f f5 := (((FB1.up (Or.inr (Or.inr (Or.inl rfl)))).trans FB3).trans FD4.toB).trans FB5
  have GB6' : vd_gB g g6 := (((GB1.trans GB3).trans GD4.toB).trans GB5).trans GB6
  have v4 : f5 fa (18 * nb + 4) = vd_I (s : Int) := by rw [F5 _ (by decide), F4, F3 _ (by decide), vd_up_eq]
  have v5 : f5 fa (18 * nb + 5) = vd_I sk := by rw [F5 _ (by decide), F4]; exact q5
  have vq : ∀ q, 7 ≤ q → q ≠ 17 → f5 fa (18 * nb + q) = f fa (18 * nb + q) := fun q a b => by rw [F5 _ (by omega), F4, F3 _ (by omega), vd_up_ne (by omega), F1 _ b]
  have v17 : f5 fa (18 * nb + 17) = vd_I rt := by rw [F5 _ (by decide), F4, F3 _ (by decide), vd_up_ne (by omega)]; exact q17
  have kx6 : vd_VX lo lf W H mo L pw ph x y f5 g6 := kx.keepB hM FB5' GB6'
  rcases ot01 with c | c
  · subst c
    obtain ⟨f7, g7, md, cm, e7, t7, ⟨⟨md0, md1⟩, cm0, cm1⟩, k7, ⟨s7, s8, s9, s10, s11, s16⟩, ⟨s106, s107⟩, F7, G7, C7, FB7, GB7⟩ := vd_modes hM hN k6 hc1 (by omega)
    have cmd : ¬ (md < 0) := by omega
    obtain ⟨b0, b1, b2, b3⟩ := k7.2.2.2.2.2.2.1
    obtain ⟨j1, j2, j3, j4⟩ := k7.2.2.2.2.2.2.2.1
    refine ⟨f7, g7, vd_b18 x y w h s sk sz md cm (-1) (-1) (-1) 0 0 0 0 (-1) rt, mp', fun x1 x2 x3 x4 a5 a6 a7 d Q => ?_, fun x1 x2 x3 x4 a5 d Q => ?_, k7.keepR (k7.1.mono (by omega)) (fun _ _ _ => rfl) (fun _ _ _ => rfl), mb, ?_, ?_, ?_, ?_, ⟨sz2, fun q => absurd q cmd, fun q => absurd q cmd, fun _ => cm0⟩, FB5'.trans FB7, GB6'.trans GB7⟩
    · rw [cls]
      simp (disch := omega) only [vd_S67_135 hM, vd_S67_159 hM, vd_S67_160 hM, vd_I_toInt, eq_self, if_true, e7, vd_rs_v, vd_rs_n, vd_b18, cmd, if_false]
    · rw [mid]
      simp (disch := omega) only [vd_S196_217 hN, vd_S196_231 hN, vd_S196_232 hN, u111, vd_I_toInt, eq_self, if_true, t7, vd_rs_v, vd_rs_n]
    · exact vd_b18_all (P := fun q v => f7 fa (18 * nb + q) = vd_I v) b0 b1 b2 b3 (by rw [F7 _ (by omega)]; exact v4) (by rw [F7 _ (by omega)]; exact v5) (by rw [F7 _ (by omega)]; exact q6) s7 s8 s9 s10 s11 (by rw [F7 _ (by omega), vq _ (by decide) (by decide)]; exact z _ (by decide) (by decide)) (by rw [F7 _ (by omega), vq _ (by decide) (by decide)]; exact z _ (by decide) (by decide)) (by rw [F7 _ (by omega), vq _ (by decide) (by decide)]; exact z _ (by decide) (by decide)) (by rw [F7 _ (by omega), vq _ (by decide) (by decide)]; exact z _ (by decide) (by decide)) s16 (by rw [F7 _ (by omega)]; exact v17)
    · unfold vd_nb
      simp only [vd_b18, cmd, if_false]
      refine ⟨⟨j3, j4, j1, j2, ?_, ?_⟩, ⟨?_, s106, s107, ?_⟩, ⟨?_, ?_, ?_⟩, ⟨?_, ?_, ?_, ?_⟩, ?_, ?_⟩
      · rw [G7 _ (by decide) (by decide) (by decide)]; exact u103
      · rw [G7 _ (by decide) (by decide) (by decide)]; exact u110
      · rw [G7 _ (by decide) (by decide) (by decide)]; exact u105
      · rw [G7 _ (by decide) (by decide) (by decide)]; exact u111
      · rw [C7 _ _ (by decide) (by decide)]; exact r0
      · rw [C7 _ _ (by decide) (by decide)]; exact r1
      · rw [G7 _ (by decide) (by decide) (by decide)]; exact m108
      · rw [C7 _ _ (by decide) (by decide)]; exact r2
      · rw [C7 _ _ (by decide) (by decide)]; exact r3
      · rw [C7 _ _ (by decide) (by decide)]; exact r4
      · rw [C7 _ _ (by decide) (by decide)]; exact r5
      · rw [G7 _ (by decide) (by decide) (by decide)]; exact m109
      · rw [G7 _ (by decide) (by decide) (by decide)]; exact u112
    · unfold vd_BV
      simp only [vd_b18]
      refine ⟨by omega, by omega, by simp, fun q a b => ?_, by omega, by omega, by simp⟩
      have : q = 12 ∨ q = 13 ∨ q = 14 ∨ q = 15 := by omega
      rcases this with rfl | rfl | rfl | rfl <;> exact (by decide : -10000 ≤ (0 : Int) ∧ (0 : Int) ≤ 10000)
    · exact ⟨⟨rfl, rfl, rfl, rfl⟩, ⟨by omega, by omega, by omega, by omega⟩, sk01, rt01⟩
  · subst c
    obtain ⟨f7, g7, ra, rb, nn, a2, e7, t7, ⟨⟨ra0, ra1⟩, rb01⟩, k7, ⟨s7, s8, s9, s10⟩, ⟨w0, w1⟩, F7, G7, C7, FB7, GB7⟩ := vd_refs hM hN k6 hc1 (by omega) hs u103 (otf rfl) r0 r1
    have h103' : g7 63 103 = vd_I (s : Int) := by rw [G7 _ (by decide)]; exact u103
    obtain ⟨f8, g8, kd, kn, e8, t8, ⟨⟨kd0, kd1⟩, kn0, kn1⟩, k8, ⟨s11, s16⟩, ⟨w108, w109⟩, F8, G8, C8, FB8, GB8⟩ := vd_kind hM hN (otX rfl) k7 hc1 (by omega) hs h103'
    have kx8 := (kx6.keepB hM FB7 GB7).keepB hM FB8 GB8
    obtain ⟨f9, g9, v, e9, t9, vb, k9, sv, ⟨w1', w2', w3', w4'⟩, F9, G9, C9, FB9, GB9⟩ := vd_vecs hM hN (otX rfl) k8 hc1 kx8 kv (by omega) kd0 kd1 ⟨ra0, ra1⟩ rb01 s11 w108 (by rw [F8 _ (by decide) (by decide)]; exact s9) (by rw [F8 _ (by decide) (by decide)]; exact s10) (by rw [C8 _ _ (by decide) (by decide)]; exact w0) (by rw [C8 _ _ (by decide) (by decide)]; exact w1) (fun q a b => by rw [F8 _ (by omega) (by omega), F7 _ (by omega), vq _ (by omega) (by omega)]; exact z _ (by omega) (by omega)) ⟨by rw [C8 _ _ (by decide) (by decide), C7 _ _ (by decide) (by decide)]; exact r2, by rw [C8 _ _ (by decide) (by decide), C7 _ _ (by decide) (by decide)]; exact r3, by rw [C8 _ _ (by decide) (by decide), C7 _ _ (by decide) (by decide)]; exact r4, by rw [C8 _ _ (by decide) (by decide), C7 _ _ (by decide) (by decide)]; exact r5⟩
    have v12 := vb 12 (by decide) (by decide)
    have v13 := vb 13 (by decide) (by decide)
    have v14 := vb 14 (by decide) (by decide)
    have v15 := vb 15 (by decide) (by decide)
    obtain ⟨b0, b1, b2, b3⟩ := k9.2.2.2.2.2.2.1
    obtain ⟨j1, j2, j3, j4⟩ := k9.2.2.2.2.2.2.2.1
    have lt : (-1 : Int) < 0 := by decide
    have FF : ∀ q, q < 7 ∨ q = 17 → f9 fa (18 * nb + q) = f5 fa (18 * nb + q) := fun q hq => by rw [F9 _ (by omega), F8 _ (by omega) (by omega), F7 _ (by omega)]
    have GG : ∀ i, 103 ≤ i → i ≠ 108 → i ≠ 109 → i ≠ 116 → g9 63 i = g6 63 i := fun i a b c d => by rw [G9 _ a d, G8 _ a b c, G7 _ a]
    refine ⟨f9, g9, vd_b18 x y w h s sk sz (-1) (-1) ra rb kd (v 12) (v 13) (v 14) (v 15) kn rt, mp', fun x1 x2 x3 x4 a5 a6 a7 d Q => ?_, fun x1 x2 x3 x4 a5 d Q => ?_, k9.keepR (k9.1.mono (by omega)) (fun _ _ _ => rfl) (fun _ _ _ => rfl), mb, ?_, ?_, ?_, ?_, ⟨sz2, fun _ => ⟨otX rfl, kd0, kn0⟩, fun _ => ⟨rfl, rfl⟩, fun q => absurd q (by decide : ¬ ((0 : Int) ≤ -1))⟩, ((FB5'.trans FB7).trans FB8).trans FB9, ((GB6'.trans GB7).trans GB8).trans GB9⟩
    · rw [cls]
      simp (disch := omega) only [vd_S67_135 hM, vd_S67_140 hM, vd_S67_143 hM, vd_S67_146 hM, vd_S67_149 hM, vd_S67_152 hM, vd_S67_153 hM, vd_S67_156 hM, vd_I_toInt, show ¬ ((1 : Int) = 0) by decide, if_false, e7, e8, e9, vd_rs_v, vd_rs_n, vd_b18, lt, if_true]
    · rw [mid]
      simp (disch := omega) only [vd_S196_217 hN, vd_S196_224 hN, vd_S196_225 hN, u111, vd_I_toInt, show ¬ ((1 : Int) = 0) by decide, if_false]
      obtain ⟨a3, a4, t8'⟩ := t8 (vd_I nn) a2
      refine (t7 (d + 3) _).trans ((t8' (d + 2) _).trans ((t9 _ a3 a4 d _).trans ?_))
      simp only [vd_rs_v, vd_rs_n, vd_S196_228 hN]
    · exact vd_b18_all (P := fun q v => f9 fa (18 * nb + q) = vd_I v) b0 b1 b2 b3 (by rw [FF _ (by omega)]; exact v4) (by rw [FF _ (by omega)]; exact v5) (by rw [FF _ (by omega)]; exact q6) (by rw [F9 _ (by omega), F8 _ (by decide) (by decide)]; exact s7) (by rw [F9 _ (by omega), F8 _ (by decide) (by decide)]; exact s8) (by rw [F9 _ (by omega), F8 _ (by decide) (by decide)]; exact s9) (by rw [F9 _ (by omega), F8 _ (by decide) (by decide)]; exact s10) (by rw [F9 _ (by omega)]; exact s11) (sv 12 (by decide) (by decide)) (sv 13 (by decide) (by decide)) (sv 14 (by decide) (by decide)) (sv 15 (by decide) (by decide)) (by rw [F9 _ (by omega)]; exact s16) (by rw [FF _ (by omega)]; exact v17)
    · unfold vd_nb
      simp only [vd_b18, lt, if_true]
      refine ⟨⟨j3, j4, j1, j2, ?_, ?_⟩, ⟨?_, ?_, ?_, ?_⟩, ⟨?_, ?_, ?_⟩, ⟨w1', w2', w3', w4'⟩, ?_, ?_⟩
      · rw [GG _ (by decide) (by decide) (by decide) (by decide)]; exact u103
      · rw [GG _ (by decide) (by decide) (by decide) (by decide)]; exact u110
      · rw [GG _ (by decide) (by decide) (by decide) (by decide)]; exact u105
      · rw [GG _ (by decide) (by decide) (by decide) (by decide)]; exact m106
      · rw [GG _ (by decide) (by decide) (by decide) (by decide)]; exact m107
      · rw [GG _ (by decide) (by decide) (by decide) (by decide)]; exact u111
      · rw [C9, C8 _ _ (by decide) (by decide)]; exact w0
      · rw [C9, C8 _ _ (by decide) (by decide)]; exact w1
      · rw [G9 _ (by decide) (by decide)]; exact w108
      · rw [G9 _ (by decide) (by decide)]; exact w109
      · rw [GG _ (by decide) (by decide) (by decide) (by decide)]; exact u112
    · unfold vd_BV
      simp only [vd_b18]
      refine ⟨by omega, by omega, by omega, fun q a b => ?_, by omega, by omega, by omega⟩
      have : q = 12 ∨ q = 13 ∨ q = 14 ∨ q = 15 := by omega
      rcases this with rfl | rfl | rfl | rfl
      · show -10000 ≤ v 12 ∧ v 12 ≤ 10000
        omega
      · show -10000 ≤ v 13 ∧ v 13 ≤ 10000
        omega
      · show -10000 ≤ v 14 ∧ v 14 ≤ 10000
        omega
      · show -10000 ≤ v 15 ∧ v 15 ≤ 10000
        omega
    · exact ⟨⟨rfl, rfl, rfl, rfl⟩, ⟨by omega, by omega, by omega, by omega⟩, sk01, rt01⟩
end VDRB
