/-! ===== a block, whole ===== -/
def vd_fBk (ow fa s : Nat) (f f' : Nat → Nat → Int32) : Prop := ∀ c i, c ≠ 34 → c ≠ 36 → c ≠ fa → c ≠ ow → c ≠ 42 → c ≠ 43 → c ≠ 44 → ¬ (c = 45 ∧ (i = 3 ∨ (10 ≤ i ∧ i ≤ 16))) → ¬ (48 ≤ c ∧ c ≤ 54) → c ≠ 56 → c ≠ 58 → c ≠ 59 → ¬ (c = 37 ∧ i = 4) → c ≠ s → f' c i = f c i
def vd_gBk (q : Nat) (g g' : Nat → Nat → Int32) : Prop := ∀ c i, ¬ (c = 63 ∧ (i = 46 ∨ i = 47 ∨ i = 69 ∨ (91 ≤ i ∧ i ≤ 128))) → c ≠ 72 → c ≠ 81 → c ≠ 82 → ¬ (88 ≤ c ∧ c ≤ 104) → ¬ (106 ≤ c ∧ c ≤ 108) → ¬ (110 ≤ c ∧ c ≤ 112) → ¬ (117 ≤ c ∧ c ≤ 121) → ¬ (123 ≤ c ∧ c ≤ 127) → ¬ (q + 2 ≤ c ∧ c ≤ q + 4) → g' c i = g c i
theorem vd_fBk.refl (ow fa s : Nat) (f : Nat → Nat → Int32) : vd_fBk ow fa s f f := fun _ _ _ _ _ _ _ _ _ _ _ _ _ _ _ _ => rfl
theorem vd_gBk.refl (q : Nat) (g : Nat → Nat → Int32) : vd_gBk q g g := fun _ _ _ _ _ _ _ _ _ _ _ _ => rfl
theorem vd_fBk.trans {ow fa s : Nat} {f f1 f2 : Nat → Nat → Int32} (h : vd_fBk ow fa s f f1) (h2 : vd_fBk ow fa s f1 f2) : vd_fBk ow fa s f f2 := fun c i a1 a2 a3 a4 a5 a6 a7 a8 a9 a10 a11 a12 a13 a14 => by rw [h2 c i a1 a2 a3 a4 a5 a6 a7 a8 a9 a10 a11 a12 a13 a14, h c i a1 a2 a3 a4 a5 a6 a7 a8 a9 a10 a11 a12 a13 a14]
theorem vd_gBk.trans {q : Nat} {g g1 g2 : Nat → Nat → Int32} (h : vd_gBk q g g1) (h2 : vd_gBk q g1 g2) : vd_gBk q g g2 := fun c i a1 a2 a3 a4 a5 a6 a7 a8 a9 a10 => by rw [h2 c i a1 a2 a3 a4 a5 a6 a7 a8 a9 a10, h c i a1 a2 a3 a4 a5 a6 a7 a8 a9 a10]
theorem vd_fS.bk {ow fa s : Nat} {f f' : Nat → Nat → Int32} (h : vd_fS s f f') : vd_fBk ow fa s f f' := fun c i a1 a2 a3 a4 a5 a6 a7 a8 a9 a10 a11 a12 a13 a14 => h c i (by omega) a2 a6 (by omega) (by omega) (by omega) (by omega) (by omega) (by omega) a14
theorem vd_gS.bk {q : Nat} {g g' : Nat → Nat → Int32} (h : vd_gS q g g') : vd_gBk q g g' := fun c i a1 a2 a3 a4 a5 a6 a7 a8 a9 a10 => h c i (by omega) a3 a4 a6 a7 a9 a10
/-- tables, and the pictures that are referred to -/
def vd_STT (M N : vd_M) (s q : Nat) (X : Nat → Nat → Int) (Z : Nat → Nat → Nat → Nat) (R : Nat → Nat → Nat → Nat → Int) (pw ph : Int) (f g : Nat → Nat → Int32) : Prop := (vd_stC f ∧ vd_stW f ∧ vd_TB f) ∧ vd_SCT Z f g ∧ (vd_stR g ∧ vd_tpR g) ∧ (g q 0 = vd_I pw ∧ g q 1 = vd_I ph) ∧ (X 0 0 = 0 → vd_RpA M s pw ph R f ∧ vd_RR N q pw ph R g)
section VDTK
variable {M N : vd_M} {ow fa lo lf W H nb : Nat} {O : Nat → Nat → Option Nat} {B X mp : Nat → Nat → Int} {mo : Int} {L : Nat → Nat → Nat → Int} {Z : Nat → Nat → Nat → Nat} {R : Nat → Nat → Nat → Nat → Int} {pw ph : Int} {p s q : Nat} {x y w h n : Nat} {P K : Nat → Nat → Nat → Int} {f g : Nat → Nat → Int32}
theorem vd_STT.keep (hM : vd_SC M ow fa lo lf) (hp : vd_PC M p s) (hq : vd_PD N q) (k : vd_STT M N s q X Z R pw ph f g) {f' g' : Nat → Nat → Int32} (hf : vd_fBk ow fa s f f') (hg : vd_gBk q g g') : vd_STT M N s q X Z R pw ph f' g' := by
  have hpar := vd_par4 hM
  have hp' := hp.2.2
  have hq' := hq.2.2.2
  have F : ∀ c i, c < 10 ∨ c = 46 ∨ c = 47 ∨ c = 57 → f' c i = f c i := fun c i a => hf c i (by omega) (by omega) (by omega) (by omega) (by omega) (by omega) (by omega) (by omega) (by omega) (by omega) (by omega) (by omega) (by omega) (by omega)
  have G : ∀ c i, c < 10 ∨ (184 ≤ c ∧ c < 196) ∨ c = q → g' c i = g c i := fun c i a => hg c i (by omega) (by omega) (by omega) (by omega) (by omega) (by omega) (by omega) (by omega) (by omega) (by omega)
  obtain ⟨⟨⟨c5, c5'⟩, ⟨c6, c6'⟩, tb⟩, sct, ⟨⟨st, st'⟩, tp⟩, ⟨d1, d2⟩, rr⟩ := k
  refine ⟨⟨⟨fun j hj => ?_, fun j hj => ?_⟩, ⟨fun j hj => ?_, fun k p h1 h2 => ?_⟩, fun kk t i h1 h2 h3 => ?_⟩, fun o s i h1 h2 h3 h4 => ?_, ⟨⟨fun j hj => ?_, fun j hj => ?_⟩, fun n hn => ?_⟩, ⟨?_, ?_⟩, fun e => ⟨(rr e).1.keep hp fun c i a1 a2 => hf c i (by omega) (by omega) (by omega) (by omega) (by omega) (by omega) (by omega) (by omega) (by omega) (by omega) (by omega) (by omega) (by omega) a2, (rr e).2.keep hq fun c i a1 a2 a3 a4 => hg c i (by omega) (by omega) (by omega) (by omega) (by omega) (by omega) (by omega) (by omega) (by omega) (by omega)⟩⟩
  · rw [F _ _ (by omega)]; exact c5 j hj
  · rw [F _ _ (by omega)]; exact c5' j hj
  · rw [F _ _ (by omega)]; exact c6 j hj
  · rw [F _ _ (by omega)]; exact c6' k p h1 h2
  · rw [F _ _ (by omega)]; exact tb kk t i h1 h2 h3
  · rw [F _ _ (by omega), G _ _ (by omega)]
    exact sct o s i h1 h2 h3 h4
  · rw [G _ _ (by omega)]; exact st j hj
  · rw [G _ _ (by omega)]; exact st' j hj
  · rw [G _ _ (by omega)]; exact tp n hn
  · rw [G _ _ (by omega)]; exact d1
  · rw [G _ _ (by omega)]; exact d2
/-- what a block keeps of the frame -/
theorem vd_FK.keepS (hM : vd_SC M ow fa lo lf) (hp : vd_PC M p s) (hq : vd_PD N q) (k : vd_FK ow fa lo lf W H nb O B X mp mo L pw ph n f g) {m : Nat} {f' g' : Nat → Nat → Int32} (rd : vd_RD m f' g') (hf : ∀ c i, c ≠ 34 → c ≠ 36 → c ≠ 43 → ¬ (45 ≤ c ∧ c ≤ 59) → c ≠ s → f' c i = f c i) (hg : ∀ c i, ¬ (c = 63 ∧ (i = 46 ∨ i = 47 ∨ (91 ≤ i ∧ i ≤ 128))) → c ≠ 81 → c ≠ 82 → ¬ (106 ≤ c ∧ c ≤ 112) → ¬ (123 ≤ c ∧ c ≤ 127) → ¬ (q + 2 ≤ c ∧ c ≤ q + 4) → g' c i = g c i) : vd_FK ow fa lo lf W H nb O B X mp mo L pw ph m f' g' := by
  have hpar := vd_par4 hM
  have hp' := hp.2.2
  have hq' := hq.2.2.2
  have F : ∀ c i, c = 42 ∨ c = 37 ∨ (17 ≤ c ∧ c ≤ 26) ∨ (38 ≤ c ∧ c ≤ 41) → f' c i = f c i := fun c i a => hf c i (by omega) (by omega) (by omega) (by omega) (by omega)
  have G : ∀ c i, (c = 63 ∧ (i < 46 ∨ i = 48 ∨ i = 69)) ∨ (72 ≤ c ∧ c ≤ 78) ∨ (84 ≤ c ∧ c ≤ 104) → g' c i = g c i := fun c i a => hg c i (by omega) (by omega) (by omega) (by omega) (by omega) (by omega)
  obtain ⟨_, ga, gb, ⟨ca, cb⟩, ⟨m1, m2⟩, ⟨n1, n2⟩, vf⟩ := k
  refine ⟨rd, ga.keep fun c i a => F c i (by omega), gb.keep fun c i a => G c i (by omega), ⟨ca.keep fun c i a1 a2 => F c i (by omega), cb.keep fun c i a => by unfold vd_inB at a; exact G c i (by omega)⟩, ⟨fun i j h1 h2 => ?_, fun i j h1 h2 => ?_⟩, ⟨?_, ?_⟩, vf.keep (fun c i a => F c i (by omega)) (fun c i a => G c i (by omega))⟩
  · rw [F _ _ (by omega)]; exact m1 i j h1 h2
  · rw [G _ _ (by omega)]; exact m2 i j h1 h2
  · rw [F _ _ (by omega)]; exact n1
  · rw [G _ _ (by omega)]; exact n2
def vd_TkPost (M N : vd_M) (ow fa lo lf W H nb : Nat) (O : Nat → Nat → Option Nat) (B X : Nat → Nat → Int) (mo : Int) (L : Nat → Nat → Nat → Int) (s q : Nat) (pw ph : Int) (x y w h n : Nat) (K : Nat → Nat → Nat → Int) (f g : Nat → Nat → Int32) : Prop := ∃ (f' g' : Nat → Nat → Int32) (b : Nat → Int) (mp' : Nat → Nat → Int) (P' K' : Nat → Nat → Nat → Int), (∀ a5 a6 a7 d Q, vd_wp (d + 5) 67 0 [.ref 44, .int (vd_I (x : Int)), .int (vd_I (y : Int)), .int (vd_I (w : Int)), .int (vd_I (h : Int)), a5, a6, a7] [] (vd_mf M f) Q = Q (vd_mf M f') (.inl none)) ∧ (∀ a5 d Q, vd_wp (d + 7) 196 0 [.ref 63, .int (vd_I (8 * (x : Int))), .int (vd_I (8 * (y : Int))), .int (vd_I (8 * (w : Int))), .int (vd_I (8 * (h : Int))), a5] [] (vd_mf N g) Q = Q (vd_mf N g') (.inl none)) ∧ vd_FK ow fa lo lf W H (nb + 1) (vd_Og O nb x (min W (x + w)) y (min H (y + h))) (vd_Bg B nb b) X mp' mo L pw ph (n + 98 + 6144 * (w * h)) f' g' ∧ (∀ i j, 0 ≤ mp' i j ∧ mp' i j ≤ 7) ∧ vd_BV b ∧ vd_bb b x y w h ∧ vd_BX X b w h ∧ vd_PK s q pw ph P' K' f' g' ∧ vd_PKV W H pw ph (vd_Og O nb x (min W (x + w)) y (min H (y + h))) P' K' ∧ f' 45 3 = g' 63 47 ∧ (∀ c a e, ¬ (c < 3 ∧ vd_ar c x y w h a e) → K' c a e = K c a e) ∧ vd_fBk ow fa s f f' ∧ vd_gBk q g g'
theorem vd_take (hM : vd_SC M ow fa lo lf) (hN : vd_SR N) (hp : vd_PC M p s) (h44 : vd_r M 44 7 = some p) (hq : vd_PD N q) (hnow : vd_r N 63 23 = some q) (k : vd_FK ow fa lo lf W H nb O B X mp mo L pw ph n f g) (hc : vd_BC W H nb X mp x y w h) (kv : vd_VV W H mo L pw ph) (st : vd_STT M N s q X Z R pw ph f g) (hZ : vd_SCV Z) (hRb : ∀ r pl a b, 0 ≤ R r pl a b ∧ R r pl a b ≤ 255) (pk : vd_PK s q pw ph P K f g) (pkv : vd_PKV W H pw ph O P K) (cnt : f 45 3 = g 63 47) (hx : 8 * x + 8 * w ≤ vd_ws 0 pw) (hy : 8 * y + 8 * h ≤ vd_ws 0 ph) (hK : ∀ pl a e, pl < 3 → vd_ar pl x y w h a e → K pl a e = 0) (hn : n + 98 + 6144 * (w * h) ≤ 8000000) : vd_TkPost M N ow fa lo lf W H nb O B X mo L s q pw ph x y w h n K f g := by
  have hpar := vd_par4 hM
  have hp' := hp.2.2
  have hq' := hq.2.2.2
  obtain ⟨hX, hmp, hW, hnb, ⟨hxW, hyH⟩, hw8, hh8⟩ := id hc
  obtain ⟨_, p0, q0⟩ := id kv
  obtain ⟨f1, g1, b, mp', e1, t1, fk1, mb, hfb, nb1, bV, bb, bX, ⟨here, g95, g96⟩, F1, G1⟩ := vd_blk hM hN k hc kv (by omega)
  have F1b : vd_fBk ow fa s f f1 := fun c i a1 a2 a3 a4 a5 a6 a7 a8 a9 a10 a11 a12 a13 a14 => F1 c i a1 a2 a3 a4 a5 a7 (by omega) a10 a13
  have G1b : vd_gBk q g g1 := fun c i a1 a2 a3 a4 a5 a6 a7 a8 a9 a10 => G1 c i (by omega) a2 a3 a4 a5 a8
  obtain ⟨sg, hsg⟩ := Int.eq_ofNat_of_zero_le bV.2.1.1
  have hsg' : (b 4).toNat = sg := by rw [hsg]; rfl
  have sg8 : sg < 8 := by have := bV.2.1.2.1; omega
  obtain ⟨f2, c1, c2, c3, c4⟩ := vd_P102 (X := X) (f := f1) hM hX fk1.2.2.2.1.1 sg8
  have F2b : vd_fBk ow fa s f1 f2 := fun c i a1 a2 a3 a4 a5 a6 a7 a8 a9 a10 a11 a12 a13 a14 => c4 c i (by omega) (by omega)
  have pk2 : vd_PK s q pw ph P K f2 g1 := pk.keep (fun c i a => by rw [c4 c i (by omega) (by omega)]; exact F1 c i (by omega) (by omega) (by omega) (by omega) (by omega) (by omega) (by omega) (by omega) (by omega)) (fun c i a => G1 c i (by omega) (by omega) (by omega) (by omega) (by omega) (by omega))
  have st2 := (st.keep hM hp hq F1b G1b).keep hM hp hq F2b (vd_gBk.refl q g1)
  have hfb2 : ∀ k, k < 18 → f2 fa (18 * nb + k) = vd_I (b k) := fun k hk => by rw [c4 _ _ (by omega) (by omega)]; exact hfb k hk
  have here2 : f2 44 8 = vd_I (18 * (nb : Int)) := by rw [c4 _ _ (by omega) (by omega)]; exact here
  have rd2 : vd_RD (n + 98) f2 g1 := fk1.1.keep (fun c i a => c4 c i (by omega) (by omega)) (fun _ _ _ => rfl)
  have cnt2 : f2 45 3 = g1 63 47 := by rw [c4 _ _ (by omega) (by omega), F1 _ _ (by omega) (by omega) (by omega) (by omega) (by omega) (by omega) (by omega) (by omega) (by omega), G1 _ _ (by omega) (by omega) (by omega) (by omega) (by omega) (by omega)]; exact cnt
  -- prediction from elsewhere
  obtain ⟨f3, g3, P3, K3, o, x5, ho, u1, u2, pk3, pb3, hK3, ke3, F3, G3⟩ : ∃ (f3 g3 : Nat → Nat → Int32) (P3 K3 : Nat → Nat → Nat → Int) (o : Nat) (x5 : Int32), ((o = 1 ∧ b 7 = -1 ∧ b 8 = -1) ∨ (o = 0 ∧ 0 ≤ b 7 ∧ 0 ≤ b 8)) ∧ (∀ x1 x2 x3 x4 x5 a7 d Q, vd_wp (d + 4) 67 183 [.ref 44, .int x1, .int x2, .int x3, .int x4, .int x5, .int (vd_I (if b 7 < 0 then 1 else 0)), a7] [] (vd_mf M f2) Q = vd_wp (d + 4) 67 203 [.ref 44, .int x1, .int x2, .int x3, .int x4, .int x5, .int (vd_I (o : Int)), a7] [] (vd_mf M f3) Q) ∧ (∀ x1 x2 x3 x4 d Q, vd_wp (d + 5) 196 239 [.ref 63, .int x1, .int x2, .int x3, .int x4, .int (vd_I 2)] [] (vd_mf N g1) Q = vd_wp (d + 5) 196 267 [.ref 63, .int x1, .int x2, .int x3, .int x4, .int x5] [] (vd_mf N g3) Q) ∧ vd_PK s q pw ph P3 K3 f3 g3 ∧ (∀ pl x y, 0 ≤ P3 pl x y ∧ P3 pl x y ≤ 255) ∧ (∀ pl a e, pl < 3 → vd_ar pl x y w h a e → (K3 pl a e = 0 ∨ K3 pl a e = 1) ∧ (o = 1 → K3 pl a e ≠ 0)) ∧ (∀ pl a e, ¬ (pl < 3 ∧ vd_ar pl x y w h a e) → K3 pl a e = K pl a e) ∧ vd_fQ s f2 f3 ∧ vd_gQ q g1 g3 := by
    have g111 := nb1.2.1.2.2.2
    by_cases cb : b 7 < 0
    · obtain ⟨x00, b11, b16⟩ := bX.2.1 cb
      obtain ⟨e7, e8⟩ := bX.2.2.1 cb
      have b9 := bV.2.2.2.2.2.1 cb
      have bV3 := bV.2.2.1
      have bV5 := bV.2.2.2.2.1
      obtain ⟨ra, rr⟩ := st2.2.2.2.2 x00
      rw [if_pos cb] at g111 ⊢
      obtain ⟨f3, g3, P3, K3, v1, v2, v3, v4, v5, v6, v7, v8⟩ := vd_predO (R := R) (nb := nb) hM hN hp h44 hq hnow pk2 ⟨hfb2, st2.1.2.2, ra⟩ ⟨st2.2.2.2.1.1, nb1, st2.2.2.1.2, rr⟩ hnb bb ⟨⟨b9, bV3.2.1⟩, bV3.2.2.1, bV.2.2.2.1, ⟨b16, bV5.2.1⟩⟩ hx hy hRb pkv.1 p0 q0 g95 g96 g111 here2 (fun pl i j h1 h2 => by rw [hK pl i j h1 h2]; decide)
      exact ⟨f3, g3, P3, K3, 1, _, Or.inl ⟨rfl, e7, e8⟩, v1, fun x1 x2 x3 x4 d Q => v2 x1 x2 x3 x4 (vd_I 2) d Q, v3, v4, fun pl a e h1 h2 => ⟨Or.inr (v5 pl a e h1 h2), fun _ => by rw [v5 pl a e h1 h2]; decide⟩, v6, v7, v8⟩
    · have b70 : 0 ≤ b 7 := by omega
      rw [if_neg cb] at g111 ⊢
      refine ⟨f2, g1, P, K, 0, vd_I 2, Or.inr ⟨rfl, b70, bX.2.2.2 b70⟩, fun x1 x2 x3 x4 x5 a7 d Q => ?_, fun x1 x2 x3 x4 d Q => ?_, pk2, pkv.1, fun pl a e h1 h2 => ⟨Or.inl (hK pl a e h1 h2), fun e => absurd e (by decide)⟩, fun _ _ _ _ => rfl, fun _ _ _ _ _ _ _ => rfl, fun _ _ _ _ => rfl⟩
      · simp (disch := omega) only [vd_S67_183 hM, vd_I_toInt, eq_self, if_true]
        rfl
      · simp (disch := omega) only [vd_S196_239 hN, g111, vd_I_toInt, eq_self, if_true]
  have F3b : vd_fBk ow fa s f2 f3 := fun c i a1 a2 a3 a4 a5 a6 a7 a8 a9 a10 a11 a12 a13 a14 => F3 c i (by omega) a11 a12 a14 a6
  have G3b : vd_gBk q g1 g3 := fun c i a1 a2 a3 a4 a5 a6 a7 a8 a9 a10 => G3 c i a6 a10
  have st3 := st2.keep hM hp hq F3b G3b
  have F3' : ∀ c i, c < 197 → c ≠ 43 → c ≠ 54 → c ≠ 58 → c ≠ 59 → f3 c i = f2 c i := fun c i a1 a2 a3 a4 a5 => F3 c i (by omega) a4 a5 (by omega) a2
  have G3' : ∀ c i, ¬ (106 ≤ c ∧ c ≤ 108) → ¬ (129 ≤ c ∧ c ≤ 183) → g3 c i = g1 c i := fun c i a1 a2 => G3 c i a1 (by omega)
  generalize hO' : vd_Og O nb x (min W (x + w)) y (min H (y + h)) = O' at *
  have Oin : ∀ i j, x ≤ i → i < x + w → y ≤ j → j < y + h → i < W → j < H → O' i j ≠ none := fun i j h1 h2 h3 h4 h5 h6 => by
    rw [← hO']
    unfold vd_Og
    rw [if_pos ⟨h1, by omega, h3, by omega⟩]
    exact Option.some_ne_none nb
  have Omo : ∀ i j, O i j ≠ none → O' i j ≠ none := fun i j h => by
    rw [← hO']
    unfold vd_Og
    split
    · exact Option.some_ne_none nb
    · exact h
  have wx := fun pl => vd_ws_us (pl := pl) p0 hx
  have wy := fun pl => vd_ws_us (pl := pl) q0 hy
  have cuv := fun pl => vd_cu_v pl
  have arin : ∀ pl a e, vd_ar pl x y w h a e → 4 * a < vd_ws pl pw ∧ 4 * e < vd_ws pl ph := fun pl a e h => by
    have h1 := wx pl
    have h2 := wy pl
    unfold vd_ar at h
    rcases cuv pl with ⟨e1, e2, _⟩ | ⟨e1, e2, _⟩ <;> rw [e1] at h1 h2 <;> rw [e2] at h <;> omega
  have pkv3 : vd_PKV W H pw ph O' P3 K3 := by
    refine ⟨pb3, fun c a e => ?_, fun c a e hh => ?_, fun c a e h1 h2 h3 h4 => ?_⟩
    · by_cases ca : c < 3 ∧ vd_ar c x y w h a e
      · rcases (hK3 c a e ca.1 ca.2).1 with q1 | q1
        · exact Or.inl q1
        · exact Or.inr (Or.inl q1)
      · rw [ke3 c a e ca]
        exact pkv.2.1 c a e
    · rw [ke3 c a e (fun ca => hh (arin c a e ca.2))]
      exact pkv.2.2.1 c a e hh
    · by_cases ca : c < 3 ∧ vd_ar c x y w h a e
      · have := (hK3 c a e ca.1 ca.2).1
        omega
      · rw [ke3 c a e ca] at h2
        exact Omo _ _ (pkv.2.2.2 c a e h1 h2 h3 h4)
  have rd3 : vd_RD (n + 98) f3 g3 := rd2.keep (fun c i a => F3' c i (by omega) (by omega) (by omega) (by omega) (by omega)) (fun c i a => G3' c i (by omega) (by omega))
  have cnt3 : f3 45 3 = g3 63 47 := by rw [F3' _ _ (by omega) (by omega) (by omega) (by omega) (by omega), G3' _ _ (by omega) (by omega)]; exact cnt2
  have nb3 : vd_nb b g3 := by
    obtain ⟨⟨a1, a2, a3, a4, a5, a6⟩, ⟨b1, b2, b3, b4⟩, ⟨e1, e2, e3⟩, ⟨h1, h2, h3, h4⟩, i1, i2⟩ := nb1
    refine ⟨⟨?_, ?_, ?_, ?_, ?_, ?_⟩, ⟨?_, ?_, ?_, ?_⟩, ⟨?_, ?_, ?_⟩, ⟨?_, ?_, ?_, ?_⟩, ?_, ?_⟩ <;> rw [G3' _ _ (by omega) (by omega)] <;> assumption
  have F31 : ∀ c i, c < 197 → c ≠ 43 → c ≠ 45 → c ≠ 51 → c ≠ 54 → c ≠ 58 → c ≠ 59 → f3 c i = f1 c i := fun c i a1 a2 a3 a4 a5 a6 a7 => by rw [F3' c i a1 a2 a5 a6 a7, c4 c i (by omega) a4]
  have sb3 : vd_SB fa nb q W H O' (vd_Bg B nb b) X Z b pw ph f3 g3 := ⟨⟨⟨by rw [F3' _ _ (by omega) (by omega) (by omega) (by omega) (by omega)]; exact here2, fun k hk => by rw [F3' _ _ (by omega) (by omega) (by omega) (by omega) (by omega)]; exact hfb2 k hk⟩, ⟨by rw [F3' _ _ (by omega) (by omega) (by omega) (by omega) (by omega)]; exact c3, fun j hj => by rw [F3' _ _ (by omega) (by omega) (by omega) (by omega) (by omega), hsg']; exact c2 j hj⟩, st3.1.1, st3.1.2.1, by rw [F31 _ _ (by omega) (by omega) (by omega) (by omega) (by omega) (by omega) (by omega)]; exact fk1.2.1.1.1, by rw [F31 _ _ (by omega) (by omega) (by omega) (by omega) (by omega) (by omega) (by omega)]; exact fk1.2.1.1.2⟩, st3.2.1, ⟨fk1.2.2.2.1.2.keep fun c i a => by unfold vd_inB at a; exact G3' c i (by omega) (by omega), fk1.2.2.1.keep fun c i a => G3' c i (by omega) (by omega), st3.2.2.1.1⟩, st3.2.2.2.1, nb3⟩
  have hC : vd_QC M N ow fa lo lf nb W H o p s q X Z b pw ph := ⟨⟨hM, hN⟩, ⟨hp, h44⟩, ⟨hq, hnow⟩, hX, ⟨hW.1, hW.2.1, hW.2.2.1, hW.2.2.2, hnb⟩, hZ, bV, ⟨p0, q0⟩, ho, bb.2.2.1⟩
  have hB : vd_PB W H X b pw ph x y w h O' := ⟨bb, ⟨hw8, hh8⟩, ⟨hx, hy⟩, bX.1, Oin⟩
  obtain ⟨f4, g4, P4, K4, a1, a2, qi4, k4, F4, G4⟩ := vd_plane (pl := 0) hC sb3 ⟨pk3, pkv3, rd3, cnt3⟩ hB (by rw [G3' _ _ (by omega) (by omega)]; exact g95) (by rw [G3' _ _ (by omega) (by omega)]; exact g96) (by decide) (by omega) (fun a e hh => by
    have := hK3 0 a e (by decide) hh
    exact ⟨by omega, this.2⟩)
  have sb4 := sb3.keep hM hp hq F4 G4
  obtain ⟨f5, g5, P5, K5, a3, a4, qi5, k5, F5, G5⟩ := vd_plane (pl := 1) hC sb4 qi4 hB (by rw [G4 _ _ (by omega) (by omega) (by omega) (by omega) (by omega) (by omega) (by omega), G3' _ _ (by omega) (by omega)]; exact g95) (by rw [G4 _ _ (by omega) (by omega) (by omega) (by omega) (by omega) (by omega) (by omega), G3' _ _ (by omega) (by omega)]; exact g96) (by decide) (by omega) (fun a e hh => by
    have := hK3 1 a e (by decide) hh
    rw [k4 1 a e (fun q => absurd q.1 (by decide))]
    exact ⟨by omega, this.2⟩)
  have sb5 := sb4.keep hM hp hq F5 G5
  obtain ⟨f6, g6, P6, K6, a5, a6, qi6, k6, F6, G6⟩ := vd_plane (pl := 2) hC sb5 qi5 hB (by rw [G5 _ _ (by omega) (by omega) (by omega) (by omega) (by omega) (by omega) (by omega), G4 _ _ (by omega) (by omega) (by omega) (by omega) (by omega) (by omega) (by omega), G3' _ _ (by omega) (by omega)]; exact g95) (by rw [G5 _ _ (by omega) (by omega) (by omega) (by omega) (by omega) (by omega) (by omega), G4 _ _ (by omega) (by omega) (by omega) (by omega) (by omega) (by omega) (by omega), G3' _ _ (by omega) (by omega)]; exact g96) (by decide) (by omega) (fun a e hh => by
    have := hK3 2 a e (by decide) hh
    rw [k5 2 a e (fun q => absurd q.1 (by decide)), k4 2 a e (fun q => absurd q.1 (by decide))]
    exact ⟨by omega, this.2⟩)
  have F63 : vd_fS s f3 f6 := (F4.trans F5).trans F6
  have G63 : vd_gS q g3 g6 := (G4.trans G5).trans G6
  have z0 : ((0 : Nat) : Int) = 0 := rfl
  have z1 : ((1 : Nat) : Int) = 1 := rfl
  have z2 : ((2 : Nat) : Int) = 2 := rfl
  rw [z0] at a1 a2
  rw [z1] at a3 a4
  rw [z2] at a5 a6
  refine ⟨f6, g6, b, mp', P6, K6, fun q5 q6 q7 d Q => ?_, fun q5 d Q => ?_, ?_, mb, bV, bb, bX, qi6.1, ?_, qi6.2.2.2, fun c a e hh => ?_, ((F1b.trans F2b).trans F3b).trans F63.bk, (G1b.trans G3b).trans G63.bk⟩
  · rw [e1 q5 q6 q7 (d + 1) Q, hsg]
    simp only [vd_S67_174 hM, vd_S67_180 hM, c1, vd_rs_v, vd_rs_n]
    rw [u1]
    simp (disch := omega) only [vd_S67_203 hM, vd_S67_206 hM, vd_I_toInt, show (0 : Int) < 3 by decide, if_true, vd_S67_212 hM, vd_S67_217 hM, a1, vd_S67_220 hM, vd_I_add, show (0 + 1 : Int) = 1 from rfl, vd_rs_v, vd_rs_n]
    simp (disch := omega) only [vd_S67_206 hM, vd_I_toInt, show (1 : Int) < 3 by decide, if_true, vd_S67_212 hM, vd_S67_217 hM, a3, vd_S67_220 hM, vd_I_add, show (1 + 1 : Int) = 2 from rfl, vd_rs_v, vd_rs_n]
    simp (disch := omega) only [vd_S67_206 hM, vd_I_toInt, show (2 : Int) < 3 by decide, if_true, vd_S67_212 hM, vd_S67_217 hM, a5, vd_S67_220 hM, vd_I_add, show (2 + 1 : Int) = 3 from rfl, vd_rs_v, vd_rs_n]
    simp (disch := omega) only [vd_S67_206 hM, vd_I_toInt, Int.lt_irrefl, if_false, vd_S67_226 hM]
  · rw [t1 q5 (d + 1) Q, u2 _ _ _ _ (d + 2) Q]
    simp (disch := omega) only [vd_S196_267 hN, vd_S196_270 hN, vd_I_toInt, show (0 : Int) < 3 by decide, if_true, vd_S196_276 hN, vd_S196_279 hN, a2, vd_S196_282 hN, vd_I_add, show (0 + 1 : Int) = 1 from rfl, vd_rs_v, vd_rs_n]
    simp (disch := omega) only [vd_S196_270 hN, vd_I_toInt, show (1 : Int) < 3 by decide, if_true, vd_S196_276 hN, vd_S196_279 hN, a4, vd_S196_282 hN, vd_I_add, show (1 + 1 : Int) = 2 from rfl, vd_rs_v, vd_rs_n]
    simp (disch := omega) only [vd_S196_270 hN, vd_I_toInt, show (2 : Int) < 3 by decide, if_true, vd_S196_276 hN, vd_S196_279 hN, a6, vd_S196_282 hN, vd_I_add, show (2 + 1 : Int) = 3 from rfl, vd_rs_v, vd_rs_n]
    simp (disch := omega) only [vd_S196_270 hN, vd_I_toInt, Int.lt_irrefl, if_false, vd_S196_288 hN]
  · rw [hO']
    exact fk1.keepS (m := n + 98 + 6144 * (w * h)) hM hp hq (qi6.2.2.1.mono (by omega)) (fun c i b1 b2 b3 b4 b5 => by rw [F63 c i (by omega) b2 b3 (by omega) (by omega) (by omega) (by omega) (by omega) (by omega) b5, F3 c i (by omega) (by omega) (by omega) b5 b3, c4 c i (by omega) (by omega)]) (fun c i b1 b2 b3 b4 b5 b6 => by rw [G63 c i (by omega) b2 b3 (by omega) (by omega) b5 b6, G3 c i (by omega) b6])
  · rw [hO']
    exact qi6.2.1
  · have h0 : ¬ (c = 0 ∧ vd_ar 0 x y w h a e) := fun ⟨q1, q2⟩ => hh ⟨by omega, by rw [q1]; exact q2⟩
    have h1 : ¬ (c = 1 ∧ vd_ar 1 x y w h a e) := fun ⟨q1, q2⟩ => hh ⟨by omega, by rw [q1]; exact q2⟩
    have h2 : ¬ (c = 2 ∧ vd_ar 2 x y w h a e) := fun ⟨q1, q2⟩ => hh ⟨by omega, by rw [q1]; exact q2⟩
    rw [k6 c a e h2, k5 c a e h1, k4 c a e h0, ke3 c a e hh]
end VDTK
