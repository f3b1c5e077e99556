/-! ===== one square: its numbers are read, its place is marked ===== -/
def vd_fS (s : Nat) (f f' : Nat → Nat → Int32) : Prop := ∀ c i, ¬ (c = 34 ∧ 3 ≤ i) → c ≠ 36 → c ≠ 43 → c ≠ 48 → c ≠ 49 → c ≠ 50 → c ≠ 52 → c ≠ 53 → ¬ (c = 45 ∧ (i = 3 ∨ (11 ≤ i ∧ i ≤ 16))) → c ≠ s → f' c i = f c i
def vd_gS (q : Nat) (g g' : Nat → Nat → Int32) : Prop := ∀ c i, ¬ (c = 63 ∧ (i = 46 ∨ i = 47 ∨ (91 ≤ i ∧ i ≤ 94) ∨ i = 123 ∨ (126 ≤ i ∧ i ≤ 128))) → c ≠ 81 → c ≠ 82 → ¬ (106 ≤ c ∧ c ≤ 108) → ¬ (110 ≤ c ∧ c ≤ 112) → ¬ (123 ≤ c ∧ c ≤ 127) → ¬ (q + 2 ≤ c ∧ c ≤ q + 4) → g' c i = g c i
theorem vd_fS.refl (s : Nat) (f : Nat → Nat → Int32) : vd_fS s f f := fun _ _ _ _ _ _ _ _ _ _ _ _ => rfl
theorem vd_gS.refl (q : Nat) (g : Nat → Nat → Int32) : vd_gS q g g := fun _ _ _ _ _ _ _ _ _ => rfl
theorem vd_fS.trans {s : Nat} {f f1 f2 : Nat → Nat → Int32} (h : vd_fS s f f1) (h2 : vd_fS s f1 f2) : vd_fS s f f2 := fun c i a1 a2 a3 a4 a5 a6 a7 a8 a9 a10 => by rw [h2 c i a1 a2 a3 a4 a5 a6 a7 a8 a9 a10, h c i a1 a2 a3 a4 a5 a6 a7 a8 a9 a10]
theorem vd_gS.trans {q : Nat} {g g1 g2 : Nat → Nat → Int32} (h : vd_gS q g g1) (h2 : vd_gS q g1 g2) : vd_gS q g g2 := fun c i a1 a2 a3 a4 a5 a6 a7 => by rw [h2 c i a1 a2 a3 a4 a5 a6 a7, h c i a1 a2 a3 a4 a5 a6 a7]
def vd_md (b : Nat → Int) (pl : Nat) : Int := if pl = 0 then b 7 else b 8
/-- what painting rests on -/
def vd_SB (fa nb q W H : Nat) (O : Nat → Nat → Option Nat) (B X : Nat → Nat → Int) (Z : Nat → Nat → Nat → Nat) (b : Nat → Int) (pw ph : Int) (f g : Nat → Nat → Int32) : Prop := ((f 44 8 = vd_I (18 * (nb : Int)) ∧ (∀ k, k < 18 → f fa (18 * nb + k) = vd_I (b k))) ∧ (f 45 10 = vd_I (X 0 13) ∧ (∀ j, j < 4 → f 51 j = vd_I (vd_qn X (b 4).toNat j))) ∧ vd_stC f ∧ vd_stW f ∧ (f 37 2 = vd_I (W : Int) ∧ f 37 3 = vd_I (H : Int))) ∧ vd_SCT Z f g ∧ (vd_CB X g ∧ vd_GB W H O B g ∧ vd_stR g) ∧ (g q 0 = vd_I pw ∧ g q 1 = vd_I ph) ∧ vd_nb b g
/-- and what its values are -/
def vd_SW (nb W H : Nat) (X : Nat → Nat → Int) (Z : Nat → Nat → Nat → Nat) (b : Nat → Int) (pw ph : Int) (o : Nat) : Prop := vd_XV X ∧ (1 ≤ W ∧ W ≤ 24 ∧ 1 ≤ H ∧ H ≤ 24 ∧ nb < 576) ∧ vd_SCV Z ∧ vd_BV b ∧ ((1 ≤ pw ∧ pw ≤ 192) ∧ (1 ≤ ph ∧ ph ≤ 192)) ∧ ((o = 1 ∧ b 7 = -1 ∧ b 8 = -1) ∨ (o = 0 ∧ 0 ≤ b 7 ∧ 0 ≤ b 8)) ∧ (b 5 = 0 ∨ b 5 = 1)
theorem vd_SW.md {nb W H : Nat} {X : Nat → Nat → Int} {Z : Nat → Nat → Nat → Nat} {b : Nat → Int} {pw ph : Int} {o : Nat} (h : vd_SW nb W H X Z b pw ph o) (pl : Nat) : (o = 1 ∧ vd_md b pl = -1) ∨ (o = 0 ∧ 0 ≤ vd_md b pl ∧ vd_md b pl ≤ 9) := by
  obtain ⟨_, _, _, hb, _, ho, _⟩ := h
  have h1 := hb.2.1
  unfold vd_md
  split <;> omega
section VDSQ
variable {M N : vd_M} {ow fa lo lf W H nb o : Nat} {O : Nat → Nat → Option Nat} {B X : Nat → Nat → Int} {Z : Nat → Nat → Nat → Nat} {b : Nat → Int} {pw ph : Int} {p s q pl sz x y n0 : Nat} {P K : Nat → Nat → Nat → Int} {f g : Nat → Nat → Int32}
theorem vd_SB.keep (hM : vd_SC M ow fa lo lf) (hp : vd_PC M p s) (hq : vd_PD N q) (k : vd_SB fa nb q W H O B X Z b pw ph f g) {f' g' : Nat → Nat → Int32} (hf : vd_fS s f f') (hg : vd_gS q g g') : vd_SB fa nb q W H O B X Z b pw ph f' g' := by
  have hpar := vd_par4 hM
  have hp' := hp.2.2
  have hq' := hq.2.2.2
  have F : ∀ c i, c ≠ 34 → c ≠ 36 → c ≠ 43 → ¬ (48 ≤ c ∧ c ≤ 50) → c ≠ 52 → c ≠ 53 → ¬ (c = 45 ∧ i ≠ 10) → c < 197 → f' c i = f c i := fun c i a1 a2 a3 a4 a5 a6 a7 a8 => hf c i (by omega) a2 a3 (by omega) (by omega) (by omega) a5 a6 (by omega) (by omega)
  have G : ∀ c i, ¬ (c = 63 ∧ (i = 46 ∨ i = 47 ∨ (91 ≤ i ∧ i ≤ 94) ∨ i = 123 ∨ (126 ≤ i ∧ i ≤ 128))) → c ≠ 81 → c ≠ 82 → ¬ (106 ≤ c ∧ c ≤ 112) → ¬ (123 ≤ c ∧ c ≤ 127) → ¬ (129 ≤ c ∧ c ≤ 183) → g' c i = g c i := fun c i a1 a2 a3 a4 a5 a6 => hg c i a1 a2 a3 (by omega) (by omega) a5 (by omega)
  obtain ⟨⟨⟨c1, c2⟩, ⟨c3, c4⟩, ⟨c5, c5'⟩, ⟨c6, c6'⟩, c7, c8⟩, sct, ⟨cb, gb, ⟨st, st'⟩⟩, ⟨d1, d2⟩, nb1⟩ := k
  refine ⟨⟨⟨?_, fun k hk => ?_⟩, ⟨?_, fun j hj => ?_⟩, ⟨fun j hj => ?_, fun j hj => ?_⟩, ⟨fun j hj => ?_, fun k p h1 h2 => ?_⟩, ?_, ?_⟩, fun o s i h1 h2 h3 h4 => ?_, ⟨cb.keep fun c i a => by unfold vd_inB at a; exact G c i (by omega) (by omega) (by omega) (by omega) (by omega) (by omega), gb.keep fun c i a => G c i (by omega) (by omega) (by omega) (by omega) (by omega) (by omega), ⟨fun j hj => ?_, fun j hj => ?_⟩⟩, ⟨?_, ?_⟩, ?_⟩
  · rw [F _ _ (by omega) (by omega) (by omega) (by omega) (by omega) (by omega) (by omega) (by omega)]; exact c1
  · rw [F _ _ (by omega) (by omega) (by omega) (by omega) (by omega) (by omega) (by omega) (by omega)]; exact c2 k hk
  · rw [F _ _ (by omega) (by omega) (by omega) (by omega) (by omega) (by omega) (by omega) (by omega)]; exact c3
  · rw [F _ _ (by omega) (by omega) (by omega) (by omega) (by omega) (by omega) (by omega) (by omega)]; exact c4 j hj
  · rw [F _ _ (by omega) (by omega) (by omega) (by omega) (by omega) (by omega) (by omega) (by omega)]; exact c5 j hj
  · rw [F _ _ (by omega) (by omega) (by omega) (by omega) (by omega) (by omega) (by omega) (by omega)]; exact c5' j hj
  · rw [F _ _ (by omega) (by omega) (by omega) (by omega) (by omega) (by omega) (by omega) (by omega)]; exact c6 j hj
  · rw [F _ _ (by omega) (by omega) (by omega) (by omega) (by omega) (by omega) (by omega) (by omega)]; exact c6' k p h1 h2
  · rw [F _ _ (by omega) (by omega) (by omega) (by omega) (by omega) (by omega) (by omega) (by omega)]; exact c7
  · rw [F _ _ (by omega) (by omega) (by omega) (by omega) (by omega) (by omega) (by omega) (by omega)]; exact c8
  · rw [F _ _ (by omega) (by omega) (by omega) (by omega) (by omega) (by omega) (by omega) (by omega), G _ _ (by omega) (by omega) (by omega) (by omega) (by omega) (by omega)]
    exact sct o s i h1 h2 h3 h4
  · rw [G _ _ (by omega) (by omega) (by omega) (by omega) (by omega) (by omega)]; exact st j hj
  · rw [G _ _ (by omega) (by omega) (by omega) (by omega) (by omega) (by omega)]; exact st' j hj
  · rw [hg _ _ (by omega) (by omega) (by omega) (by omega) (by omega) (by omega) (by omega)]; exact d1
  · rw [hg _ _ (by omega) (by omega) (by omega) (by omega) (by omega) (by omega) (by omega)]; exact d2
  · obtain ⟨⟨a1, a2, a3, a4, a5, a6⟩, ⟨b1, b2, b3, b4⟩, ⟨e1, e2, e3⟩, ⟨h1, h2, h3, h4⟩, i1, i2⟩ := nb1
    refine ⟨⟨?_, ?_, ?_, ?_, ?_, ?_⟩, ⟨?_, ?_, ?_, ?_⟩, ⟨?_, ?_, ?_⟩, ⟨?_, ?_, ?_, ?_⟩, ?_, ?_⟩ <;> rw [G _ _ (by omega) (by omega) (by omega) (by omega) (by omega) (by omega)] <;> assumption
/-- the numbers are read, or there are none -/
def vd_QaPost (M N : vd_M) (s q pl sz o x y n0 : Nat) (md : Int) (f g : Nat → Nat → Int32) : Prop := ∃ (f' g' : Nat → Nat → Int32) (r : Int) (C : Nat → Int) (lr lc : Int), (∀ x3 x6 x7 a11 d Q, vd_wp (d + 4) 112 134 [.ref 44, .int (vd_I (pl : Int)), .int (vd_I (o : Int)), .int x3, .int (vd_I (sz : Int)), .int (vd_I ((vd_sn sz : Nat) : Int)), .int x6, .int x7, .int (vd_I md), .int (vd_I (y : Int)), .int (vd_I (x : Int)), a11] [] (vd_mf M f) Q = vd_wp (d + 4) 112 173 [.ref 44, .int (vd_I (pl : Int)), .int (vd_I (o : Int)), .int x3, .int (vd_I (sz : Int)), .int (vd_I ((vd_sn sz : Nat) : Int)), .int x6, .int x7, .int (vd_I md), .int (vd_I (y : Int)), .int (vd_I (x : Int)), a11] [.int (vd_I r)] (vd_mf M f') Q) ∧ (∀ x2 x3 x4 x5 x6 a11 a12 a13 d Q, vd_wp (d + 6) 235 183 [.ref 63, .int (vd_I (pl : Int)), .int x2, .int x3, .int x4, .int x5, .int x6, .int (vd_I (sz : Int)), .int (vd_I ((vd_sn sz : Nat) : Int)), .int (vd_I (y : Int)), .int (vd_I (x : Int)), a11, a12, a13] [] (vd_mf N g) Q = vd_wp (d + 6) 235 209 [.ref 63, .int (vd_I (pl : Int)), .int x2, .int x3, .int x4, .int x5, .int x6, .int (vd_I (sz : Int)), .int (vd_I ((vd_sn sz : Nat) : Int)), .int (vd_I (y : Int)), .int (vd_I (x : Int)), a11, a12, a13] [.int (vd_I r)] (vd_mf N g') Q) ∧ (r = 0 ∨ r = 1) ∧ (g 63 110 = vd_I 1 → r = 0) ∧ vd_RD (n0 + 32 * (vd_sn sz * vd_sn sz)) f' g' ∧ (r = 1 → (∀ p, p < vd_sn sz * vd_sn sz → f' 49 p = vd_I (C p) ∧ g' 123 p = vd_I (C p)) ∧ (f' 45 15 = vd_I lr ∧ f' 45 16 = vd_I lc) ∧ vd_NL (vd_sn sz) C lr lc) ∧ f' 45 3 = g' 63 47 ∧ (f' 45 11 = vd_I (pl : Int) ∧ f' 45 12 = vd_I (x : Int) ∧ f' 45 13 = vd_I (y : Int) ∧ f' 45 14 = vd_I (sz : Int)) ∧ (∀ i, f' 43 i = f 43 i) ∧ (∀ c i, 106 ≤ c → c ≤ 112 → g' c i = g c i) ∧ (∀ i, f' s i = f s i) ∧ (∀ c i, q + 2 ≤ c → c ≤ q + 4 → g' c i = g c i) ∧ vd_fS s f f' ∧ vd_gS q g g'
theorem vd_sqA (hM : vd_SC M ow fa lo lf) (hN : vd_SR N) (hp : vd_PC M p s) (hq : vd_PD N q) (sb : vd_SB fa nb q W H O B X Z b pw ph f g) (sw : vd_SW nb W H X Z b pw ph o) (kc : vd_KC K f) (kh : vd_KH K g) (kv : vd_PKV W H pw ph O P K) (rd : vd_RD n0 f g) (cnt : f 45 3 = g 63 47) (hpl : pl < 3) (hs : sz < 4) (hn : n0 + 32 * (vd_sn sz * vd_sn sz) ≤ 8000000) (hx : x < vd_us pl * W) (hy : y < vd_us pl * H) : vd_QaPost M N s q pl sz o x y n0 (vd_md b pl) f g := by
  have hpar := vd_par4 hM
  have hp' := hp.2.2
  have hq' := hq.2.2.2
  obtain ⟨hX, hW, hZ, hb, hpw, ho, h5⟩ := id sw
  have hmd := sw.md pl
  obtain ⟨⟨⟨c1, c2⟩, ⟨c3, c4⟩, c5, c6, c7, c8⟩, sct, ⟨cb, gb, st⟩, ⟨d1, d2⟩, nb1⟩ := id sb
  obtain ⟨⟨a1, a2, a3, a4, g103, g110⟩, ⟨g105, g106, g107, g111⟩, _⟩ := id nb1
  obtain ⟨f1, hf1⟩ : ∃ f1, f1 = vd_up (vd_up (vd_up (vd_up f 45 11 (vd_I (pl : Int))) 45 12 (vd_I (x : Int))) 45 13 (vd_I (y : Int))) 45 14 (vd_I (sz : Int)) := ⟨_, rfl⟩
  have k1 : ∀ c i, ¬ (c = 45 ∧ 11 ≤ i ∧ i ≤ 14) → f1 c i = f c i := fun c i h => by rw [hf1, vd_up_ne (by omega), vd_up_ne (by omega), vd_up_ne (by omega), vd_up_ne (by omega)]
  have q11 : f1 45 11 = vd_I (pl : Int) := by rw [hf1, vd_up_ne (by omega), vd_up_ne (by omega), vd_up_ne (by omega), vd_up_eq]
  have q12 : f1 45 12 = vd_I (x : Int) := by rw [hf1, vd_up_ne (by omega), vd_up_ne (by omega), vd_up_eq]
  have q13 : f1 45 13 = vd_I (y : Int) := by rw [hf1, vd_up_ne (by omega), vd_up_eq]
  have q14 : f1 45 14 = vd_I (sz : Int) := by rw [hf1, vd_up_eq]
  have F1 : vd_fS s f f1 := fun c i _ _ _ _ _ _ _ _ a _ => k1 c i (by omega)
  have here : f1 44 8 = vd_I (18 * (nb : Int)) := by rw [k1 _ _ (by omega)]; exact c1
  have P83 := fun (d : Nat) (Q : vd_M → (Option Value ⊕ Nat) → Prop) => vd_P83 (f := f1) (d := d) (Q := Q) (k := nb) (q := 5) hM here hW.2.2.2.2 (by decide)
  have e5 : ((5 : Nat) : Int) = 5 := rfl
  have v5 : f1 fa (18 * nb + 5) = vd_I (b 5) := by rw [k1 _ _ (by omega)]; exact c2 5 (by decide)
  rw [e5, v5] at P83
  have rd1 : vd_RD n0 f1 g := rd.keep (fun c i a => k1 c i (by omega)) (fun _ _ _ => rfl)
  rcases h5 with c | c
  · obtain ⟨sg, hsg⟩ := Int.eq_ofNat_of_zero_le hb.2.1.1
    have hsg' : (b 4).toNat = sg := by rw [hsg]; rfl
    have sb1 := sb.keep hM hp hq F1 (vd_gS.refl q g)
    obtain ⟨⟨_, ⟨_, c4'⟩, c5', _⟩, sct', _⟩ := id sb1
    have oI : (if b 7 < 0 then (1 : Int) else 0) = (o : Int) := by
      rcases ho with ⟨e, e7, _⟩ | ⟨e, e7, _⟩
      · rw [if_pos (by omega), e]; rfl
      · rw [if_neg (by omega), e]; rfl
    have hy1 : vd_NY W H O B K X pl sz sg o x y Z f1 g := ⟨⟨⟨q11, q12, q13, q14⟩, c5', by rw [← hsg']; exact c4', kc.keep fun i => k1 _ _ (by omega)⟩, sct', cb, by rw [g103, hsg], by rw [g111, oI], kh, gb⟩
    have hz : vd_NZ W H O K X pl sz sg o x y Z := ⟨hX, ⟨hW.2.1, hW.2.2.2.1⟩, ⟨hpl, hs, by have := hb.2.1.2.1; omega, by omega⟩, hZ, ⟨hx, hy⟩, kv.2.1, fun a b => kv.2.2.2 pl a b hpl⟩
    obtain ⟨f2, g2, r, C, lr, lc, t1, t2, t3, t4, t5, t6, t7, t8⟩ := vd_readSq hM hN hy1 hz rd1 hn hmd (fun e => by unfold vd_md; rw [if_pos e]; exact g106) (by rw [k1 _ _ (by omega)]; exact cnt)
    have g110' : g 63 110 = vd_I 0 := by rw [g110, c]
    have F2 : vd_fS s f1 f2 := fun c i a1 a2 _ a4 a5 _ _ _ a9 _ => t7 c i a1 a2 a4 a5 (by omega)
    have G2 : vd_gS q g g2 := fun c i a1 a2 a3 a4 a5 a6 a7 => t8 c i (by omega) a2 a3 (by omega) (by omega)
    refine ⟨f2, g2, r, C, lr, lc, fun x3 x6 x7 a11 d Q => ?_, fun x2 x3 x4 x5 x6 a11 a12 a13 d Q => ?_, t3, fun h => absurd (g110'.symm.trans h) (by decide), t4, t5, t6, ⟨?_, ?_, ?_, ?_⟩, fun i => ?_, fun c i h1 h2 => ?_, fun i => ?_, fun c i h1 h2 => ?_, F1.trans F2, G2⟩
    · rcases t3 with rfl | rfl
      · simp (disch := omega) only [vd_S112_134 hM, vd_S112_145 hM, vd_S114_0 hM, vd_S112_148 hM, vd_S112_150 hM, ← hf1, P83, c, vd_S112_153 hM, vd_I_toInt, eq_self, if_true, vd_S112_156 hM, vd_S112_162 hM, t1, vd_S112_165 hM, vd_S112_172 hM, vd_rs_v, vd_rs_n]
      · simp (disch := omega) only [vd_S112_134 hM, vd_S112_145 hM, vd_S114_0 hM, vd_S112_148 hM, vd_S112_150 hM, ← hf1, P83, c, vd_S112_153 hM, vd_I_toInt, eq_self, if_true, vd_S112_156 hM, vd_S112_162 hM, t1, vd_S112_165 hM, vd_S112_168 hM, show ¬ ((1 : Int) = 0) by decide, if_false, vd_rs_v, vd_rs_n]
    · rcases t3 with rfl | rfl
      · simp (disch := omega) only [vd_S235_183 hN, g110', vd_I_toInt, eq_self, if_true, vd_S235_190 hN, vd_S235_198 hN, t2, vd_S235_201 hN, vd_S235_208 hN, vd_rs_v, vd_rs_n]
      · simp (disch := omega) only [vd_S235_183 hN, g110', vd_I_toInt, eq_self, if_true, vd_S235_190 hN, vd_S235_198 hN, t2, vd_S235_201 hN, vd_S235_204 hN, show ¬ ((1 : Int) = 0) by decide, if_false, vd_rs_v, vd_rs_n]
    · rw [t7 _ _ (by omega) (by omega) (by omega) (by omega) (by omega)]; exact q11
    · rw [t7 _ _ (by omega) (by omega) (by omega) (by omega) (by omega)]; exact q12
    · rw [t7 _ _ (by omega) (by omega) (by omega) (by omega) (by omega)]; exact q13
    · rw [t7 _ _ (by omega) (by omega) (by omega) (by omega) (by omega)]; exact q14
    · rw [t7 _ _ (by omega) (by omega) (by omega) (by omega) (by omega)]; exact k1 _ _ (by omega)
    · exact t8 _ _ (by omega) (by omega) (by omega) (by omega) (by omega)
    · rw [t7 _ _ (by omega) (by omega) (by omega) (by omega) (by omega)]; exact k1 _ _ (by omega)
    · exact t8 _ _ (by omega) (by omega) (by omega) (by omega) (by omega)
  · have g110' : g 63 110 = vd_I 1 := by rw [g110, c]
    refine ⟨f1, g, 0, fun _ => 0, 0, 0, fun x3 x6 x7 a11 d Q => ?_, fun x2 x3 x4 x5 x6 a11 a12 a13 d Q => ?_, Or.inl rfl, fun _ => rfl, rd1.mono (by omega), fun h => absurd h (by decide), by rw [k1 _ _ (by omega)]; exact cnt, ⟨q11, q12, q13, q14⟩, fun i => k1 _ _ (by omega), fun _ _ _ _ => rfl, fun i => k1 _ _ (by omega), fun _ _ _ _ => rfl, F1, vd_gS.refl q g⟩
    · simp (disch := omega) only [vd_S112_134 hM, vd_S112_145 hM, vd_S114_0 hM, vd_S112_148 hM, vd_S112_150 hM, ← hf1, P83, c, vd_S112_153 hM, vd_I_toInt, show ¬ ((1 : Int) = 0) by decide, if_false, vd_S112_172 hM, vd_rs_v, vd_rs_n]
    · simp (disch := omega) only [vd_S235_183 hN, g110', vd_I_toInt, show ¬ ((1 : Int) = 0) by decide, if_false, vd_S235_208 hN, vd_rs_v, vd_rs_n]
end VDSQ
