/-! ===== a plane of a block is painted ===== -/
def vd_szP (b : Nat → Int) (w h pl : Nat) : Int := if pl = 0 then b 6 else min (b 6) (vd_rk (min (w : Int) (h : Int)))
theorem vd_szT {w h sz us : Nat} {e : Int} (hw : w = 1 ∨ w = 2 ∨ w = 4 ∨ w = 8) (hh : h = 1 ∨ h = 2 ∨ h = 4 ∨ h = 8) (hs : sz < 4) (hu : (us = 8 ∧ e = 1) ∨ (us = 4 ∧ e = 0)) (hz : (sz : Int) ≤ e + vd_rk (min (w : Int) (h : Int))) : us * w / vd_sn sz * vd_sn sz = us * w ∧ us * h / vd_sn sz * vd_sn sz = us * h := by
  have h4 : sz = 0 ∨ sz = 1 ∨ sz = 2 ∨ sz = 3 := by omega
  rcases hu with ⟨rfl, rfl⟩ | ⟨rfl, rfl⟩ <;> rcases hw with rfl | rfl | rfl | rfl <;> rcases hh with rfl | rfl | rfl | rfl <;> rcases h4 with rfl | rfl | rfl | rfl <;> first | (exfalso; revert hz; decide) | decide
theorem vd_szV {b : Nat → Int} {w h pl : Nat} {tm : Int} (hb : vd_BV b) (h6 : b 6 ≤ vd_mx w h tm) : ∃ sz : Nat, vd_szP b w h pl = (sz : Int) ∧ sz < 4 ∧ (sz : Int) ≤ (if pl = 0 then 1 else 0) + vd_rk (min (w : Int) (h : Int)) ∧ (tm = 0 → sz = 0) := by
  have b6 := hb.2.1
  have r := vd_rk_b (min (w : Int) (h : Int))
  unfold vd_mx at h6
  refine ⟨(vd_szP b w h pl).toNat, ?_, ?_, ?_, ?_⟩ <;> unfold vd_szP <;> split <;> omega
section VDPT
variable {M N : vd_M} {ow fa lo lf W H nb o : Nat} {O : Nat → Nat → Option Nat} {B X : Nat → Nat → Int} {Z : Nat → Nat → Nat → Nat} {b : Nat → Int} {pw ph : Int} {p s q pl : Nat} {x y w h n0 : Nat} {P K : Nat → Nat → Nat → Int} {f g : Nat → Nat → Int32}
theorem vd_P113 (hM : vd_SC M ow fa lo lf) (hnb : nb < 576) (hb : vd_BV b) (hf : ∀ k, k < 18 → f fa (18 * nb + k) = vd_I (b k)) (b2 : b 2 = (w : Int)) (b3 : b 3 = (h : Int)) (hpl : pl < 3) (d : Nat) (Q : vd_M → (Option Value ⊕ Nat) → Prop) : vd_wp (d + 1) 113 0 [.ref 37, .int (vd_I (pl : Int)), .int (vd_I (18 * (nb : Int))), vd_U] [] (vd_mf M f) Q = Q (vd_mf M f) (.inl (some (.int (vd_I (vd_szP b w h pl))))) := by
  have i2 : (18 * (nb : Int) + 2).toNat = 18 * nb + 2 := by omega
  have i3 : (18 * (nb : Int) + 3).toNat = 18 * nb + 3 := by omega
  have i6 : (18 * (nb : Int) + 6).toNat = 18 * nb + 6 := by omega
  have v2 : f fa (18 * nb + 2) = vd_I (w : Int) := by rw [hf 2 (by decide), b2]
  have v3 : f fa (18 * nb + 3) = vd_I (h : Int) := by rw [hf 3 (by decide), b3]
  have v6 := hf 6 (by decide)
  have bb := hb.1
  have b6 := hb.2.1
  have r := vd_rk_b (min (w : Int) (h : Int))
  have P289 := fun (a c : Int) (h1 : -1000 ≤ a ∧ a ≤ 1000) (h2 : -1000 ≤ c ∧ c ≤ 1000) (d : Nat) (Q : vd_M → (Option Value ⊕ Nat) → Prop) => vd_P289 (M := M) (f := f) (d := d) (Q := Q) (a := a) (b := c) (by omega) (by omega) (by omega) (by omega)
  have P84 := fun (d : Nat) (Q : vd_M → (Option Value ⊕ Nat) → Prop) => vd_P84 (f := f) (d := d) (Q := Q) (a := min (w : Int) (h : Int)) hM (by omega) (by omega)
  by_cases c : pl = 0
  · have c' : ((pl : Nat) : Int) = 0 := by omega
    have e : vd_szP b w h pl = b 6 := if_pos c
    rw [e]
    simp (disch := omega) only [vd_S113_0 hM, vd_I_add, vd_S113_7 hM, vd_S113_15 hM, i2, i3, v2, v3, vd_S113_16 hM, P289, vd_S113_19 hM, vd_I_toInt, c', eq_self, if_true, vd_S113_24 hM, vd_S113_32 hM, i6, v6, vd_S113_52 hM, vd_rs_v, vd_rs_n]
  · have c' : ¬ (((pl : Nat) : Int) = 0) := by omega
    have e : vd_szP b w h pl = min (b 6) (vd_rk (min (w : Int) (h : Int))) := if_neg c
    rw [e]
    simp (disch := omega) only [vd_S113_0 hM, vd_I_add, vd_S113_7 hM, vd_S113_15 hM, i2, i3, v2, v3, vd_S113_16 hM, P289, vd_S113_19 hM, vd_I_toInt, c', if_false, vd_S113_36 hM, vd_S113_44 hM, i6, v6, vd_S113_46 hM, P84, vd_S113_49 hM, vd_S113_52 hM, vd_rs_v, vd_rs_n]
theorem vd_P236 (hN : vd_SR N) (hb : vd_BV b) (hw : w = 1 ∨ w = 2 ∨ w = 4 ∨ w = 8) (hh : h = 1 ∨ h = 2 ∨ h = 4 ∨ h = 8) (hpl : pl < 3) (d : Nat) (Q : vd_M → (Option Value ⊕ Nat) → Prop) : vd_wp (d + 1) 236 0 [.ref 63, .int (vd_I (pl : Int)), .int (vd_I (b 6)), .int (vd_I (8 * min (w : Int) (h : Int))), vd_U] [] (vd_mf N g) Q = Q (vd_mf N g) (.inl (some (.int (vd_I (vd_szP b w h pl))))) := by
  have b6 := hb.2.1
  have P289 := fun (a c : Int) (h1 : -1000 ≤ a ∧ a ≤ 1000) (h2 : -1000 ≤ c ∧ c ≤ 1000) (d : Nat) (Q : vd_M → (Option Value ⊕ Nat) → Prop) => vd_P289 (M := N) (f := g) (d := d) (Q := Q) (a := a) (b := c) (by omega) (by omega) (by omega) (by omega)
  by_cases c : pl = 0
  · have c' : ((pl : Nat) : Int) = 0 := by omega
    have e : vd_szP b w h pl = b 6 := if_pos c
    rw [e]
    simp (disch := omega) only [vd_S236_0 hN, vd_I_toInt, c', eq_self, if_true, vd_S236_4 hN]
  · have c' : ¬ (((pl : Nat) : Int) = 0) := by omega
    have e : vd_szP b w h pl = min (b 6) (vd_rk (min (w : Int) (h : Int))) := if_neg c
    rw [e]
    have m : min (w : Int) (h : Int) = 1 ∨ min (w : Int) (h : Int) = 2 ∨ min (w : Int) (h : Int) = 4 ∨ min (w : Int) (h : Int) = 8 := by omega
    rcases m with e1 | e1 | e1 | e1 <;> rw [e1]
    · have r : vd_rk 1 = 0 := by decide
      rw [r]
      simp (disch := omega) only [vd_S236_0 hN, vd_I_toInt, c', if_false, vd_S236_6 hN, vd_I_div, show (8 * 1 / 2 : Int) = 4 by decide, eq_self, if_true, vd_S236_18 hN, vd_S236_45 hN, P289, vd_S236_48 hN, vd_rs_v, vd_rs_n]
    · have r : vd_rk 2 = 1 := by decide
      rw [r]
      simp (disch := omega) only [vd_S236_0 hN, vd_I_toInt, c', if_false, vd_S236_6 hN, vd_I_div, show (8 * 2 / 2 : Int) = 8 by decide, show ¬ ((8 : Int) = 4) by decide, vd_S236_22 hN, eq_self, if_true, vd_S236_29 hN, vd_S236_45 hN, P289, vd_S236_48 hN, vd_rs_v, vd_rs_n]
    · have r : vd_rk 4 = 2 := by decide
      rw [r]
      simp (disch := omega) only [vd_S236_0 hN, vd_I_toInt, c', if_false, vd_S236_6 hN, vd_I_div, show (8 * 4 / 2 : Int) = 16 by decide, show ¬ ((16 : Int) = 4) by decide, show ¬ ((16 : Int) = 8) by decide, vd_S236_22 hN, vd_S236_33 hN, eq_self, if_true, vd_S236_40 hN, vd_S236_45 hN, P289, vd_S236_48 hN, vd_rs_v, vd_rs_n]
    · have r : vd_rk 8 = 3 := by decide
      rw [r]
      simp (disch := omega) only [vd_S236_0 hN, vd_I_toInt, c', if_false, vd_S236_6 hN, vd_I_div, show (8 * 8 / 2 : Int) = 32 by decide, show ¬ ((32 : Int) = 4) by decide, show ¬ ((32 : Int) = 8) by decide, show ¬ ((32 : Int) = 16) by decide, vd_S236_22 hN, vd_S236_33 hN, vd_S236_44 hN, vd_S236_45 hN, P289, vd_S236_48 hN, vd_rs_v, vd_rs_n]
/-- where the block stands -/
def vd_PB (W H : Nat) (X : Nat → Nat → Int) (b : Nat → Int) (pw ph : Int) (x y w h : Nat) (O : Nat → Nat → Option Nat) : Prop := vd_bb b x y w h ∧ ((w = 1 ∨ w = 2 ∨ w = 4 ∨ w = 8) ∧ (h = 1 ∨ h = 2 ∨ h = 4 ∨ h = 8)) ∧ (8 * x + 8 * w ≤ vd_ws 0 pw ∧ 8 * y + 8 * h ≤ vd_ws 0 ph) ∧ b 6 ≤ vd_mx w h (X 0 1) ∧ (∀ i j, x ≤ i → i < x + w → y ≤ j → j < y + h → i < W → j < H → O i j ≠ none)
def vd_PlPost (M N : vd_M) (W H : Nat) (O : Nat → Nat → Option Nat) (s q pl o x y w h n0 : Nat) (pw ph : Int) (K : Nat → Nat → Nat → Int) (f g : Nat → Nat → Int32) : Prop := ∃ (f' g' : Nat → Nat → Int32) (P' K' : Nat → Nat → Nat → Int), (∀ d Q, vd_wp (d + 4) 112 0 [.ref 44, .int (vd_I (pl : Int)), .int (vd_I (o : Int)), vd_U, vd_U, vd_U, vd_U, vd_U, vd_U, vd_U, vd_U, vd_U] [] (vd_mf M f) Q = Q (vd_mf M f') (.inl none)) ∧ (∀ d Q, vd_wp (d + 6) 235 0 [.ref 63, .int (vd_I (pl : Int)), vd_U, vd_U, vd_U, vd_U, vd_U, vd_U, vd_U, vd_U, vd_U, vd_U, vd_U, vd_U] [] (vd_mf N g) Q = Q (vd_mf N g') (.inl none)) ∧ vd_QI s q W H pw ph O (n0 + 2048 * (w * h)) P' K' f' g' ∧ (∀ c a e, ¬ (c = pl ∧ vd_ar pl x y w h a e) → K' c a e = K c a e) ∧ vd_fS s f f' ∧ vd_gS q g g'
theorem vd_plane (hC : vd_QC M N ow fa lo lf nb W H o p s q X Z b pw ph) (sb : vd_SB fa nb q W H O B X Z b pw ph f g) (qi : vd_QI s q W H pw ph O n0 P K f g) (pb : vd_PB W H X b pw ph x y w h O) (g95 : g 63 95 = vd_I (8 * (x : Int))) (g96 : g 63 96 = vd_I (8 * (y : Int))) (hpl : pl < 3) (hn : n0 + 2048 * (w * h) ≤ 8000000) (hK : ∀ a e, vd_ar pl x y w h a e → K pl a e ≠ 2 ∧ (o = 1 → K pl a e ≠ 0)) : vd_PlPost M N W H O s q pl o x y w h n0 pw ph K f g := by
  obtain ⟨⟨hM, hN⟩, ⟨hp, h44⟩, ⟨hq, hnow⟩, sw⟩ := id hC
  obtain ⟨bb, ⟨hw8, hh8⟩, ⟨hxw, hyw⟩, h6, hO⟩ := id pb
  obtain ⟨⟨b0, b1, b2, b3⟩, ⟨x24, y24, w8, h8⟩, b5, _⟩ := id bb
  have hW := sw.2.1
  have hb := sw.2.2.2.1
  have p0 := sw.2.2.2.2.1.1
  have q0 := sw.2.2.2.2.1.2
  have wx := vd_ws_us (pl := pl) p0 hxw
  have wy := vd_ws_us (pl := pl) q0 hyw
  have wsb := (vd_ws_b (pl := pl) p0.1 p0.2).1
  have hsb := (vd_ws_b (pl := pl) q0.1 q0.2).1
  have X13 : X 0 13 = 1 → X 0 1 = 0 := sw.1.2.2.2.2.2.2.2.2.2.2.2
  obtain ⟨sz, ez, hs, hz, hz0⟩ := vd_szV (pl := pl) hb h6
  have nb1 := vd_nnb hs
  have usv : (vd_us pl = 8 ∧ (if pl = 0 then (1 : Int) else 0) = 1) ∨ (vd_us pl = 4 ∧ (if pl = 0 then (1 : Int) else 0) = 0) := by
    unfold vd_us
    by_cases c : pl = 0
    · rw [if_pos c, if_pos c]; exact Or.inl ⟨rfl, rfl⟩
    · rw [if_neg c, if_neg c]; exact Or.inr ⟨rfl, rfl⟩
  obtain ⟨T1, U1⟩ := vd_szT hw8 hh8 hs usv hz
  generalize hT : vd_us pl * w / vd_sn sz = T at T1
  generalize hU : vd_us pl * h / vd_sn sz = U at U1
  have cuv := vd_cu_v pl
  have us8 : vd_us pl ≤ 8 := by omega
  -- the count of bits
  have bits : 32 * (vd_sn sz * vd_sn sz) * T * U ≤ 2048 * (w * h) := by
    have e : 32 * (vd_sn sz * vd_sn sz) * T * U = 32 * (vd_us pl * w * (vd_us pl * h)) := by
      rw [← T1, ← U1]
      simp only [Nat.mul_assoc, Nat.mul_left_comm, Nat.mul_comm]
    have e2 : vd_us pl * w * (vd_us pl * h) = vd_us pl * vd_us pl * (w * h) := by simp only [Nat.mul_assoc, Nat.mul_left_comm, Nat.mul_comm]
    have e3 : vd_us pl * vd_us pl * (w * h) ≤ 64 * (w * h) := Nat.mul_le_mul_right _ (Nat.mul_le_mul us8 us8)
    rw [e, e2]
    omega
  have x4 : vd_us pl * x = 4 * (vd_cu pl * x) ∧ vd_us pl * y = 4 * (vd_cu pl * y) ∧ vd_us pl * w = 4 * (vd_cu pl * w) ∧ vd_us pl * h = 4 * (vd_cu pl * h) := by
    rcases cuv with ⟨e1, e2, _⟩ | ⟨e1, e2, _⟩ <;> rw [e1, e2] <;> omega
  have cdx : ∀ a k v : Nat, vd_cu pl * k ≤ a → a < vd_cu pl * k + vd_cu pl * v → k ≤ a / vd_cu pl ∧ a / vd_cu pl < k + v := by
    intro a k v h1 h2
    rcases cuv with ⟨e1, e2, _⟩ | ⟨e1, e2, _⟩ <;> rw [e2] at h1 h2 ⊢ <;> omega
  have gG := sb.2.2.1.2.1.1
  obtain ⟨⟨a1, a2, g97, g98, g103, g110⟩, ⟨g105, g106, g107, g111⟩, _⟩ := id sb.2.2.2.2
  rw [b2] at g97
  rw [b3] at g98
  obtain ⟨⟨here, hf⟩, _, _, _, f2, f3⟩ := id sb.1
  have usI : (if pl = 0 then (8 : Int) else 4) = ((vd_us pl : Nat) : Int) := by
    unfold vd_us
    by_cases c : pl = 0
    · rw [if_pos c, if_pos c]; rfl
    · rw [if_neg c, if_neg c]; rfl
  have P223 := fun (d : Nat) (Q : vd_M → (Option Value ⊕ Nat) → Prop) => vd_P223 (g := g) (d := d) (Q := Q) hN hpl
  rw [usI] at P223
  have P236 := vd_P236 (g := g) hN hb hw8 hh8 hpl
  rw [ez] at P236
  have P289 := fun (M : vd_M) (f : Nat → Nat → Int32) (a c : Int) (h1 : -1000 ≤ a ∧ a ≤ 1000) (h2 : -1000 ≤ c ∧ c ≤ 1000) (d : Nat) (Q : vd_M → (Option Value ⊕ Nat) → Prop) => vd_P289 (M := M) (f := f) (d := d) (Q := Q) (a := a) (b := c) (by omega) (by omega) (by omega) (by omega)
  have sh := vd_sh4 hs
  have em : min (8 * (w : Int)) (8 * (h : Int)) = 8 * min (w : Int) (h : Int) := by omega
  have mu : ∀ k : Nat, (k : Int) * ((vd_us pl : Nat) : Int) = ((vd_us pl * k : Nat) : Int) := fun k => by rw [Int.natCast_mul, Int.mul_comm]
  have d8 : ∀ k : Nat, 8 * (k : Int) / 8 = (k : Int) := fun k => by omega
  have b6b := hb.2.1
  obtain ⟨c10, hc10⟩ : ∃ c10 : Value, ∀ d Q, vd_wp (d + 6) 235 0 [.ref 63, .int (vd_I (pl : Int)), vd_U, vd_U, vd_U, vd_U, vd_U, vd_U, vd_U, vd_U, vd_U, vd_U, vd_U, vd_U] [] (vd_mf N g) Q = vd_wp (d + 6) 235 136 [.ref 63, .int (vd_I (pl : Int)), .int (vd_I ((vd_us pl : Nat) : Int)), .int (vd_I ((vd_us pl * x : Nat) : Int)), .int (vd_I ((vd_us pl * y : Nat) : Int)), .int (vd_I ((vd_us pl * w : Nat) : Int)), .int (vd_I ((vd_us pl * h : Nat) : Int)), .int (vd_I (sz : Int)), .int (vd_I ((vd_sn sz : Nat) : Int)), .int (vd_I ((vd_us pl * y : Nat) : Int)), c10, vd_U, vd_U, vd_U] [] (vd_mf N g) Q := by
    rcases b5 with c | c
    · refine ⟨vd_U, fun d Q => ?_⟩
      rw [c] at g110
      simp (disch := omega) only [vd_S235_0 hN, vd_S235_2 hN, P223, vd_S235_5 hN, g95, g96, g97, g98, g105, vd_I_div, d8, vd_I_mul, mu, vd_S235_63 hN, P289, em, vd_S235_66 hN, P236, vd_S235_69 hN, g110, vd_I_toInt, eq_self, if_true, sh, vd_S235_132 hN, vd_rs_v, vd_rs_n]
    · refine ⟨.int (vd_I ((vd_us pl * x + vd_us pl * w : Nat) : Int)), fun d Q => ?_⟩
      rw [c] at g110
      have fo : vd_sd pl = 4 * vd_fo pl := by unfold vd_sd vd_fo; split <;> rfl
      have lb := vd_L235b (x := vd_us pl * x) (y := vd_us pl * y) (w := vd_us pl * w) (h := vd_us pl * h) hN hpl qi.1.2.2.1 (by omega) (by omega) (by omega) (by omega) (by omega) (by omega) (fun a e h1 h2 => (hK _ _ ⟨by omega, by omega, by omega, by omega⟩).1) (vd_I ((vd_us pl : Nat) : Int)) (vd_I (sz : Int)) (vd_I ((vd_sn sz : Nat) : Int)) vd_U vd_U vd_U (d + 4) Q (vd_us pl * h / 4) 0 vd_U (by omega) (fun e => by
        exfalso
        have : vd_us pl * h = 4 * (vd_cu pl * h) := x4.2.2.2
        rcases cuv with ⟨e1, e2, _⟩ | ⟨e1, e2, _⟩ <;> rw [e1] at e <;> omega)
      rw [show vd_us pl * y + 4 * 0 = vd_us pl * y by omega] at lb
      simp (disch := omega) only [vd_S235_0 hN, vd_S235_2 hN, P223, vd_S235_5 hN, g95, g96, g97, g98, g105, vd_I_div, d8, vd_I_mul, mu, vd_S235_63 hN, P289, em, vd_S235_66 hN, P236, vd_S235_69 hN, g110, vd_I_toInt, show ¬ ((1 : Int) = 0) by decide, if_false, sh, vd_S235_84 hN, vd_rs_v, vd_rs_n]
      refine lb.trans ?_
      rw [vd_S235_132 hN]
  obtain ⟨f1, g1, P1, K1, t1, t2, qi1, k1, F1, G1⟩ := vd_colQ (x0 := vd_us pl * x) (w := vd_us pl * w) (T := T) (bx := x) (y0 := vd_us pl * y) (h := vd_us pl * h) hC hpl hs (fun e => hz0 (X13 e)) rfl rfl wx (by rw [T1]) (by omega) ⟨b0, rfl⟩ rfl rfl wy (fun a c h1 h2 h3 h4 h5 h6 => by
    have e1 := cdx a x w (by omega) (by omega)
    have e2 := cdx c y h (by omega) (by omega)
    exact hO _ _ e1.1 e1.2 e2.1 e2.2 h5 h6) U (vd_us pl * y) n0 P K f g vd_U vd_U c10 vd_U vd_U vd_U (by rw [U1]) (Nat.le_refl _) (by omega) sb qi (by omega) (fun a c h1 h2 h3 h4 => hK a c ⟨by omega, by omega, by omega, by omega⟩)
  refine ⟨f1, g1, P1, K1, fun d Q => ?_, fun d Q => ?_, ⟨qi1.1, qi1.2.1, qi1.2.2.1.mono (by omega), qi1.2.2.2⟩, fun c a e h => k1 c a e (fun ⟨h1, h2, h3, h4, h5⟩ => h ⟨h1, by omega, by omega, by omega, by omega⟩), F1, G1⟩
  · rw [← t1 d Q]
    have P113 := vd_P113 (w := w) (h := h) hM hW.2.2.2.2 hb hf b2 b3 hpl
    rw [ez] at P113
    have P83 := fun (k : Nat) (hk : k < 18) (d : Nat) (Q : vd_M → (Option Value ⊕ Nat) → Prop) => vd_P83 (f := f) (d := d) (Q := Q) (k := nb) (q := k) hM here hW.2.2.2.2 hk
    have P0 := P83 0 (by decide)
    have P1' := P83 1 (by decide)
    have P2 := P83 2 (by decide)
    have P3 := P83 3 (by decide)
    have P7 := P83 7 (by decide)
    have P8 := P83 8 (by decide)
    rw [hf 0 (by decide), b0, show ((0 : Nat) : Int) = 0 from rfl] at P0
    rw [hf 1 (by decide), b1, show ((1 : Nat) : Int) = 1 from rfl] at P1'
    rw [hf 2 (by decide), b2, show ((2 : Nat) : Int) = 2 from rfl] at P2
    rw [hf 3 (by decide), b3, show ((3 : Nat) : Int) = 3 from rfl] at P3
    rw [hf 7 (by decide), show ((7 : Nat) : Int) = 7 from rfl] at P7
    rw [hf 8 (by decide), show ((8 : Nat) : Int) = 8 from rfl] at P8
    have um : ∀ k : Nat, ((vd_us pl : Nat) : Int) * (k : Int) = ((vd_us pl * k : Nat) : Int) := fun k => by rw [Int.natCast_mul]
    have mW : ((vd_us pl : Nat) : Int) * min (W : Int) ((x : Int) + (w : Int)) = ((min (vd_us pl * x + vd_us pl * w) (vd_us pl * W) : Nat) : Int) := by
      rcases cuv with ⟨e1, _⟩ | ⟨e1, _⟩ <;> rw [e1] <;> omega
    have mH : ((vd_us pl : Nat) : Int) * min (H : Int) ((y : Int) + (h : Int)) = ((min (vd_us pl * y + vd_us pl * h) (vd_us pl * H) : Nat) : Int) := by
      rcases cuv with ⟨e1, _⟩ | ⟨e1, _⟩ <;> rw [e1] <;> omega
    have s0 : vd_wp (d + 4) 112 0 [.ref 44, .int (vd_I (pl : Int)), .int (vd_I (o : Int)), vd_U, vd_U, vd_U, vd_U, vd_U, vd_U, vd_U, vd_U, vd_U] [] (vd_mf M f) Q = vd_wp (d + 4) 112 20 [.ref 44, .int (vd_I (pl : Int)), .int (vd_I (o : Int)), .int (vd_I ((vd_us pl : Nat) : Int)), vd_U, vd_U, vd_U, vd_U, vd_U, vd_U, vd_U, vd_U] [.int (f 44 8), .int (vd_I (pl : Int)), .ref 37] (vd_mf M f) Q := by
      by_cases cp : pl = 0
      · have cp' : ((pl : Nat) : Int) = 0 := by omega
        rw [← usI, if_pos cp]
        simp (disch := omega) only [vd_S112_0 hM, vd_I_toInt, cp', eq_self, if_true, vd_S112_4 hM, vd_S112_10 hM]
      · have cp' : ¬ (((pl : Nat) : Int) = 0) := by omega
        rw [← usI, if_neg cp]
        simp (disch := omega) only [vd_S112_0 hM, vd_I_toInt, cp', if_false, vd_S112_9 hM, vd_S112_10 hM]
    rw [s0, here]
    have um' : ((vd_us pl : Nat) : Int) * (y : Int) = ((vd_us pl * y : Nat) : Int) := um y
    by_cases cp : pl = 0
    · have cp' : ((pl : Nat) : Int) = 0 := by omega
      have ed : vd_md b pl = b 7 := if_pos cp
      rw [ed]
      simp (disch := omega) only [vd_S112_20 hM, P113, vd_S112_23 hM, sh, f2, vd_S112_41 hM, P0, vd_S112_44 hM, vd_S112_46 hM, P2, vd_S112_49 hM, vd_I_add, vd_S112_50 hM, P289, vd_S112_53 hM, vd_I_mul, mW, f3, vd_S112_66 hM, P1', vd_S112_69 hM, vd_S112_71 hM, P3, vd_S112_74 hM, vd_S112_75 hM, vd_S112_78 hM, mH, vd_I_toInt, eq_true cp', if_true, vd_S112_85 hM, vd_S112_88 hM, P7, vd_S112_91 hM, vd_S112_100 hM, vd_S112_105 hM, vd_S112_108 hM, um', vd_rs_v, vd_rs_n]
    · have cp' : ¬ (((pl : Nat) : Int) = 0) := by omega
      have ed : vd_md b pl = b 8 := if_neg cp
      rw [ed]
      simp (disch := omega) only [vd_S112_20 hM, P113, vd_S112_23 hM, sh, f2, vd_S112_41 hM, P0, vd_S112_44 hM, vd_S112_46 hM, P2, vd_S112_49 hM, vd_I_add, vd_S112_50 hM, P289, vd_S112_53 hM, vd_I_mul, mW, f3, vd_S112_66 hM, P1', vd_S112_69 hM, vd_S112_71 hM, P3, vd_S112_74 hM, vd_S112_75 hM, vd_S112_78 hM, mH, vd_I_toInt, cp', if_false, vd_S112_94 hM, vd_S112_97 hM, P8, vd_S112_100 hM, vd_S112_105 hM, vd_S112_108 hM, um', vd_rs_v, vd_rs_n]
  · rw [hc10, t2]
end VDPT
