/-! ===== the reference's free picture, and its begin ===== -/
section VDRB
variable {N : vd_M}
theorem vd_r65 (hN : vd_SR N) {k : Nat} (hk : k < 11) : vd_r N 65 k = some (129 + 5 * k) := by
  have : k = 0 ∨ k = 1 ∨ k = 2 ∨ k = 3 ∨ k = 4 ∨ k = 5 ∨ k = 6 ∨ k = 7 ∨ k = 8 ∨ k = 9 ∨ k = 10 := by omega
  rcases this with rfl | rfl | rfl | rfl | rfl | rfl | rfl | rfl | rfl | rfl | rfl
  · exact hN.r65_0
  · exact hN.r65_1
  · exact hN.r65_2
  · exact hN.r65_3
  · exact hN.r65_4
  · exact hN.r65_5
  · exact hN.r65_6
  · exact hN.r65_7
  · exact hN.r65_8
  · exact hN.r65_9
  · exact hN.r65_10
theorem vd_P189 (hN : vd_SR N) {g : Nat → Nat → Int32} {hd : Nat → Int} (hc : ∀ k, k < 11 → g (129 + 5 * k) 3 = vd_I (hd k) ∧ 0 ≤ hd k ∧ hd k ≤ 9) : ∀ (m k : Nat), k + m = 11 → (∃ j, k ≤ j ∧ j < 11 ∧ hd j = 0) → ∃ j, j < 11 ∧ hd j = 0 ∧ ∀ d Q, vd_wp d 189 2 [.ref 63, .int (vd_I (k : Int))] [] (vd_mf N g) Q = Q (vd_mf N g) (.inl (some (.ref (129 + 5 * j)))) := by
  intro m
  induction m with
  | zero =>
    intro k hk he
    obtain ⟨j, a, b, _⟩ := he
    omega
  | succ m ih =>
    intro k hk he
    have hk11 : k < 11 := by omega
    have r := vd_r65 hN hk11
    have kk : vd_k N (129 + 5 * k) = 13 := (vd_PD_of hN hk11).1.1
    obtain ⟨h1, h2, h3⟩ := hc k hk11
    by_cases c : hd k = 0
    · refine ⟨k, hk11, c, fun d Q => ?_⟩
      rw [vd_S189_2 hN]
      simp (disch := first | assumption | omega) only [vd_S189_7 hN, Int.toNat_natCast, r, vd_vr_some, vd_S189_8 hN, h1, vd_I_toInt, show ¬ (0 < hd k) by omega, if_false, vd_S189_20 hN, vd_S189_25 hN, vd_S189_26 hN]
    · obtain ⟨j, j1, j2, e⟩ := ih (k + 1) (by omega) (by
        obtain ⟨j, a, b, x⟩ := he
        refine ⟨j, ?_, b, x⟩
        by_cases q : j = k
        · exact absurd (q ▸ x) c
        · omega)
      refine ⟨j, j1, j2, fun d Q => ?_⟩
      have ek : (k : Int) + 1 = ((k + 1 : Nat) : Int) := by omega
      rw [← e d Q]
      conv => lhs; rw [vd_S189_2 hN]
      simp (disch := first | assumption | omega) only [vd_S189_7 hN, Int.toNat_natCast, r, vd_vr_some, vd_S189_8 hN, h1, vd_I_toInt, show (0 < hd k) by omega, if_true, vd_S189_14 hN, vd_I_add, ek]
theorem vd_SR.now {N : vd_M} (h : vd_SR N) (v : Option Nat) : vd_SR (vd_sr N 63 23 v) := h.keep (fun _ _ => rfl) (fun _ _ => rfl) (fun c i _ _ _ q => by rw [vd_r_sr, if_neg (by omega)])
/-- one plane cleared -/
theorem vd_L188p (hN : vd_SR N) {q : Nat} (hq : vd_PD N q) (hnow : vd_r N 63 23 = some q) {p : Nat} (hp : p < 3) (g : Nat → Nat → Int32) (d : Nat) (Q : vd_M → (Option Value ⊕ Nat) → Prop) : vd_wp (d + 1) 188 121 [.ref 63, .int (vd_I (p : Int))] [] (vd_mf N g) Q = vd_wp (d + 1) 188 121 [.ref 63, .int (vd_I ((p + 1 : Nat) : Int))] [] (vd_mf N (vd_uf (vd_uf (vd_uf g (q + 2 + p) 0 (vd_rm p) (vd_I 0)) (106 + p) 0 (vd_rm p) (vd_I 0)) (110 + p) 0 (vd_fo p * vd_fo p) (vd_I 0))) Q := by
  obtain ⟨⟨k0, r2⟩, ⟨k1, l1⟩, rows, hqb⟩ := hq
  obtain ⟨rp, kp, lp⟩ := rows p hp
  have hm : vd_rm p ≤ 65536 := by unfold vd_rm; split <;> decide
  have hm' : vd_fo p * vd_fo p ≤ 65536 := by unfold vd_fo; split <;> decide
  obtain ⟨w1, w2, w3⟩ : vd_r N 105 p = some (106 + p) ∧ vd_k N (106 + p) = 34 ∧ vd_l N (106 + p) = vd_rm p := by
    have : p = 0 ∨ p = 1 ∨ p = 2 := by omega
    rcases this with rfl | rfl | rfl
    · exact ⟨hN.r105_0, hN.k106, hN.l106⟩
    · exact ⟨hN.r105_1, hN.k107, hN.l107⟩
    · exact ⟨hN.r105_2, hN.k108, hN.l108⟩
  obtain ⟨v1, v2, v3⟩ : vd_r N 109 p = some (110 + p) ∧ vd_k N (110 + p) = 34 ∧ vd_l N (110 + p) = vd_fo p * vd_fo p := by
    have : p = 0 ∨ p = 1 ∨ p = 2 := by omega
    rcases this with rfl | rfl | rfl
    · exact ⟨hN.r109_0, hN.k110, hN.l110⟩
    · exact ⟨hN.r109_1, hN.k111, hN.l111⟩
    · exact ⟨hN.r109_2, hN.k112, hN.l112⟩
  have ep : (p : Int) + 1 = ((p + 1 : Nat) : Int) := by omega
  have zb : (vd_I 0).toInt8.toInt32 = vd_I 0 := by decide
  have z1 := fun d Q => vd_F288 (M := N) (d := d) (Q := Q) (f := g) (o := q + 2 + p) (len := vd_rm p) (x := vd_I 0) (by omega) kp lp hm
  rw [zb] at z1
  have z2 := fun (g : Nat → Nat → Int32) d Q => vd_F294 (M := N) (d := d) (Q := Q) (f := g) (o := 106 + p) (len := vd_rm p) (x := vd_I 0) (by omega) w2 w3 hm
  have z3 := fun (g : Nat → Nat → Int32) d Q => vd_F294 (M := N) (d := d) (Q := Q) (f := g) (o := 110 + p) (len := vd_fo p * vd_fo p) (x := vd_I 0) (by omega) v2 v3 hm'
  rw [vd_a01] at z2 z3
  have hl1 : (p : Int) < (vd_l N (q + 1) : Int) := by rw [l1]; omega
  have hk1 : 36 ≤ vd_k N (q + 1) := by rw [k1]; decide
  have hk2 : vd_k N (q + 1) < 41 := by rw [k1]; decide
  conv => lhs; rw [vd_S188_121 hN]
  simp (disch := first | assumption | omega) only [vd_S188_126 hN, hnow, vd_vr_some, vd_S188_130 hN, r2, vd_S188_134 hN, Int.toNat_natCast, rp, vd_S188_136 hN, z1, vd_rs_v, vd_rs_n, vd_S188_139 hN, vd_S188_144 hN, w1, vd_S188_146 hN, z2, vd_S188_149 hN, vd_S188_154 hN, v1, vd_S188_156 hN, z3, vd_S188_159 hN, vd_I_toInt, show ((p : Int) < 3) by omega, if_true, vd_I_add, ep]
/-- begin -/
theorem vd_P188 (hN : vd_SR N) {g : Nat → Nat → Int32} {w h cx : Int} {hd : Nat → Int} (hw : g 63 24 = vd_I w) (hh : g 63 25 = vd_I h) (b : 1 ≤ w ∧ w ≤ 192 ∧ 1 ≤ h ∧ h ≤ 192) (hcx : g 63 78 = vd_I cx) (c0 : 0 ≤ cx) (c1 : cx ≤ 3) (hc : ∀ k, k < 11 → g (129 + 5 * k) 3 = vd_I (hd k) ∧ 0 ≤ hd k ∧ hd k ≤ 9) (he : ∃ j, j < 11 ∧ hd j = 0) : ∃ (g' : Nat → Nat → Int32) (j : Nat), (j < 11 ∧ hd j = 0) ∧ (∀ d Q, vd_wp (d + 1) 188 0 [.ref 63, vd_U] [] (vd_mf N g) Q = Q (vd_mf (vd_sr N 63 23 (some (129 + 5 * j))) g') (.inl none)) ∧ (g' 63 26 = vd_I ((w + 7) / 8) ∧ g' 63 27 = vd_I ((h + 7) / 8) ∧ g' 63 70 = vd_I ((w + 7) / 8) ∧ g' 63 71 = vd_I ((h + 7) / 8) ∧ g' 63 69 = vd_I 0 ∧ g' 63 46 = vd_I 0 ∧ g' 63 47 = vd_I 0) ∧ (g' (129 + 5 * j) 0 = vd_I w ∧ g' (129 + 5 * j) 1 = vd_I h) ∧ (∀ k, k < 2941 → g' 80 k = g (68 + cx.toNat) k ∧ g' 81 k = vd_I 0 ∧ g' 82 k = vd_I 0) ∧ (∀ i, i < 576 → g' 88 i = vd_I 0) ∧ (∀ pl i, pl < 3 → i < vd_rm pl → g' (129 + 5 * j + 2 + pl) i = vd_I 0 ∧ g' (106 + pl) i = vd_I 0) ∧ (∀ pl i, pl < 3 → i < vd_fo pl * vd_fo pl → g' (110 + pl) i = vd_I 0) ∧ (∀ c i, ¬ (c = 63 ∧ (i = 26 ∨ i = 27 ∨ i = 46 ∨ i = 47 ∨ (69 ≤ i ∧ i ≤ 71))) → ¬ (80 ≤ c ∧ c ≤ 82) → c ≠ 88 → ¬ (106 ≤ c ∧ c ≤ 108) → ¬ (110 ≤ c ∧ c ≤ 112) → ¬ (c = 129 + 5 * j ∧ i ≤ 1) → ¬ (129 + 5 * j + 2 ≤ c ∧ c ≤ 129 + 5 * j + 4) → g' c i = g c i) := by
  have d1 : (vd_I w + vd_I 7) / vd_I 8 = vd_I ((w + 7) / 8) := by rw [vd_I_add, vd_I_div (by omega) (by omega) (by omega) (by omega)]
  have d2 : (vd_I h + vd_I 7) / vd_I 8 = vd_I ((h + 7) / 8) := by rw [vd_I_add, vd_I_div (by omega) (by omega) (by omega) (by omega)]
  obtain ⟨g1, hg1⟩ : ∃ g1, g1 = vd_up (vd_up (vd_up (vd_up g 63 26 (vd_I ((w + 7) / 8))) 63 27 (vd_I ((h + 7) / 8))) 63 70 (vd_I ((w + 7) / 8))) 63 71 (vd_I ((h + 7) / 8)) := ⟨_, rfl⟩
  have G1 : ∀ c i, ¬ (c = 63 ∧ (i = 26 ∨ i = 27 ∨ i = 70 ∨ i = 71)) → g1 c i = g c i := fun c i q => by rw [hg1, vd_up_ne (by omega), vd_up_ne (by omega), vd_up_ne (by omega), vd_up_ne (by omega)]
  obtain ⟨j, j1, j2, e189⟩ := vd_P189 hN (g := g1) (hd := hd) (fun k hk => by rw [G1 _ _ (by omega)]; exact hc k hk) 11 0 rfl (by obtain ⟨j, a, b⟩ := he; exact ⟨j, by omega, a, b⟩)
  have hq : vd_PD N (129 + 5 * j) := vd_PD_of hN j1
  have hN' : vd_SR (vd_sr N 63 23 (some (129 + 5 * j))) := hN.now _
  have hq' : vd_PD (vd_sr N 63 23 (some (129 + 5 * j))) (129 + 5 * j) := vd_PD_of hN' j1
  have hnow : vd_r (vd_sr N 63 23 (some (129 + 5 * j))) 63 23 = some (129 + 5 * j) := by rw [vd_r_sr, if_pos ⟨rfl, rfl⟩]
  have kq : vd_k (vd_sr N 63 23 (some (129 + 5 * j))) (129 + 5 * j) = 13 := hq'.1.1
  obtain ⟨q, hqe⟩ : ∃ q, q = 129 + 5 * j := ⟨_, rfl⟩
  rw [← hqe] at hq hq' hnow kq hN'
  have qb : 129 ≤ q ∧ q ≤ 179 := by omega
  obtain ⟨g2, hg2⟩ : ∃ g2, g2 = vd_up (vd_up g1 q 0 (vd_I w)) q 1 (vd_I h) := ⟨_, rfl⟩
  have G2 : ∀ c i, ¬ (c = q ∧ i ≤ 1) → g2 c i = g1 c i := fun c i a => by rw [hg2, vd_up_ne (by omega), vd_up_ne (by omega)]
  generalize hN2 : vd_sr N 63 23 (some q) = N2 at hN' hq' hnow kq
  have ctx := vd_ctx68 hN' (c := cx.toNat) (by omega)
  obtain ⟨rc, kc, lc⟩ := ctx
  obtain ⟨g3, hg3⟩ : ∃ g3, g3 = vd_ua g2 80 (va_cpy (g2 (68 + cx.toNat)) (g2 80) (0 : Int).toNat (0 : Int).toNat (2941 : Int).toNat) := ⟨_, rfl⟩
  have e92 := fun a1 d Q => vd_S188_92 hN' a1 2941 0 0 (68 + cx.toNat) d g2 Q (by decide) (by rw [kc, hN'.k80]) (Or.inl hN'.k80) (by decide) (by decide) (by decide) (by rw [lc]; decide) (by rw [hN'.l80]; decide) (by rw [lc]; decide) (by rw [hN'.l80]; decide)
  have z1 := fun d Q => vd_F286 (M := N2) (d := d) (Q := Q) (f := g3) (o := 81) (len := 2941) (x := vd_I 0) (by decide) hN'.k81 hN'.l81 (by decide)
  have z2 := fun d Q => vd_F286 (M := N2) (d := d) (Q := Q) (f := vd_uf g3 81 0 2941 (vd_I 0)) (o := 82) (len := 2941) (x := vd_I 0) (by decide) hN'.k82 hN'.l82 (by decide)
  have z3 := fun d Q => vd_F294 (M := N2) (d := d) (Q := Q) (f := vd_uf (vd_uf g3 81 0 2941 (vd_I 0)) 82 0 2941 (vd_I 0)) (o := 88) (len := 576) (x := vd_I 0) (by decide) hN'.k88 hN'.l88 (by decide)
  rw [vd_a01] at z3
  obtain ⟨g4, hg4⟩ : ∃ g4, g4 = vd_uf (vd_uf (vd_uf g3 81 0 2941 (vd_I 0)) 82 0 2941 (vd_I 0)) 88 0 576 (vd_I 0) := ⟨_, rfl⟩
  have G4 : ∀ c i, ¬ (80 ≤ c ∧ c ≤ 82) → c ≠ 88 → g4 c i = g2 c i := fun c i a b => by rw [hg4, vd_uf_ne (by omega), vd_uf_ne (by omega), vd_uf_ne (by omega), hg3, vd_ua_ne (by omega)]
  have PL := fun p (hp : p < 3) g d Q => vd_L188p (p := p) hN' hq' hnow hp g d Q
  obtain ⟨g5, hg5⟩ : ∃ g5, g5 = (fun p g => vd_uf (vd_uf (vd_uf g (q + 2 + p) 0 (vd_rm p) (vd_I 0)) (106 + p) 0 (vd_rm p) (vd_I 0)) (110 + p) 0 (vd_fo p * vd_fo p) (vd_I 0) : Nat → (Nat → Nat → Int32) → (Nat → Nat → Int32)) := ⟨_, rfl⟩
  have hg5' : ∀ p g, g5 p g = vd_uf (vd_uf (vd_uf g (q + 2 + p) 0 (vd_rm p) (vd_I 0)) (106 + p) 0 (vd_rm p) (vd_I 0)) (110 + p) 0 (vd_fo p * vd_fo p) (vd_I 0) := fun p g => by rw [hg5]
  have G5 : ∀ p g c i, p < 3 → ¬ (106 ≤ c ∧ c ≤ 108) → ¬ (110 ≤ c ∧ c ≤ 112) → ¬ (q + 2 ≤ c ∧ c ≤ q + 4) → g5 p g c i = g c i := fun p g c i hp a b x => by rw [hg5', vd_uf_ne (by omega), vd_uf_ne (by omega), vd_uf_ne (by omega)]
  have G5o : ∀ p g c i, p < 3 → c ≠ q + 2 + p → c ≠ 106 + p → c ≠ 110 + p → g5 p g c i = g c i := fun p g c i hp a b x => by rw [hg5', vd_uf_ne (by omega), vd_uf_ne (by omega), vd_uf_ne (by omega)]
  have G5s : ∀ p g i, p < 3 → i < vd_rm p → g5 p g (q + 2 + p) i = vd_I 0 ∧ g5 p g (106 + p) i = vd_I 0 := fun p g i hp hi => ⟨by rw [hg5', vd_uf_ne (by omega), vd_uf_ne (by omega), vd_uf_in (by omega) hi], by rw [hg5', vd_uf_ne (by omega), vd_uf_in (by omega) hi]⟩
  have G5h : ∀ p g i, p < 3 → i < vd_fo p * vd_fo p → g5 p g (110 + p) i = vd_I 0 := fun p g i hp hi => by rw [hg5', vd_uf_in (by omega) hi]
  simp only [← hg5'] at PL
  have ew2 : g1 63 24 = vd_I w := by rw [G1 63 24 (by omega)]; exact hw
  have eh2 : (vd_up g1 q 0 (vd_I w)) 63 25 = vd_I h := by rw [vd_up_ne (by omega), G1 63 25 (by omega)]; exact hh
  have ec2 : g2 63 78 = vd_I cx := by rw [G2 63 78 (by omega), G1 63 78 (by omega)]; exact hcx
  have main : ∀ d Q, vd_wp (d + 1) 188 0 [.ref 63, vd_U] [] (vd_mf N g) Q = Q (vd_mf N2 (vd_up (vd_up (vd_up (g5 2 (g5 1 (g5 0 g4))) 63 69 (vd_I 0)) 63 46 (vd_I 0)) 63 47 (vd_I 0))) (.inl none) := fun d Q => by
    have e0 : ∀ (Q : vd_M → (Option Value ⊕ Nat) → Prop), vd_wp d 189 0 [.ref 63, vd_U] [] (vd_mf N g1) Q = Q (vd_mf N g1) (.inl (some (.ref q))) := fun Q => by
      rw [vd_S189_0 hN, hqe]
      exact e189 d Q
    rw [vd_S188_0 hN, hw, hh, d1, d2, ← hg1]
    simp only [vd_S188_46 hN, e0, vd_rs_v, vd_rs_n, vd_S188_49 hN, hN2]
    simp (disch := first | assumption | omega) only [vd_S188_52 hN', ew2, hnow, vd_vr_some, vd_S188_60 hN', eh2, vd_S188_71 hN', ← hg2, ec2, vd_S188_82 hN', rc]
    rw [e92, ← hg3]
    simp only [vd_S188_100 hN', z1, vd_rs_v, vd_rs_n, vd_S188_103 hN', vd_S188_108 hN', z2, vd_S188_111 hN', vd_S188_116 hN', z3, ← hg4, vd_S188_119 hN']
    have p0 := PL 0 (by decide) g4 d Q
    have p1 := PL 1 (by decide) (g5 0 g4) d Q
    have p2 := PL 2 (by decide) (g5 1 (g5 0 g4)) d Q
    have p0' : vd_wp (d + 1) 188 121 [.ref 63, .int (vd_I 0)] [] (vd_mf N2 g4) Q = _ := p0
    rw [p0', p1, p2, vd_S188_121 hN']
    simp (disch := omega) only [vd_I_toInt, show ¬ (((2 + 1 : Nat) : Int) < 3) by decide, if_false, vd_S188_165 hN']
  have R : ∀ c i, ¬ (c = 63 ∧ (i = 69 ∨ i = 46 ∨ i = 47)) → (vd_up (vd_up (vd_up (g5 2 (g5 1 (g5 0 g4))) 63 69 (vd_I 0)) 63 46 (vd_I 0)) 63 47 (vd_I 0)) c i = g5 2 (g5 1 (g5 0 g4)) c i := fun c i a => by rw [vd_up_ne (by omega), vd_up_ne (by omega), vd_up_ne (by omega)]
  have R2 : ∀ c i, ¬ (106 ≤ c ∧ c ≤ 108) → ¬ (110 ≤ c ∧ c ≤ 112) → ¬ (q + 2 ≤ c ∧ c ≤ q + 4) → g5 2 (g5 1 (g5 0 g4)) c i = g4 c i := fun c i a b x => by rw [G5 _ _ c i (by decide) a b x, G5 _ _ c i (by decide) a b x, G5 _ _ c i (by decide) a b x]
  refine ⟨_, j, ⟨j1, j2⟩, fun d Q => by rw [← hqe, hN2]; exact main d Q, ⟨?_, ?_, ?_, ?_, ?_, ?_, ?_⟩, ⟨?_, ?_⟩, fun k hk => ⟨?_, ?_, ?_⟩, fun i hi => ?_, fun pl i hp hi => ⟨?_, ?_⟩, fun pl i hp hi => ?_, fun c i a1 a2 a3 a4 a5 a6 a7 => ?_⟩
  · rw [R 63 26 (by omega), R2 63 26 (by omega) (by omega) (by omega), G4 63 26 (by omega) (by omega), G2 63 26 (by omega), hg1, vd_up_ne (by omega), vd_up_ne (by omega), vd_up_ne (by omega), vd_up_eq]
  · rw [R 63 27 (by omega), R2 63 27 (by omega) (by omega) (by omega), G4 63 27 (by omega) (by omega), G2 63 27 (by omega), hg1, vd_up_ne (by omega), vd_up_ne (by omega), vd_up_eq]
  · rw [R 63 70 (by omega), R2 63 70 (by omega) (by omega) (by omega), G4 63 70 (by omega) (by omega), G2 63 70 (by omega), hg1, vd_up_ne (by omega), vd_up_eq]
  · rw [R 63 71 (by omega), R2 63 71 (by omega) (by omega) (by omega), G4 63 71 (by omega) (by omega), G2 63 71 (by omega), hg1, vd_up_eq]
  · rw [vd_up_ne (by omega), vd_up_ne (by omega), vd_up_eq]
  · rw [vd_up_ne (by omega), vd_up_eq]
  · rw [vd_up_eq]
  · rw [← hqe, R q 0 (by omega), R2 q 0 (by omega) (by omega) (by omega), G4 q 0 (by omega) (by omega), hg2, vd_up_ne (by omega), vd_up_eq]
  · rw [← hqe, R q 1 (by omega), R2 q 1 (by omega) (by omega) (by omega), G4 q 1 (by omega) (by omega), hg2, vd_up_eq]
  · rw [R 80 k (by omega), R2 80 k (by omega) (by omega) (by omega), hg4, vd_uf_ne (by omega), vd_uf_ne (by omega), vd_uf_ne (by omega), hg3, vd_ua_eq, vd_cpy_in (by simpa using hk), G2 _ k (by omega), G1 _ k (by omega)]
  · rw [R 81 k (by omega), R2 81 k (by omega) (by omega) (by omega), hg4, vd_uf_ne (by omega), vd_uf_ne (by omega), vd_uf_in (by omega) hk]
  · rw [R 82 k (by omega), R2 82 k (by omega) (by omega) (by omega), hg4, vd_uf_ne (by omega), vd_uf_in (by omega) hk]
  · rw [R 88 i (by omega), R2 88 i (by omega) (by omega) (by omega), hg4, vd_uf_in (by omega) hi]
  · rw [← hqe, R _ i (by omega)]
    have : pl = 0 ∨ pl = 1 ∨ pl = 2 := by omega
    rcases this with rfl | rfl | rfl
    · rw [G5o 2 _ _ i (by decide) (by omega) (by omega) (by omega), G5o 1 _ _ i (by decide) (by omega) (by omega) (by omega)]; exact (G5s 0 g4 i (by decide) hi).1
    · rw [G5o 2 _ _ i (by decide) (by omega) (by omega) (by omega)]; exact (G5s 1 _ i (by decide) hi).1
    · exact (G5s 2 _ i (by decide) hi).1
  · rw [R _ i (by omega)]
    have : pl = 0 ∨ pl = 1 ∨ pl = 2 := by omega
    rcases this with rfl | rfl | rfl
    · rw [G5o 2 _ _ i (by decide) (by omega) (by omega) (by omega), G5o 1 _ _ i (by decide) (by omega) (by omega) (by omega)]; exact (G5s 0 g4 i (by decide) hi).2
    · rw [G5o 2 _ _ i (by decide) (by omega) (by omega) (by omega)]; exact (G5s 1 _ i (by decide) hi).2
    · exact (G5s 2 _ i (by decide) hi).2
  · rw [R _ i (by omega)]
    have : pl = 0 ∨ pl = 1 ∨ pl = 2 := by omega
    rcases this with rfl | rfl | rfl
    · rw [G5o 2 _ _ i (by decide) (by omega) (by omega) (by omega), G5o 1 _ _ i (by decide) (by omega) (by omega) (by omega)]; exact G5h 0 g4 i (by decide) hi
    · rw [G5o 2 _ _ i (by decide) (by omega) (by omega) (by omega)]; exact G5h 1 _ i (by decide) hi
    · exact G5h 2 _ i (by decide) hi
  · rw [R c i (by omega), R2 c i a4 a5 (by omega), G4 c i a2 a3, G2 c i (by omega), G1 c i (by omega)]
end VDRB
