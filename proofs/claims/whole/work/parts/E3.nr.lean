/-! ===== the filter: a line is smoothed a little ===== -/
def vd_hv (t : Int) (v : Int → Int) : Int := if t < vd_av (v (-2) - v (-1)) ∨ t < vd_av (v 1 - v 0) then 1 else 0
def vd_na (t : Int) (v : Int → Int) : Int := vd_hd ((if vd_hv t v = 0 then 0 else vd_hd (v (-2) - v 1)) + 3 * (v 0 - v (-1)))
def vd_nA (t : Int) (v : Int → Int) : Int := vd_hd (vd_na t v + 4) / 8
def vd_nB (t : Int) (v : Int → Int) : Int := vd_hd (vd_na t v + 3) / 8
def vd_nC (t : Int) (v : Int → Int) : Int → Int := vd_ui (vd_ui v 0 (vd_hd (v 0 - 128 - vd_nA t v) + 128)) (-1) (vd_hd (v (-1) - 128 + vd_nB t v) + 128)
def vd_nwr (t : Int) (v : Int → Int) : Int → Int := if vd_hv t v = 0 then vd_ui (vd_ui (vd_nC t v) 1 (vd_hd (v 1 - 128 - (vd_nA t v + 1) / 2) + 128)) (-2) (vd_hd (v (-2) - 128 + (vd_nA t v + 1) / 2) + 128) else vd_nC t v
def vd_ch (c : Int) (v w : Int → Int) : Prop := (c = 0 ∨ c = 1) ∧ (c = 0 ↔ ∀ i, w i = v i)
theorem vd_ch.put {c : Int} {v w : Int → Int} (h : vd_ch c v w) {i z : Int} (hi : w i = v i) : vd_ch (vd_cg c (w i) z) v (vd_ui w i z) := by
  refine ⟨vd_cg_v _ _ _, ?_⟩
  unfold vd_cg
  constructor
  · intro e j
    split at e
    · rename_i hh
      have hw := h.2.mp hh.1
      by_cases ej : j = i
      · rw [ej, vd_ui_eq, ← hh.2, hi]
      · rw [vd_ui_ne ej, hw]
    · exact absurd e (by decide)
  · intro e
    have ei := e i
    rw [vd_ui_eq] at ei
    have hw : ∀ j, w j = v j := fun j => by
      by_cases ej : j = i
      · rw [ej, hi]
      · have := e j
        rw [vd_ui_ne ej] at this
        exact this
    rw [if_pos ⟨h.2.mpr hw, by rw [hi, ei]⟩]
theorem vd_ch0 (v : Int → Int) : vd_ch 0 v v := ⟨Or.inl rfl, fun _ _ => rfl, fun _ => rfl⟩
theorem vd_hd_s (z : Int) : 0 ≤ vd_hd z + 128 ∧ vd_hd z + 128 ≤ 255 := by
  have := vd_hd_b z
  omega
section VDNR
variable {M N : vd_M} {ow fa lo lf p s : Nat} {b0 st m : Int} {v : Int → Int} {f g : Nat → Nat → Int32}
def vd_fL (s : Nat) (b0 st m : Int) (f f' : Nat → Nat → Int32) : Prop := (∀ k j, k ≠ s → k ≠ 62 → ¬ (k = 60 ∧ j = 9) → f' k j = f k j) ∧ (∀ j, (∀ i : Int, -m ≤ i → i < m → j ≠ (b0 + i * st).toNat) → f' s j = f s j)
theorem vd_fL.trans {f1 f2 : Nat → Nat → Int32} (h : vd_fL s b0 st m f f1) (h2 : vd_fL s b0 st m f1 f2) : vd_fL s b0 st m f f2 := ⟨fun k j a b c => by rw [h2.1 k j a b c, h.1 k j a b c], fun j a => by rw [h2.2 j a, h.2 j a]⟩
theorem vd_P144 (hM : vd_SC M ow fa lo lf) (hp : vd_PC M p s) (h605 : vd_r M 60 5 = some s) (lc : vd_LC s b0 st m v f) (hv : vd_vb v) (hm : 2 ≤ m) {lev : Int} (h6 : f 60 6 = vd_I lev) (l0 : 0 ≤ lev ∧ lev ≤ 63) (h9 : f 60 9 = vd_I 0) : ∃ (f' : Nat → Nat → Int32) (c : Int), (∀ d Q, vd_wp (d + 2) 144 0 [.ref 60, .int (vd_I b0), .int (vd_I st), vd_U, vd_U, vd_U, vd_U, vd_U, vd_U, vd_U, vd_U, vd_U, vd_U] [] (vd_mf M f) Q = Q (vd_mf M f') (.inl none)) ∧ vd_LC s b0 st m (vd_nwr (lev / 16) v) f' ∧ f' 60 9 = vd_I c ∧ vd_ch c v (vd_nwr (lev / 16) v) ∧ vd_vb (vd_nwr (lev / 16) v) ∧ vd_fL s b0 st m f f' := by
  obtain ⟨⟨hk7, hrs⟩, ⟨hks, hls⟩, hp1, hp2, hp3⟩ := id hp
  obtain ⟨s0, s1, l⟩ := id lc
  obtain ⟨y0, y1, yv⟩ := l (-2) (by omega) (by omega)
  obtain ⟨w0, w1, wv⟩ := l (-1) (by omega) (by omega)
  obtain ⟨u0, u1, uv⟩ := l 0 (by omega) (by omega)
  obtain ⟨t0, t1, tv⟩ := l 1 (by omega) (by omega)
  have h1 := hv (-2)
  have h2 := hv (-1)
  have h3 := hv 0
  have h4 := hv 1
  have e1 : b0 - 2 * st = b0 + -2 * st := by omega
  have e2 : b0 - st = b0 + -1 * st := by omega
  have e3 : b0 + st = b0 + 1 * st := by omega
  have e0 : b0 = b0 + 0 * st := by omega
  have bb : 0 ≤ b0 ∧ b0 < 55296 := by omega
  have uv' : f s b0.toNat = vd_I (v 0) := by rw [e0]; exact uv
  have A := fun (z : Int) (h : -100000 ≤ z ∧ z ≤ 100000) (d : Nat) (Q : vd_M → (Option Value ⊕ Nat) → Prop) => vd_abP (M := M) (f := f) h d Q
  have q1 := vd_av_b (z := v (-2) - v (-1)) (c := 255) (by omega) (by omega)
  have q2 := vd_av_b (z := v 1 - v 0) (c := 255) (by omega) (by omega)
  have d1 : v (-2) - 128 - (v (-1) - 128) = v (-2) - v (-1) := by omega
  have d2 : v 1 - 128 - (v 0 - 128) = v 1 - v 0 := by omega
  have d3 : v (-2) - 128 - (v 1 - 128) = v (-2) - v 1 := by omega
  have d4 : v 0 - 128 - (v (-1) - 128) = v 0 - v (-1) := by omega
  have H := fun (g : Nat → Nat → Int32) (z : Int) (h : -100000 ≤ z ∧ z ≤ 100000) (d : Nat) (Q : vd_M → (Option Value ⊕ Nat) → Prop) => vd_P145 (f := g) hM h d Q
  have l16 : lev / 16 ≤ 3 ∧ 0 ≤ lev / 16 := by omega
  -- what is read
  have head : ∀ d Q, vd_wp (d + 2) 144 0 [.ref 60, .int (vd_I b0), .int (vd_I st), vd_U, vd_U, vd_U, vd_U, vd_U, vd_U, vd_U, vd_U, vd_U, vd_U] [] (vd_mf M f) Q = vd_wp (d + 2) 144 93 [.ref 60, .int (vd_I b0), .int (vd_I st), .int (vd_I (v (-2) - 128)), .int (vd_I (v (-1) - 128)), .int (vd_I (v 0 - 128)), .int (vd_I (v 1 - 128)), .int (vd_I (lev / 16)), vd_U, vd_U, vd_U, vd_U, vd_U] [.int (vd_I (vd_hv (lev / 16) v))] (vd_mf M f) Q := by
    intro d Q
    rw [vd_S144_0 hM]
    simp (disch := omega) only [vd_I_mul, vd_I_sub, e1, h605, vd_vr_some]
    rw [vd_S144_9 hM _ _ _ _ _ _ _ _ _ _ _ _ _ _ _ _ _ y0 (by rw [hls]; exact y1) (by omega) hks]
    simp (disch := omega) only [vd_I_sub, e2, h605, vd_vr_some, yv]
    rw [vd_S144_22 hM _ _ _ _ _ _ _ _ _ _ _ _ _ _ _ _ _ w0 (by rw [hls]; exact w1) (by omega) hks]
    simp (disch := omega) only [vd_I_sub, h605, vd_vr_some, wv]
    rw [vd_S144_34 hM _ _ _ _ _ _ _ _ _ _ _ _ _ _ _ _ _ bb.1 (by rw [hls]; exact bb.2) (by omega) hks]
    simp (disch := omega) only [vd_I_add, vd_I_sub, e3, h605, vd_vr_some, uv']
    rw [vd_S144_48 hM _ _ _ _ _ _ _ _ _ _ _ _ _ _ _ _ _ t0 (by rw [hls]; exact t1) (by omega) hks]
    simp (disch := omega) only [vd_I_sub, tv, h6, vd_shr4, d1, vd_S144_67 hM, A, vd_S144_70 hM, vd_I_toInt, vd_rs_v, vd_rs_n]
    unfold vd_hv
    by_cases c1 : lev / 16 < vd_av (v (-2) - v (-1))
    · rw [if_pos c1, if_pos (Or.inl c1), vd_S144_88 hM]
    · rw [if_neg c1]
      by_cases c2 : lev / 16 < vd_av (v 1 - v 0)
      · rw [if_pos (Or.inr c2)]
        simp (disch := omega) only [vd_S144_75 hM, vd_I_sub, d2, vd_S144_80 hM, A, vd_S144_83 hM, vd_I_toInt, c2, if_true, vd_S144_88 hM, vd_rs_v, vd_rs_n]
      · rw [if_neg (by omega)]
        simp (disch := omega) only [vd_S144_75 hM, vd_I_sub, d2, vd_S144_80 hM, A, vd_S144_83 hM, vd_I_toInt, c2, if_false, vd_S144_92 hM, vd_rs_v, vd_rs_n]
  generalize ht : lev / 16 = t at *
  have hvv : vd_hv t v = 0 ∨ vd_hv t v = 1 := by
    unfold vd_hv
    split
    · exact Or.inr rfl
    · exact Or.inl rfl
  have nab := vd_hd_b ((if vd_hv t v = 0 then 0 else vd_hd (v (-2) - v 1)) + 3 * (v 0 - v (-1)))
  have ena : vd_hd ((if vd_hv t v = 0 then 0 else vd_hd (v (-2) - v 1)) + 3 * (v 0 - v (-1))) = vd_na t v := rfl
  have hA := vd_hd_b (vd_na t v + 4)
  have hB := vd_hd_b (vd_na t v + 3)
  have eA : vd_hd (vd_na t v + 4) / 8 = vd_nA t v := rfl
  have eB : vd_hd (vd_na t v + 3) / 8 = vd_nB t v := rfl
  have hq := vd_hd_b (v (-2) - v 1)
  have mid : ∀ d Q, vd_wp (d + 2) 144 93 [.ref 60, .int (vd_I b0), .int (vd_I st), .int (vd_I (v (-2) - 128)), .int (vd_I (v (-1) - 128)), .int (vd_I (v 0 - 128)), .int (vd_I (v 1 - 128)), .int (vd_I t), vd_U, vd_U, vd_U, vd_U, vd_U] [.int (vd_I (vd_hv t v))] (vd_mf M f) Q = vd_wp (d + 2) 144 159 [.ref 60, .int (vd_I b0), .int (vd_I st), .int (vd_I (v (-2) - 128)), .int (vd_I (v (-1) - 128)), .int (vd_I (v 0 - 128)), .int (vd_I (v 1 - 128)), .int (vd_I t), .int (vd_I (vd_hv t v)), .int (vd_I (vd_na t v)), .int (vd_I (vd_nA t v)), .int (vd_I (vd_nB t v)), vd_U] [.int (vd_I (v 0 - 128 - vd_nA t v)), .int (vd_I b0), .ref 60] (vd_mf M f) Q := by
    intro d Q
    rcases hvv with c | c
    · rw [if_pos c, show (0 : Int) + 3 * (v 0 - v (-1)) = 3 * (v 0 - v (-1)) by omega] at nab ena
      rw [c, vd_S144_93 hM]
      simp (disch := omega) only [vd_I_toInt, eq_self, if_true, vd_S144_118 hM, vd_I_sub, d4, vd_I_mul, vd_S144_125 hM, H, ena, vd_S144_128 hM, vd_I_add, vd_S144_134 hM, vd_S144_137 hM, vd_shr3, eA, vd_S144_145 hM, vd_S144_148 hM, eB, vd_rs_v, vd_rs_n]
    · rw [if_neg (by omega)] at nab ena
      rw [c, vd_S144_93 hM]
      simp (disch := omega) only [vd_I_toInt, show ¬ ((1 : Int) = 0) by decide, if_false, vd_S144_100 hM, vd_I_sub, d3, vd_S144_104 hM, H, vd_S144_107 hM, d4, vd_I_mul, vd_I_add, vd_S144_125 hM, ena, vd_S144_128 hM, vd_S144_134 hM, vd_S144_137 hM, vd_shr3, eA, vd_S144_145 hM, vd_S144_148 hM, eB, vd_rs_v, vd_rs_n]
  rw [ena] at nab
  have nAb : -16 ≤ vd_nA t v ∧ vd_nA t v ≤ 15 := by rw [← eA]; omega
  have nBb : -16 ≤ vd_nB t v ∧ vd_nB t v ≤ 15 := by rw [← eB]; omega
  obtain ⟨f1, p1, lc1, g1, F1, S1⟩ := vd_P146 (i := 0) hM hp h605 lc hv h9 (Or.inl rfl) (by omega) (by omega) (vd_hd_s (v 0 - 128 - vd_nA t v))
  rw [← e0] at p1
  have v1b := vd_ui_b (i := 0) hv (vd_hd_s (v 0 - 128 - vd_nA t v))
  have ch1 := (vd_ch0 v).put (i := 0) (z := vd_hd (v 0 - 128 - vd_nA t v) + 128) rfl
  obtain ⟨f2, p2, lc2, g2, F2, S2⟩ := vd_P146 (i := -1) hM hp h605 lc1 v1b g1 (vd_cg_v _ _ _) (by omega) (by omega) (vd_hd_s (v (-1) - 128 + vd_nB t v))
  rw [← e2] at p2
  have v2b := vd_ui_b (i := -1) v1b (vd_hd_s (v (-1) - 128 + vd_nB t v))
  have ch2 := ch1.put (i := -1) (z := vd_hd (v (-1) - 128 + vd_nB t v) + 128) (vd_ui_ne (by decide))
  have tail : ∀ d Q, vd_wp (d + 2) 144 0 [.ref 60, .int (vd_I b0), .int (vd_I st), vd_U, vd_U, vd_U, vd_U, vd_U, vd_U, vd_U, vd_U, vd_U, vd_U] [] (vd_mf M f) Q = vd_wp (d + 2) 144 188 [.ref 60, .int (vd_I b0), .int (vd_I st), .int (vd_I (v (-2) - 128)), .int (vd_I (v (-1) - 128)), .int (vd_I (v 0 - 128)), .int (vd_I (v 1 - 128)), .int (vd_I t), .int (vd_I (vd_hv t v)), .int (vd_I (vd_na t v)), .int (vd_I (vd_nA t v)), .int (vd_I (vd_nB t v)), vd_U] [] (vd_mf M f2) Q := by
    intro d Q
    rw [head, mid]
    simp (disch := omega) only [vd_S144_159 hM, H, vd_S144_162 hM, vd_I_add, vd_S144_166 hM, p1, vd_S144_169 hM, vd_I_sub, vd_S144_178 hM, vd_S144_181 hM, vd_S144_185 hM, p2, vd_rs_v, vd_rs_n]
  have fr2 : vd_fL s b0 st m f f2 := ⟨fun k j a1 a2 a3 => by rw [F2 k j a1 a3, F1 k j a1 a3], fun j a => by rw [S2 j (a (-1) (by omega) (by omega)), S1 j (a 0 (by omega) (by omega))]⟩
  rcases hvv with c | c
  · have er : vd_nwr t v = vd_ui (vd_ui (vd_nC t v) 1 (vd_hd (v 1 - 128 - (vd_nA t v + 1) / 2) + 128)) (-2) (vd_hd (v (-2) - 128 + (vd_nA t v + 1) / 2) + 128) := if_pos c
    rw [er]
    obtain ⟨f3, p3, lc3, g3, F3, S3⟩ := vd_P146 (i := 1) hM hp h605 lc2 v2b g2 (vd_cg_v _ _ _) (by omega) (by omega) (vd_hd_s (v 1 - 128 - (vd_nA t v + 1) / 2))
    rw [← e3] at p3
    have v3b := vd_ui_b (i := 1) v2b (vd_hd_s (v 1 - 128 - (vd_nA t v + 1) / 2))
    have ch3 := ch2.put (i := 1) (z := vd_hd (v 1 - 128 - (vd_nA t v + 1) / 2) + 128) ((vd_ui_ne (by decide)).trans (vd_ui_ne (by decide)))
    obtain ⟨f4, p4, lc4, g4, F4, S4⟩ := vd_P146 (i := -2) hM hp h605 lc3 v3b g3 (vd_cg_v _ _ _) (by omega) (by omega) (vd_hd_s (v (-2) - 128 + (vd_nA t v + 1) / 2))
    rw [← e1] at p4
    have v4b := vd_ui_b (i := -2) v3b (vd_hd_s (v (-2) - 128 + (vd_nA t v + 1) / 2))
    have ch4 := ch3.put (i := -2) (z := vd_hd (v (-2) - 128 + (vd_nA t v + 1) / 2) + 128) ((vd_ui_ne (by decide)).trans ((vd_ui_ne (by decide)).trans (vd_ui_ne (by decide))))
    refine ⟨f4, _, fun d Q => ?_, lc4, g4, ch4, v4b, fr2.trans ⟨fun k j a1 a2 a3 => by rw [F4 k j a1 a3, F3 k j a1 a3], fun j a => by rw [S4 j (a (-2) (by omega) (by omega)), S3 j (a 1 (by omega) (by omega))]⟩⟩
    rw [tail, c]
    simp (disch := omega) only [vd_S144_188 hM, vd_I_toInt, eq_self, if_true, vd_S144_193 hM, vd_I_add, vd_shr1, vd_I_sub, vd_S144_210 hM, H, vd_S144_213 hM, vd_S144_217 hM, p3, vd_S144_220 hM, vd_I_mul, vd_S144_230 hM, vd_S144_233 hM, vd_S144_237 hM, p4, vd_S144_240 hM, vd_rs_v, vd_rs_n]
  · have er : vd_nwr t v = vd_nC t v := if_neg (by omega)
    rw [er]
    refine ⟨f2, _, fun d Q => ?_, lc2, g2, ch2, v2b, fr2⟩
    rw [tail, c]
    simp (disch := omega) only [vd_S144_188 hM, vd_I_toInt, show ¬ ((1 : Int) = 0) by decide, if_false, vd_S144_240 hM]
end VDNR
