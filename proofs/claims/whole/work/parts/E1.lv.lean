/-! ===== the filter: levels ===== -/
def vd_lv1 (X : Nat → Nat → Int) (s : Nat) : Int := if vd_ft X s 1 = 0 then X 0 10 else vd_wn (if X 0 8 = 0 then X 0 10 + X 5 (4 * s + 1) else X 5 (4 * s + 1)) 0 63
def vd_lv (X : Nat → Nat → Int) (b : Nat → Int) : Int := if X 0 12 = 0 ∨ vd_lv1 X (b 4).toNat = 0 then vd_lv1 X (b 4).toNat else vd_wn (if b 9 < 0 then vd_lv1 X (b 4).toNat + (if vd_lv1 X (b 4).toNat < 32 then 1 else 2) * X 7 0 else vd_lv1 X (b 4).toNat + (if vd_lv1 X (b 4).toNat < 32 then 1 else 2) * X 7 (1 + b 9).toNat + (if vd_lv1 X (b 4).toNat < 32 then 1 else 2) * X 7 (if b 11 = 0 then 4 else 5)) 0 63
theorem vd_lv1_b {X : Nat → Nat → Int} (hX : vd_XV X) (s : Nat) : 0 ≤ vd_lv1 X s ∧ vd_lv1 X s ≤ 63 := by
  have h := hX.2.1.2.1
  unfold vd_lv1
  split
  · exact h
  · exact vd_wn_b (by decide)
theorem vd_lv_b {X : Nat → Nat → Int} (hX : vd_XV X) (b : Nat → Int) : 0 ≤ vd_lv X b ∧ vd_lv X b ≤ 63 := by
  unfold vd_lv
  split
  · exact vd_lv1_b hX _
  · exact vd_wn_b (by decide)
section VDLV
variable {M N : vd_M} {ow fa lo lf : Nat} {X : Nat → Nat → Int} {b : Nat → Int} {f g : Nat → Nat → Int32}
theorem vd_P137 (hM : vd_SC M ow fa lo lf) (hX : vd_XV X) (h : vd_CA X f) {k : Nat} (hk : k < 576) (hf : ∀ q, q < 18 → f fa (18 * k + q) = vd_I (b q)) (hb : vd_BV b) (d : Nat) (Q : vd_M → (Option Value ⊕ Nat) → Prop) : vd_wp (d + 1) 137 0 [.ref 60, .int (vd_I (18 * (k : Int))), vd_U, vd_U, vd_U, vd_U] [] (vd_mf M f) Q = Q (vd_mf M f) (.inl (some (.int (vd_I (vd_lv X b))))) := by
  obtain ⟨_, _, ⟨f6, f7, f8, f11, f4⟩, ⟨f0, f1, f2⟩, _, _, _, d4, d5, _, d7⟩ := id h
  have X7 : ∀ i, i < 6 → -64 ≤ X 7 i ∧ X 7 i ≤ 64 := hX.2.2.2.2.2.2.2.2.2.1
  have X10 := hX.2.1.2.1
  have X12 := hX.2.1.2.2.2.1
  have X8 := hX.1.2.2.2.2.2.2.2.2
  have X5 := hX.2.2.2.2.2.2.1
  have bb := hb.2.1
  have b9 := hb.2.2.1
  obtain ⟨s, hs⟩ := Int.eq_ofNat_of_zero_le bb.1
  have s8 : s < 8 := by omega
  have i4 : (18 * (k : Int) + 4).toNat = 18 * k + 4 := by omega
  have i9 : (18 * (k : Int) + 9).toNat = 18 * k + 9 := by omega
  have i11 : (18 * (k : Int) + 11).toNat = 18 * k + 11 := by omega
  have v4 : f fa (18 * k + 4) = vd_I (s : Int) := by rw [hf 4 (by decide), hs]
  have v9 := hf 9 (by decide)
  have v11 := hf 11 (by decide)
  have P78 := fun (d : Nat) (Q : vd_M → (Option Value ⊕ Nat) → Prop) => vd_P78 (d := d) (Q := Q) (q := 1) hM hX h s8 (by decide)
  have P81 := fun (d : Nat) (Q : vd_M → (Option Value ⊕ Nat) → Prop) => vd_P81 (d := d) (Q := Q) (q := 1) hM h s8 (by decide)
  have z1 : ((1 : Nat) : Int) = 1 := rfl
  rw [z1] at P78 P81
  have x5 := X5 (4 * s + 1) (by omega)
  have P58 := fun (a : Int) (h1 : -100000 ≤ a ∧ a ≤ 100000) (d : Nat) (Q : vd_M → (Option Value ⊕ Nat) → Prop) => vd_P58 (f := f) (d := d) (Q := Q) (a := a) (b := 0) (c := 63) hM (by omega) (by omega) (by omega) (by omega) (by omega) (by omega)
  have ftv : vd_ft X s 1 = 0 ∨ vd_ft X s 1 = 1 := by
    unfold vd_ft
    split
    · exact Or.inr rfl
    · exact Or.inl rfl
  have hl1 := vd_lv1_b hX s
  have head : vd_wp (d + 1) 137 0 [.ref 60, .int (vd_I (18 * (k : Int))), vd_U, vd_U, vd_U, vd_U] [] (vd_mf M f) Q = vd_wp (d + 1) 137 69 [.ref 60, .int (vd_I (18 * (k : Int))), .int (vd_I (s : Int)), .int (vd_I (vd_lv1 X s)), (if vd_ft X s 1 = 0 then vd_U else .int (vd_I (X 5 (4 * s + 1)))), vd_U] [] (vd_mf M f) Q := by
    rcases ftv with c | c
    · have e : vd_lv1 X s = X 0 10 := by unfold vd_lv1; rw [if_pos c]
      rw [e, if_pos c]
      simp (disch := omega) only [vd_S137_0 hM, vd_I_add, vd_S137_10 hM, i4, v4, f0, vd_S137_26 hM, P78, c, vd_S137_29 hM, vd_I_toInt, eq_self, if_true, vd_rs_v, vd_rs_n]
    · have c0 : ¬ (vd_ft X s 1 = 0) := by omega
      rw [if_neg c0]
      rcases X8 with c8 | c8
      · have e : vd_lv1 X s = vd_wn (X 0 10 + X 5 (4 * s + 1)) 0 63 := by unfold vd_lv1; rw [if_neg c0, if_pos c8]
        rw [e]
        rw [c8] at f11
        simp (disch := omega) only [vd_S137_0 hM, vd_I_add, vd_S137_10 hM, i4, v4, f0, vd_S137_26 hM, P78, c, vd_S137_29 hM, vd_I_toInt, show ¬ ((1 : Int) = 0) by decide, if_false, vd_S137_32 hM, vd_S137_38 hM, P81, vd_S137_41 hM, f11, eq_self, if_true, vd_S137_58 hM, vd_S137_62 hM, vd_S137_65 hM, P58, vd_S137_68 hM, vd_rs_v, vd_rs_n]
      · have e : vd_lv1 X s = vd_wn (X 5 (4 * s + 1)) 0 63 := by unfold vd_lv1; rw [if_neg c0, if_neg (by omega)]
        rw [e]
        rw [c8] at f11
        simp (disch := omega) only [vd_S137_0 hM, vd_I_add, vd_S137_10 hM, i4, v4, f0, vd_S137_26 hM, P78, c, vd_S137_29 hM, vd_I_toInt, show ¬ ((1 : Int) = 0) by decide, if_false, vd_S137_32 hM, vd_S137_38 hM, P81, vd_S137_41 hM, f11, vd_S137_53 hM, vd_S137_62 hM, vd_S137_65 hM, P58, vd_S137_68 hM, vd_rs_v, vd_rs_n]
  rw [head]
  have ec : (b 4).toNat = s := by rw [hs]; rfl
  unfold vd_lv
  rw [ec]
  generalize vd_lv1 X s = l at *
  generalize (if vd_ft X s 1 = 0 then vd_U else Value.int (vd_I (X 5 (4 * s + 1)))) = a4 at *
  by_cases c12 : X 0 12 = 0
  · rw [if_pos (Or.inl c12)]
    rw [c12] at f2
    simp (disch := omega) only [vd_S137_69 hM, f2, vd_I_toInt, eq_self, if_true, vd_S137_83 hM]
  · by_cases cl : l = 0
    · rw [if_pos (Or.inr cl)]
      simp (disch := omega) only [vd_S137_69 hM, f2, vd_I_toInt, c12, if_false, vd_S137_79 hM, cl, eq_self, if_true, vd_S137_83 hM]
    · rw [if_neg (by omega)]
      have tail : ∀ m : Int, m = 1 ∨ m = 2 → vd_wp (d + 1) 137 96 [.ref 60, .int (vd_I (18 * (k : Int))), .int (vd_I (s : Int)), .int (vd_I l), a4, vd_U] [.int (vd_I m)] (vd_mf M f) Q = Q (vd_mf M f) (.inl (some (.int (vd_I (vd_wn (if b 9 < 0 then l + m * X 7 0 else l + m * X 7 (1 + b 9).toNat + m * X 7 (if b 11 = 0 then 4 else 5)) 0 63))))) := by
        intro m hm
        have m7 : ∀ i, i < 6 → -128 ≤ m * X 7 i ∧ m * X 7 i ≤ 128 := fun i hi => by
          have := X7 i hi
          rcases hm with rfl | rfl <;> omega
        by_cases c9 : b 9 < 0
        · have e9 : 1 + b 9 = 0 := by omega
          have e0 : (1 + b 9).toNat = 0 := by omega
          have v7 := d7 0 (by decide)
          have w7 := m7 0 (by decide)
          rw [if_pos c9]
          simp (disch := omega) only [vd_S137_96 hM, vd_I_add, vd_S137_109 hM, i9, v9, vd_S137_126 hM, e0, v7, vd_I_mul, vd_I_toInt, c9, if_true, vd_S137_169 hM, vd_S137_173 hM, P58, vd_S137_176 hM, vd_rs_v, vd_rs_n]
        · have v7 := d7 (1 + b 9).toNat (by omega)
          have w7 := m7 (1 + b 9).toNat (by omega)
          rw [if_neg c9]
          by_cases c11 : b 11 = 0
          · have v4' := d7 4 (by decide)
            have w4 := m7 4 (by decide)
            rw [if_pos c11]
            simp (disch := omega) only [vd_S137_96 hM, vd_I_add, vd_S137_109 hM, i9, v9, vd_S137_126 hM, v7, vd_I_mul, vd_I_toInt, c9, if_false, vd_S137_135 hM, vd_S137_156 hM, i11, v11, c11, eq_self, if_true, vd_S137_160 hM, vd_S137_165 hM, show (4 : Int).toNat = 4 from rfl, v4', vd_S137_169 hM, vd_S137_173 hM, P58, vd_S137_176 hM, vd_rs_v, vd_rs_n]
          · have v5' := d7 5 (by decide)
            have w5 := m7 5 (by decide)
            rw [if_neg c11]
            simp (disch := omega) only [vd_S137_96 hM, vd_I_add, vd_S137_109 hM, i9, v9, vd_S137_126 hM, v7, vd_I_mul, vd_I_toInt, c9, if_false, vd_S137_135 hM, vd_S137_156 hM, i11, v11, c11, vd_S137_164 hM, vd_S137_165 hM, show (5 : Int).toNat = 5 from rfl, v5', vd_S137_169 hM, vd_S137_173 hM, P58, vd_S137_176 hM, vd_rs_v, vd_rs_n]
      by_cases c32 : l < 32
      · rw [if_pos c32]
        simp (disch := omega) only [vd_S137_69 hM, f2, vd_I_toInt, c12, if_false, vd_S137_79 hM, cl, vd_S137_85 hM, c32, if_true, vd_S137_91 hM, tail 1 (Or.inl rfl)]
      · rw [if_neg c32]
        simp (disch := omega) only [vd_S137_69 hM, f2, vd_I_toInt, c12, if_false, vd_S137_79 hM, cl, vd_S137_85 hM, c32, vd_S137_95 hM, tail 2 (Or.inr rfl)]
theorem vd_P266 (hN : vd_SR N) (hX : vd_XV X) (h : vd_CB X g) {u : Nat} (hu : u < 576) (g96 : g 96 u = vd_I (b 4)) (g90 : g 90 u = vd_I (if b 7 < 0 then 1 else 0)) (g102 : g 102 (2 * u) = vd_I (b 9)) (g100 : g 100 u = vd_I (b 11)) (hb : vd_BV b) (d : Nat) (Q : vd_M → (Option Value ⊕ Nat) → Prop) : vd_wp (d + 1) 266 0 [.ref 63, .int (vd_I (u : Int)), vd_U, vd_U, vd_U] [] (vd_mf N g) Q = Q (vd_mf N g) (.inl (some (.int (vd_I (vd_lv X b))))) := by
  obtain ⟨_, ⟨f36, f37, f38, f13, f43⟩, ⟨f41, f42, f48, f35⟩, _, _, _, d4, d5, _, d7⟩ := id h
  have X7 : ∀ i, i < 6 → -64 ≤ X 7 i ∧ X 7 i ≤ 64 := hX.2.2.2.2.2.2.2.2.2.1
  have X10 := hX.2.1.2.1
  have X12 := hX.2.1.2.2.2.1
  have X8 := hX.1.2.2.2.2.2.2.2.2
  have X5 := hX.2.2.2.2.2.2.1
  have X4 := hX.2.2.2.2.2.1
  have XS := hX.1.2.2.2.2.2.1
  have bb := hb.2.1
  have b9 := hb.2.2.1
  obtain ⟨s, hs⟩ := Int.eq_ofNat_of_zero_le bb.1
  have s8 : s < 8 := by omega
  rw [hs] at g96
  have nu : ((u : Nat) : Int).toNat = u := Int.toNat_natCast u
  have n4 : (4 * (s : Int) + 1).toNat = 4 * s + 1 := by omega
  have n2 : (2 * (u : Int)).toNat = 2 * u := by omega
  have v4 := d4 (4 * s + 1) (by omega)
  have v5 := d5 (4 * s + 1) (by omega) (by omega)
  have x5 := X5 (4 * s + 1) (by omega)
  have x4 := X4 (4 * s + 1) (by omega)
  have P194 := fun (a : Int) (h1 : -100000 ≤ a ∧ a ≤ 100000) (d : Nat) (Q : vd_M → (Option Value ⊕ Nat) → Prop) => vd_P194 (f := g) (d := d) (Q := Q) (a := a) (b := 0) (c := 63) hN (by omega) (by omega) (by omega) (by omega) (by omega) (by omega)
  have hl1 := vd_lv1_b hX s
  have head : vd_wp (d + 1) 266 0 [.ref 63, .int (vd_I (u : Int)), vd_U, vd_U, vd_U] [] (vd_mf N g) Q = vd_wp (d + 1) 266 66 [.ref 63, .int (vd_I (u : Int)), .int (vd_I (vd_lv1 X s)), .int (vd_I (4 * (s : Int) + 1)), vd_U] [] (vd_mf N g) Q := by
    rcases XS with c | c
    · have e : vd_lv1 X s = X 0 10 := by
        have cf : vd_ft X s 1 = 0 := by unfold vd_ft; exact if_neg (by omega)
        unfold vd_lv1
        exact if_pos cf
      rw [e]
      rw [c] at f36
      simp (disch := omega) only [vd_S266_0 hN, f41, vd_S266_11 hN, nu, g96, vd_I_mul, vd_I_add, f36, vd_I_toInt, eq_self, if_true]
    · rcases x4 with c4 | c4
      · have e : vd_lv1 X s = X 0 10 := by
          have cf : vd_ft X s 1 = 0 := by unfold vd_ft; exact if_neg (by omega)
          unfold vd_lv1
          exact if_pos cf
        rw [e]
        rw [c] at f36
        rw [c4] at v4
        simp (disch := omega) only [vd_S266_0 hN, f41, vd_S266_11 hN, nu, g96, vd_I_mul, vd_I_add, f36, vd_I_toInt, show ¬ ((1 : Int) = 0) by decide, if_false, vd_S266_23 hN, vd_S266_28 hN, n4, v4, eq_self, if_true]
      · have cf : ¬ (vd_ft X s 1 = 0) := by
          unfold vd_ft
          rw [if_pos ⟨c, c4⟩]
          decide
        rw [c] at f36
        rw [c4] at v4
        rcases X8 with c8 | c8
        · have e : vd_lv1 X s = vd_wn (X 0 10 + X 5 (4 * s + 1)) 0 63 := by unfold vd_lv1; rw [if_neg cf, if_pos c8]
          rw [e]
          rw [c8] at f13
          simp (disch := omega) only [vd_S266_0 hN, f41, vd_S266_11 hN, nu, g96, vd_I_mul, vd_I_add, f36, vd_I_toInt, show ¬ ((1 : Int) = 0) by decide, if_false, vd_S266_23 hN, vd_S266_28 hN, n4, v4, vd_S266_32 hN, f13, eq_self, if_true, vd_S266_48 hN, vd_S266_57 hN, v5, vd_S266_59 hN, vd_S266_62 hN, P194, vd_S266_65 hN, vd_rs_v, vd_rs_n]
        · have e : vd_lv1 X s = vd_wn (X 5 (4 * s + 1)) 0 63 := by unfold vd_lv1; rw [if_neg cf, if_neg (by omega)]
          rw [e]
          rw [c8] at f13
          simp (disch := omega) only [vd_S266_0 hN, f41, vd_S266_11 hN, nu, g96, vd_I_mul, vd_I_add, f36, vd_I_toInt, show ¬ ((1 : Int) = 0) by decide, if_false, vd_S266_23 hN, vd_S266_28 hN, n4, v4, vd_S266_32 hN, f13, vd_S266_39 hN, vd_S266_44 hN, v5, vd_S266_59 hN, vd_S266_62 hN, P194, vd_S266_65 hN, vd_rs_v, vd_rs_n]
  rw [head]
  have ec : (b 4).toNat = s := by rw [hs]; rfl
  unfold vd_lv
  rw [ec]
  generalize vd_lv1 X s = l at *
  by_cases c12 : X 0 12 = 0
  · rw [if_pos (Or.inl c12)]
    rw [c12] at f48
    simp (disch := omega) only [vd_S266_66 hN, f48, vd_I_toInt, eq_self, if_true, vd_S266_77 hN]
  · by_cases cl : l = 0
    · rw [if_pos (Or.inr cl)]
      simp (disch := omega) only [vd_S266_66 hN, f48, vd_I_toInt, c12, if_false, vd_S266_73 hN, cl, eq_self, if_true, vd_S266_77 hN]
    · rw [if_neg (by omega)]
      have tail : ∀ m : Int, m = 1 ∨ m = 2 → vd_wp (d + 1) 266 90 [.ref 63, .int (vd_I (u : Int)), .int (vd_I l), .int (vd_I (4 * (s : Int) + 1)), vd_U] [.int (vd_I m)] (vd_mf N g) Q = Q (vd_mf N g) (.inl (some (.int (vd_I (vd_wn (if b 9 < 0 then l + m * X 7 0 else l + m * X 7 (1 + b 9).toNat + m * X 7 (if b 11 = 0 then 4 else 5)) 0 63))))) := by
        intro m hm
        have m7 : ∀ i, i < 6 → -128 ≤ m * X 7 i ∧ m * X 7 i ≤ 128 := fun i hi => by
          have := X7 i hi
          rcases hm with rfl | rfl <;> omega
        by_cases c7 : b 7 < 0
        · have c9' := hb.2.2.2.2.2.1 c7
          have c9 : ¬ (b 9 < 0) := by omega
          rw [if_pos c7] at g90
          have v7 := d7 (1 + b 9).toNat (by omega)
          have w7 := m7 (1 + b 9).toNat (by omega)
          rw [if_neg c9]
          by_cases c11 : b 11 = 0
          · have v4' := d7 4 (by decide)
            have w4 := m7 4 (by decide)
            rw [if_pos c11]
            simp (disch := omega) only [vd_S266_90 hN, vd_S266_97 hN, nu, g90, vd_I_toInt, show ¬ ((1 : Int) = 0) by decide, if_false, vd_S266_119 hN, vd_I_mul, vd_S266_134 hN, n2, g102, vd_I_add, vd_S266_136 hN, v7, vd_S266_150 hN, g100, c11, eq_self, if_true, vd_S266_154 hN, vd_S266_159 hN, show (4 : Int).toNat = 4 from rfl, v4', vd_S266_165 hN, P194, vd_S266_168 hN, vd_rs_v, vd_rs_n]
          · have v5' := d7 5 (by decide)
            have w5 := m7 5 (by decide)
            rw [if_neg c11]
            simp (disch := omega) only [vd_S266_90 hN, vd_S266_97 hN, nu, g90, vd_I_toInt, show ¬ ((1 : Int) = 0) by decide, if_false, vd_S266_119 hN, vd_I_mul, vd_S266_134 hN, n2, g102, vd_I_add, vd_S266_136 hN, v7, vd_S266_150 hN, g100, c11, vd_S266_158 hN, vd_S266_159 hN, show (5 : Int).toNat = 5 from rfl, v5', vd_S266_165 hN, P194, vd_S266_168 hN, vd_rs_v, vd_rs_n]
        · have c9 : b 9 < 0 := by have := (hb.2.2.2.2.2.2 (by omega)).1; omega
          rw [if_neg c7] at g90
          have v7 := d7 0 (by decide)
          have w7 := m7 0 (by decide)
          rw [if_pos c9]
          simp (disch := omega) only [vd_S266_90 hN, vd_S266_97 hN, nu, g90, vd_I_toInt, eq_self, if_true, vd_S266_101 hN, vd_S266_109 hN, show (0 : Int).toNat = 0 from rfl, v7, vd_I_mul, vd_I_add, vd_S266_115 hN, P194, vd_S266_118 hN, vd_rs_v, vd_rs_n]
      by_cases c32 : l < 32
      · rw [if_pos c32]
        simp (disch := omega) only [vd_S266_66 hN, f48, vd_I_toInt, c12, if_false, vd_S266_73 hN, cl, vd_S266_79 hN, c32, if_true, vd_S266_85 hN, tail 1 (Or.inl rfl)]
      · rw [if_neg c32]
        simp (disch := omega) only [vd_S266_66 hN, f48, vd_I_toInt, c12, if_false, vd_S266_73 hN, cl, vd_S266_79 hN, c32, vd_S266_89 hN, tail 2 (Or.inr rfl)]
end VDLV
