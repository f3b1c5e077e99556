/-! ===== the decoder of bits: class and reference ===== -/
/-- the tapes are alike -/
def vd_RT (f g : Nat → Nat → Int32) : Prop := ∀ i, i < 65536 → f 11 i = g 64 i
/-- the bits that are held -/
def vd_HB (f : Nat → Nat → Int32) (nx lm hb cb : Int) : Prop := (cb = 8 * nx - hb ∧ (0 < hb → f 34 6 = f 11 (nx - 1).toNat &&& vd_I 255)) ∨ (nx = lm ∧ 8 * lm ≤ cb ∧ (0 < hb → f 34 6 = vd_I 0))
def vd_RL (R V nx lm hb cb : Int) (f g : Nat → Nat → Int32) : Prop :=
  (f 34 8 = vd_I R ∧ f 34 9 = vd_I V ∧ f 34 4 = vd_I nx ∧ f 34 5 = vd_I lm ∧ f 34 7 = vd_I hb) ∧ (g 63 91 = vd_I R ∧ g 63 92 = vd_I V ∧ g 63 93 = vd_I cb ∧ g 63 94 = vd_I (8 * lm)) ∧ (1 ≤ R ∧ R ≤ 255 ∧ 0 ≤ V ∧ V < R) ∧ (0 ≤ nx ∧ nx ≤ lm ∧ lm ≤ 65536 ∧ 0 ≤ hb ∧ hb ≤ 7 ∧ 0 ≤ cb) ∧ vd_HB f nx lm hb cb
/-- what a bit may change -/
def vd_fC (f f' : Nat → Nat → Int32) : Prop := ∀ c i, ¬ (c = 34 ∧ 4 ≤ i) → f' c i = f c i
def vd_gC (g g' : Nat → Nat → Int32) : Prop := ∀ c i, ¬ (c = 63 ∧ 91 ≤ i ∧ i ≤ 94) → g' c i = g c i
theorem vd_fC.refl (f : Nat → Nat → Int32) : vd_fC f f := fun _ _ _ => rfl
theorem vd_gC.refl (f : Nat → Nat → Int32) : vd_gC f f := fun _ _ _ => rfl
theorem vd_fC.trans {f f' f'' : Nat → Nat → Int32} (h : vd_fC f f') (h' : vd_fC f' f'') : vd_fC f f'' := fun c i q => (h' c i q).trans (h c i q)
theorem vd_gC.trans {f f' f'' : Nat → Nat → Int32} (h : vd_gC f f') (h' : vd_gC f' f'') : vd_gC f f'' := fun c i q => (h' c i q).trans (h c i q)
theorem vd_fC.up {f f' : Nat → Nat → Int32} {i : Nat} {v : Int32} (h : vd_fC f f') (hi : 4 ≤ i) : vd_fC f (vd_up f' 34 i v) := fun c j q => by
  rw [vd_up_ne (by omega)]
  exact h c j q
theorem vd_gC.up {f f' : Nat → Nat → Int32} {i : Nat} {v : Int32} (h : vd_gC f f') (hi : 91 ≤ i) (hi2 : i ≤ 94) : vd_gC f (vd_up f' 63 i v) := fun c j q => by
  rw [vd_up_ne (by omega)]
  exact h c j q
theorem vd_RT.keep {f f' g g' : Nat → Nat → Int32} (h : vd_RT f g) (hf : vd_fC f f') (hg : vd_gC g g') : vd_RT f' g' := fun i hi => by
  rw [hf 11 i (by omega), hg 64 i (by omega)]
  exact h i hi
theorem vd_b01 (x : Int32) : ∃ b : Int, x &&& vd_I 1 = vd_I b ∧ 0 ≤ b ∧ b ≤ 1 := by
  obtain ⟨z, rfl, _, _⟩ := vd_I_of x
  exact ⟨z % 2, vd_and1 z, by omega, by omega⟩
theorem vd_held' (x : Int32) {j : Int} (h0 : 0 ≤ j) (h : j < 8) : ((x &&& vd_I 255) >>> (vd_I j &&& 31)) &&& vd_I 1 = (x >>> (vd_I j &&& 31)) &&& vd_I 1 := by
  obtain ⟨n, rfl⟩ := Int.eq_ofNat_of_zero_le h0
  have e1 : vd_I 255 = (255 : Int32) := by decide
  have e2 : vd_I 1 = (1 : Int32) := by decide
  rw [e1, e2]
  exact vd_held x (by omega)
theorem vd_zero_sh {j : Int} (h0 : 0 ≤ j) (h : j < 8) : (vd_I 0 >>> (vd_I j &&& 31)) &&& vd_I 1 = vd_I 0 := by
  have e : vd_I 0 = (0 : Int32) := by decide
  rw [e, Int32.zero_shiftRight, Int32.zero_and]
section VDCO
variable {M N : vd_M} {ow fa lo lf : Nat}
/-- one more bit is taken in -/
theorem vd_bitStep (hM : vd_SC M ow fa lo lf) (hN : vd_SR N) {f g : Nat → Nat → Int32} {R V nx lm hb cb : Int} (hT : vd_RT f g) (h : vd_RL R V nx lm hb cb f g) (hR : R < 128) (hcb : cb < 1000000000) : ∃ f' g' V' nx' hb', (∀ x1 x2 x3 x4 d Q, vd_wp d 55 81 [.ref 34, .int x1, .int x2, .int x3, .int x4] [] (vd_mf M f) Q = vd_wp d 55 64 [.ref 34, .int x1, .int x2, .int x3, .int (x4 + vd_I 1)] [] (vd_mf M f') Q) ∧ (∀ x1 x2 x3 d Q, vd_wp d 193 71 [.ref 63, .int x1, .int x2, .int x3] [] (vd_mf N g) Q = vd_wp d 193 61 [.ref 63, .int x1, .int x2, .int x3] [] (vd_mf N g') Q) ∧ vd_RL (2 * R) V' nx' lm hb' (cb + 1) f' g' ∧ vd_fC f f' ∧ vd_gC g g' := by
  obtain ⟨⟨e1, e2, e3, e4, e5⟩, ⟨g1, g2, g3, g4⟩, ⟨r1, r2, r3, r4⟩, ⟨b1, b2, b3, b4, b5, b6⟩, hh⟩ := h
  by_cases c1 : hb = 0
  · subst c1
    by_cases c2 : nx < lm
    · have hc : cb = 8 * nx := by rcases hh with ⟨q, _⟩ | ⟨q, _⟩ <;> omega
      subst hc
      obtain ⟨b, hb1, hb2, hb3⟩ := vd_b01 (f 11 nx.toNat >>> (vd_I 7 &&& 31))
      have ht : g 64 nx.toNat = f 11 nx.toNat := (hT nx.toNat (by omega)).symm
      refine ⟨?_, ?_, 2 * V + b, nx + 1, 7, fun x1 x2 x3 x4 d Q => ?_, fun x1 x2 x3 d Q => ?_, ?_, ?_, ?_⟩
      rotate_left 2
      · simp (disch := omega) only [vd_S55_0 hM, vd_S55_23 hM, vd_S55_27 hM, vd_S55_28 hM, vd_S55_33 hM, vd_S55_41 hM, vd_S55_61 hM, vd_S55_71 hM, vd_S55_81 hM, vd_S55_88 hM, vd_S55_104 hM, vd_S55_131 hM, vd_S55_137 hM, vd_S55_185 hM, vd_S55_113 hM, vd_up_at, vd_ua_at, Nat.reduceEqDiff, Nat.reduceAdd, Nat.reduceMul, and_false, false_and, and_true, true_and, and_self, if_true, if_false, reduceIte, ne_eq, not_false_eq_true, not_true_eq_false, eq_self, e3, e4, e5, vd_I_add, vd_I_sub, vd_I_mul, vd_I_neg, vd_I_toInt, c2, if_true, eq_self]
        rfl
      · simp (disch := omega) only [vd_S193_0 hN, vd_S193_23 hN, vd_S193_27 hN, vd_S193_28 hN, vd_S193_33 hN, vd_S193_41 hN, vd_S193_71 hN, vd_S193_99 hN, vd_S193_127 hN, vd_S193_128 hN, vd_S193_145 hN, vd_S193_110 hN, g3, g4, vd_I_add, vd_I_sub, vd_I_mul, vd_I_neg, vd_I_toInt, vd_I_div, show 8 * nx < 8 * lm by omega, if_true, vd_up_at, vd_ua_at, Nat.reduceEqDiff, Nat.reduceAdd, Nat.reduceMul, and_false, false_and, and_true, true_and, and_self, if_true, if_false, reduceIte, ne_eq, not_false_eq_true, not_true_eq_false, eq_self, show 8 * nx / 8 = nx by omega, show (8 * nx - nx * 8 : Int) = 0 by omega, show (7 - 0 : Int) = 7 by decide, ht]
        rfl
      · refine ⟨⟨?_, ?_, ?_, ?_, ?_⟩, ⟨?_, ?_, ?_, ?_⟩, ⟨by omega, by omega, by omega, by omega⟩, ⟨by omega, by omega, by omega, by omega, by omega, by omega⟩, Or.inl ⟨by omega, fun _ => ?_⟩⟩
        all_goals simp only [vd_up_at, vd_ua_at, Nat.reduceEqDiff, Nat.reduceAdd, Nat.reduceMul, and_false, false_and, and_true, true_and, and_self, if_true, if_false, reduceIte, ne_eq, not_false_eq_true, not_true_eq_false, eq_self, e1, e2, e3, e4, e5, g1, g2, g3, g4, vd_I_add, vd_I_sub, vd_I_mul, vd_I_neg, vd_I_toInt, vd_held' _ (show (0 : Int) ≤ 7 by decide) (show (7 : Int) < 8 by decide), hb1, show (8 - 1 : Int) = 7 by decide, show nx + 1 - 1 = nx by omega]
        all_goals (congr 1; omega)
      · exact ((((((vd_fC.refl f).up (by decide)).up (by decide)).up (by decide)).up (by decide)).up (by decide) |>.up (by decide)).up (by decide)
      · exact (((vd_gC.refl g).up (by decide) (by decide)).up (by decide) (by decide)).up (by decide) (by decide)
    · have hl : nx = lm := by omega
      have hc : 8 * lm ≤ cb := by rcases hh with ⟨q, _⟩ | ⟨_, q, _⟩ <;> omega
      refine ⟨?_, ?_, 2 * V, nx, 7, fun x1 x2 x3 x4 d Q => ?_, fun x1 x2 x3 d Q => ?_, ?_, ?_, ?_⟩
      rotate_left 2
      · simp (disch := omega) only [vd_S55_0 hM, vd_S55_23 hM, vd_S55_27 hM, vd_S55_28 hM, vd_S55_33 hM, vd_S55_41 hM, vd_S55_61 hM, vd_S55_71 hM, vd_S55_81 hM, vd_S55_88 hM, vd_S55_104 hM, vd_S55_131 hM, vd_S55_137 hM, vd_S55_185 hM, vd_S55_113 hM, vd_up_at, vd_ua_at, Nat.reduceEqDiff, Nat.reduceAdd, Nat.reduceMul, and_false, false_and, and_true, true_and, and_self, if_true, if_false, reduceIte, ne_eq, not_false_eq_true, not_true_eq_false, eq_self, e3, e4, e5, vd_I_add, vd_I_sub, vd_I_mul, vd_I_neg, vd_I_toInt, c2, if_true, if_false, eq_self]
        rfl
      · simp (disch := omega) only [vd_S193_0 hN, vd_S193_23 hN, vd_S193_27 hN, vd_S193_28 hN, vd_S193_33 hN, vd_S193_41 hN, vd_S193_71 hN, vd_S193_99 hN, vd_S193_127 hN, vd_S193_128 hN, vd_S193_145 hN, vd_S193_110 hN, g3, g4, vd_I_add, vd_I_sub, vd_I_mul, vd_I_neg, vd_I_toInt, show ¬ cb < 8 * lm by omega, if_true, if_false]
        rfl
      · refine ⟨⟨?_, ?_, ?_, ?_, ?_⟩, ⟨?_, ?_, ?_, ?_⟩, ⟨by omega, by omega, by omega, by omega⟩, ⟨by omega, by omega, by omega, by omega, by omega, by omega⟩, Or.inr ⟨hl, by omega, fun _ => ?_⟩⟩
        all_goals simp only [vd_up_at, vd_ua_at, Nat.reduceEqDiff, Nat.reduceAdd, Nat.reduceMul, and_false, false_and, and_true, true_and, and_self, if_true, if_false, reduceIte, ne_eq, not_false_eq_true, not_true_eq_false, eq_self, e1, e2, e3, e4, e5, g1, g2, g3, g4, vd_I_add, vd_I_sub, vd_I_mul, vd_I_neg, vd_I_toInt, show (8 - 1 : Int) = 7 by decide, vd_zero_sh (show (0 : Int) ≤ 7 by decide) (show (7 : Int) < 8 by decide)]
        all_goals (congr 1; omega)
      · exact (((((vd_fC.refl f).up (by decide)).up (by decide)).up (by decide)).up (by decide)).up (by decide)
      · exact (((vd_gC.refl g).up (by decide) (by decide)).up (by decide) (by decide)).up (by decide) (by decide)
  · have e5' : ¬ hb = 0 := c1
    rcases hh with ⟨q, hq⟩ | ⟨q, q2, hq⟩
    · have hq := hq (by omega)
      subst q
      obtain ⟨b, hb1, hb2, hb3⟩ := vd_b01 (f 11 (nx - 1).toNat >>> (vd_I (hb - 1) &&& 31))
      have ht : g 64 (nx - 1).toNat = f 11 (nx - 1).toNat := (hT (nx - 1).toNat (by omega)).symm
      refine ⟨?_, ?_, 2 * V + b, nx, hb - 1, fun x1 x2 x3 x4 d Q => ?_, fun x1 x2 x3 d Q => ?_, ?_, ?_, ?_⟩
      rotate_left 2
      · simp (disch := omega) only [vd_S55_0 hM, vd_S55_23 hM, vd_S55_27 hM, vd_S55_28 hM, vd_S55_33 hM, vd_S55_41 hM, vd_S55_61 hM, vd_S55_71 hM, vd_S55_81 hM, vd_S55_88 hM, vd_S55_104 hM, vd_S55_131 hM, vd_S55_137 hM, vd_S55_185 hM, vd_S55_113 hM, e5, vd_I_add, vd_I_sub, vd_I_mul, vd_I_neg, vd_I_toInt, e5', if_true, if_false]
        rfl
      · simp (disch := omega) only [vd_S193_0 hN, vd_S193_23 hN, vd_S193_27 hN, vd_S193_28 hN, vd_S193_33 hN, vd_S193_41 hN, vd_S193_71 hN, vd_S193_99 hN, vd_S193_127 hN, vd_S193_128 hN, vd_S193_145 hN, vd_S193_110 hN, g3, g4, vd_I_add, vd_I_sub, vd_I_mul, vd_I_neg, vd_I_toInt, vd_I_div, show 8 * nx - hb < 8 * lm by omega, if_true, vd_up_at, vd_ua_at, Nat.reduceEqDiff, Nat.reduceAdd, Nat.reduceMul, and_false, false_and, and_true, true_and, and_self, if_true, if_false, reduceIte, ne_eq, not_false_eq_true, not_true_eq_false, eq_self, show (8 * nx - hb) / 8 = nx - 1 by omega, show 7 - (8 * nx - hb - (nx - 1) * 8 : Int) = hb - 1 by omega, ht]
        rfl
      · refine ⟨⟨?_, ?_, ?_, ?_, ?_⟩, ⟨?_, ?_, ?_, ?_⟩, ⟨by omega, by omega, by omega, by omega⟩, ⟨by omega, by omega, by omega, by omega, by omega, by omega⟩, Or.inl ⟨by omega, fun _ => ?_⟩⟩
        all_goals simp only [vd_up_at, vd_ua_at, Nat.reduceEqDiff, Nat.reduceAdd, Nat.reduceMul, and_false, false_and, and_true, true_and, and_self, if_true, if_false, reduceIte, ne_eq, not_false_eq_true, not_true_eq_false, eq_self, e1, e2, e3, e4, e5, g1, g2, g3, g4, vd_I_add, vd_I_sub, vd_I_mul, vd_I_neg, vd_I_toInt, hq, vd_held' _ (show 0 ≤ hb - 1 by omega) (show hb - 1 < 8 by omega), hb1]
        all_goals (congr 1; omega)
      · exact ((vd_fC.refl f).up (by decide)).up (by decide) |>.up (by decide)
      · exact (((vd_gC.refl g).up (by decide) (by decide)).up (by decide) (by decide)).up (by decide) (by decide)
    · have hq := hq (by omega)
      refine ⟨?_, ?_, 2 * V, nx, hb - 1, fun x1 x2 x3 x4 d Q => ?_, fun x1 x2 x3 d Q => ?_, ?_, ?_, ?_⟩
      rotate_left 2
      · simp (disch := omega) only [vd_S55_0 hM, vd_S55_23 hM, vd_S55_27 hM, vd_S55_28 hM, vd_S55_33 hM, vd_S55_41 hM, vd_S55_61 hM, vd_S55_71 hM, vd_S55_81 hM, vd_S55_88 hM, vd_S55_104 hM, vd_S55_131 hM, vd_S55_137 hM, vd_S55_185 hM, vd_S55_113 hM, e5, vd_I_add, vd_I_sub, vd_I_mul, vd_I_neg, vd_I_toInt, e5', if_true, if_false]
        rfl
      · simp (disch := omega) only [vd_S193_0 hN, vd_S193_23 hN, vd_S193_27 hN, vd_S193_28 hN, vd_S193_33 hN, vd_S193_41 hN, vd_S193_71 hN, vd_S193_99 hN, vd_S193_127 hN, vd_S193_128 hN, vd_S193_145 hN, vd_S193_110 hN, g3, g4, vd_I_add, vd_I_sub, vd_I_mul, vd_I_neg, vd_I_toInt, show ¬ cb < 8 * lm by omega, if_true, if_false]
        rfl
      · refine ⟨⟨?_, ?_, ?_, ?_, ?_⟩, ⟨?_, ?_, ?_, ?_⟩, ⟨by omega, by omega, by omega, by omega⟩, ⟨by omega, by omega, by omega, by omega, by omega, by omega⟩, Or.inr ⟨q, by omega, fun _ => ?_⟩⟩
        all_goals simp only [vd_up_at, vd_ua_at, Nat.reduceEqDiff, Nat.reduceAdd, Nat.reduceMul, and_false, false_and, and_true, true_and, and_self, if_true, if_false, reduceIte, ne_eq, not_false_eq_true, not_true_eq_false, eq_self, e1, e2, e3, e4, e5, g1, g2, g3, g4, vd_I_add, vd_I_sub, vd_I_mul, vd_I_neg, vd_I_toInt, hq, vd_zero_sh (show 0 ≤ hb - 1 by omega) (show hb - 1 < 8 by omega)]
        all_goals (congr 1; omega)
      · exact ((vd_fC.refl f).up (by decide)).up (by decide) |>.up (by decide)
      · exact (((vd_gC.refl g).up (by decide) (by decide)).up (by decide) (by decide)).up (by decide) (by decide)
/-- the loop behind a bit -/
theorem vd_bitLoop (hM : vd_SC M ow fa lo lf) (hN : vd_SR N) : ∀ (m j : Nat) (f g : Nat → Nat → Int32) (R V nx lm hb cb : Int), j + m = 7 → ((2 ^ j : Nat) : Int) ≤ R → cb + m < 1000000000 → vd_RT f g → vd_RL R V nx lm hb cb f g → ∃ f' g' R' V' nx' hb' cb', (∀ x1 x2 x3 d Q, vd_wp d 55 64 [.ref 34, .int x1, .int x2, .int x3, .int (vd_I (j : Int))] [] (vd_mf M f) Q = Q (vd_mf M f') (.inl (some (.int x3)))) ∧ (∀ x1 x2 x3 d Q, vd_wp d 193 61 [.ref 63, .int x1, .int x2, .int x3] [] (vd_mf N g) Q = Q (vd_mf N g') (.inl (some (.int x3)))) ∧ vd_RL R' V' nx' lm hb' cb' f' g' ∧ 128 ≤ R' ∧ cb' ≤ cb + m ∧ vd_fC f f' ∧ vd_gC g g' := by
  intro m
  induction m with
  | zero =>
    intro j f g R V nx lm hb cb hj hp hcb hT h
    have hj : j = 7 := by omega
    subst hj
    have hR : ¬ R < 128 := by
      have : ((2 ^ 7 : Nat) : Int) = 128 := by decide
      omega
    have h' := h
    obtain ⟨⟨e1, _⟩, ⟨g1, _⟩, ⟨r1, r2, _⟩, _⟩ := h'
    refine ⟨f, g, R, V, nx, hb, cb, fun x1 x2 x3 d Q => ?_, fun x1 x2 x3 d Q => ?_, h, by omega, by omega, vd_fC.refl f, vd_gC.refl g⟩
    · simp (disch := omega) only [vd_S55_64 hM, vd_S55_71 hM, vd_S55_185 hM, e1, vd_I_toInt, hR, if_false, show ((7 : Nat) : Int) < 8 by decide, if_true]
    · simp (disch := omega) only [vd_S193_61 hN, vd_S193_145 hN, g1, vd_I_toInt, hR, if_false]
  | succ m ih =>
    intro j f g R V nx lm hb cb hj hp hcb hT h
    have h' := h
    obtain ⟨⟨e1, _⟩, ⟨g1, _⟩, ⟨r1, r2, _⟩, _⟩ := h'
    have hj8 : (j : Int) < 8 := by omega
    by_cases hR : R < 128
    · obtain ⟨f1, g1', V1, nx1, hb1, q1, q2, q3, q4, q5⟩ := vd_bitStep hM hN hT h hR (by omega)
      have hp2 : ((2 ^ (j + 1) : Nat) : Int) ≤ 2 * R := by
        have : (2 ^ (j + 1) : Nat) = 2 ^ j * 2 := Nat.pow_succ 2 j
        omega
      obtain ⟨f2, g2, R2, V2, nx2, hb2, cb2, p1, p2, p3, p4, p5, p6, p7⟩ := ih (j + 1) f1 g1' (2 * R) V1 nx1 lm hb1 (cb + 1) (by omega) hp2 (by omega) (hT.keep q4 q5) q3
      refine ⟨f2, g2, R2, V2, nx2, hb2, cb2, fun x1 x2 x3 d Q => ?_, fun x1 x2 x3 d Q => ?_, p3, p4, by omega, q4.trans p6, q5.trans p7⟩
      · have e := p1 x1 x2 x3 d Q
        simp only [show (((j + 1 : Nat)) : Int) = (j : Int) + 1 by omega] at e
        rw [vd_S55_64 hM]
        simp (disch := omega) only [vd_S55_71 hM, e1, vd_I_toInt, hR, hj8, if_true, q1, vd_I_add]
        exact e
      · rw [vd_S193_61 hN]
        simp (disch := omega) only [g1, vd_I_toInt, hR, if_true, q2]
        exact p2 x1 x2 x3 d Q
    · refine ⟨f, g, R, V, nx, hb, cb, fun x1 x2 x3 d Q => ?_, fun x1 x2 x3 d Q => ?_, h, by omega, by omega, vd_fC.refl f, vd_gC.refl g⟩
      · simp (disch := omega) only [vd_S55_64 hM, vd_S55_71 hM, vd_S55_185 hM, e1, vd_I_toInt, hR, if_false, hj8, if_true]
      · simp (disch := omega) only [vd_S193_61 hN, vd_S193_145 hN, g1, vd_I_toInt, hR, if_false]
/-- the decoders of bits stand alike; n bits at most were read -/
def vd_RC (n : Nat) (f g : Nat → Nat → Int32) : Prop := ∃ R V nx lm hb cb : Int, vd_RL R V nx lm hb cb f g ∧ 128 ≤ R ∧ cb ≤ 524296 + 8 * (n : Int)
theorem vd_RC.mono {n m : Nat} {f g : Nat → Nat → Int32} (h : vd_RC n f g) (hm : n ≤ m) : vd_RC m f g := by
  obtain ⟨R, V, nx, lm, hb, cb, h1, h2, h3⟩ := h
  exact ⟨R, V, nx, lm, hb, cb, h1, h2, by omega⟩
/-- bit and b -/
theorem vd_bit (hM : vd_SC M ow fa lo lf) (hN : vd_SR N) {n : Nat} {f g : Nat → Nat → Int32} {p : Int} (hT : vd_RT f g) (h : vd_RC n f g) (hn : n ≤ 8000000) (p0 : 0 ≤ p) (p1 : p ≤ 255) : ∃ (f' g' : Nat → Nat → Int32) (b : Int), (∀ d Q, vd_wp d 55 0 [.ref 34, .int (vd_I p), vd_U, vd_U, vd_U] [] (vd_mf M f) Q = Q (vd_mf M f') (.inl (some (.int (vd_I b))))) ∧ (∀ d Q, vd_wp d 193 0 [.ref 63, .int (vd_I p), vd_U, vd_U] [] (vd_mf N g) Q = Q (vd_mf N g') (.inl (some (.int (vd_I b))))) ∧ (b = 0 ∨ b = 1) ∧ vd_RC (n + 1) f' g' ∧ vd_fC f f' ∧ vd_gC g g' := by
  obtain ⟨R, V, nx, lm, hb, cb, h, hR, hcb⟩ := h
  have h' := h
  obtain ⟨⟨e1, e2, e3, e4, e5⟩, ⟨g1, g2, g3, g4⟩, ⟨r1, r2, r3, r4⟩, ⟨b1, b2, b3, b4, b5, b6⟩, hh⟩ := h'
  have k0 : 0 ≤ (R - 1) * p := Int.mul_nonneg (by omega) p0
  have k1 : (R - 1) * p ≤ (R - 1) * 255 := Int.mul_le_mul_of_nonneg_left p1 (by omega)
  have k2 : 0 ≤ (R - 1) * p / 256 := by omega
  have k3 : (R - 1) * p / 256 ≤ R - 2 := by omega
  generalize hs : 1 + (R - 1) * p / 256 = s at *
  have s1 : 1 ≤ s := by omega
  have s2 : s ≤ R - 1 := by omega
  by_cases c : V < s
  · have hL : vd_RL s V nx lm hb cb (vd_up f 34 8 (vd_I s)) (vd_up g 63 91 (vd_I s)) := by
      refine ⟨⟨?_, ?_, ?_, ?_, ?_⟩, ⟨?_, ?_, ?_, ?_⟩, ⟨by omega, by omega, by omega, by omega⟩, ⟨by omega, by omega, by omega, by omega, by omega, by omega⟩, ?_⟩
      all_goals first
        | (simp only [vd_up_at, vd_ua_at, Nat.reduceEqDiff, Nat.reduceAdd, Nat.reduceMul, and_false, false_and, and_true, true_and, and_self, if_true, if_false, reduceIte, ne_eq, not_false_eq_true, not_true_eq_false, eq_self, e1, e2, e3, e4, e5, g1, g2, g3, g4]; done)
        | (simp only [vd_HB, vd_up_at, vd_ua_at, Nat.reduceEqDiff, Nat.reduceAdd, Nat.reduceMul, and_false, false_and, and_true, true_and, and_self, if_true, if_false, reduceIte, ne_eq, not_false_eq_true, not_true_eq_false, eq_self]; exact hh)
    obtain ⟨f2, g2', R2, V2, nx2, hb2, cb2, p1', p2', p3', p4', p5', p6', p7'⟩ := vd_bitLoop hM hN 7 0 _ _ s V nx lm hb cb rfl (by simpa using s1) (by omega) (hT.keep ((vd_fC.refl f).up (by decide)) ((vd_gC.refl g).up (by decide) (by decide))) hL
    refine ⟨f2, g2', 0, fun d Q => ?_, fun d Q => ?_, Or.inl rfl, ⟨R2, V2, nx2, lm, hb2, cb2, p3', p4', by omega⟩, ((vd_fC.refl f).up (by decide)).trans p6', ((vd_gC.refl g).up (by decide) (by decide)).trans p7'⟩
    · simp (disch := omega) only [vd_S55_0 hM, vd_S55_23 hM, vd_S55_27 hM, vd_S55_28 hM, vd_S55_33 hM, vd_S55_41 hM, vd_S55_61 hM, vd_S55_71 hM, vd_S55_81 hM, vd_S55_88 hM, vd_S55_104 hM, vd_S55_131 hM, vd_S55_137 hM, vd_S55_185 hM, vd_S55_113 hM, e1, e2, vd_I_sub, vd_I_mul, vd_I_div, vd_I_add, hs, vd_I_toInt, c, if_true, eq_self]
      exact p1' _ _ _ d Q
    · simp (disch := omega) only [vd_S193_0 hN, vd_S193_23 hN, vd_S193_27 hN, vd_S193_28 hN, vd_S193_33 hN, vd_S193_41 hN, vd_S193_71 hN, vd_S193_99 hN, vd_S193_127 hN, vd_S193_128 hN, vd_S193_145 hN, vd_S193_110 hN, g1, g2, vd_I_sub, vd_I_mul, vd_I_div, vd_I_add, hs, vd_I_toInt, c, if_true, eq_self]
      exact p2' _ _ _ d Q
  · have hs1 : 1 ≤ R - s := by omega
    have hL : vd_RL (R - s) (V - s) nx lm hb cb (vd_up (vd_up f 34 8 (vd_I (R - s))) 34 9 (vd_I (V - s))) (vd_up (vd_up g 63 91 (vd_I (R - s))) 63 92 (vd_I (V - s))) := by
      refine ⟨⟨?_, ?_, ?_, ?_, ?_⟩, ⟨?_, ?_, ?_, ?_⟩, ⟨by omega, by omega, by omega, by omega⟩, ⟨by omega, by omega, by omega, by omega, by omega, by omega⟩, ?_⟩
      all_goals first
        | (simp only [vd_up_at, vd_ua_at, Nat.reduceEqDiff, Nat.reduceAdd, Nat.reduceMul, and_false, false_and, and_true, true_and, and_self, if_true, if_false, reduceIte, ne_eq, not_false_eq_true, not_true_eq_false, eq_self, e1, e2, e3, e4, e5, g1, g2, g3, g4]; done)
        | (simp only [vd_HB, vd_up_at, vd_ua_at, Nat.reduceEqDiff, Nat.reduceAdd, Nat.reduceMul, and_false, false_and, and_true, true_and, and_self, if_true, if_false, reduceIte, ne_eq, not_false_eq_true, not_true_eq_false, eq_self]; exact hh)
    obtain ⟨f2, g2', R2, V2, nx2, hb2, cb2, p1', p2', p3', p4', p5', p6', p7'⟩ := vd_bitLoop hM hN 7 0 _ _ (R - s) (V - s) nx lm hb cb rfl (by simpa using hs1) (by omega) (hT.keep (((vd_fC.refl f).up (by decide)).up (by decide)) (((vd_gC.refl g).up (by decide) (by decide)).up (by decide) (by decide))) hL
    refine ⟨f2, g2', 1, fun d Q => ?_, fun d Q => ?_, Or.inr rfl, ⟨R2, V2, nx2, lm, hb2, cb2, p3', p4', by omega⟩, (((vd_fC.refl f).up (by decide)).up (by decide)).trans p6', (((vd_gC.refl g).up (by decide) (by decide)).up (by decide) (by decide)).trans p7'⟩
    · simp (disch := omega) only [vd_S55_0 hM, vd_S55_23 hM, vd_S55_27 hM, vd_S55_28 hM, vd_S55_33 hM, vd_S55_41 hM, vd_S55_61 hM, vd_S55_71 hM, vd_S55_81 hM, vd_S55_88 hM, vd_S55_104 hM, vd_S55_131 hM, vd_S55_137 hM, vd_S55_185 hM, vd_S55_113 hM, e1, e2, vd_I_sub, vd_I_mul, vd_I_div, vd_I_add, hs, vd_I_toInt, c, if_true, if_false, show ¬ ((1 : Int) = 0) by decide]
      exact p1' _ _ _ d Q
    · simp (disch := omega) only [vd_S193_0 hN, vd_S193_23 hN, vd_S193_27 hN, vd_S193_28 hN, vd_S193_33 hN, vd_S193_41 hN, vd_S193_71 hN, vd_S193_99 hN, vd_S193_127 hN, vd_S193_128 hN, vd_S193_145 hN, vd_S193_110 hN, g1, g2, vd_I_sub, vd_I_mul, vd_I_div, vd_I_add, hs, vd_I_toInt, c, if_true, if_false, show ¬ ((1 : Int) = 0) by decide]
      exact p2' _ _ _ d Q
end VDCO
