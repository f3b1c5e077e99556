/-! ===== starting the decoder of bits; models that are changed ===== -/
theorem vd_byte (x : Int32) : ∃ t : Int, x &&& vd_I 255 = vd_I t ∧ 0 ≤ t ∧ t ≤ 255 := by
  obtain ⟨z, rfl, _, _⟩ := vd_I_of x
  exact ⟨z % 256, vd_and255 z, by omega, by omega⟩
def vd_fM (f f' : Nat → Nat → Int32) : Prop := ∀ c i, ¬ (c = 34 ∧ 4 ≤ i) → c ≠ 35 → f' c i = f c i
def vd_gM (g g' : Nat → Nat → Int32) : Prop := ∀ c i, ¬ (c = 63 ∧ 91 ≤ i ∧ i ≤ 94) → c ≠ 80 → g' c i = g c i
theorem vd_fM.refl (f : Nat → Nat → Int32) : vd_fM f f := fun _ _ _ _ => rfl
theorem vd_gM.refl (f : Nat → Nat → Int32) : vd_gM f f := fun _ _ _ _ => rfl
theorem vd_fM.trans {f f' f'' : Nat → Nat → Int32} (h : vd_fM f f') (h' : vd_fM f' f'') : vd_fM f f'' := fun c i q q2 => (h' c i q q2).trans (h c i q q2)
theorem vd_gM.trans {f f' f'' : Nat → Nat → Int32} (h : vd_gM f f') (h' : vd_gM f' f'') : vd_gM f f'' := fun c i q q2 => (h' c i q q2).trans (h c i q q2)
theorem vd_fC.toM {f f' : Nat → Nat → Int32} (h : vd_fC f f') : vd_fM f f' := fun c i q _ => h c i q
theorem vd_gC.toM {f f' : Nat → Nat → Int32} (h : vd_gC f f') : vd_gM f f' := fun c i q _ => h c i q
theorem vd_fM.up {f f' : Nat → Nat → Int32} {i : Nat} {v : Int32} (h : vd_fM f f') : vd_fM f (vd_up f' 35 i v) := fun a j q q2 => by
  rw [vd_up_ne (by omega)]
  exact h a j q q2
theorem vd_gM.up {f f' : Nat → Nat → Int32} {i : Nat} {v : Int32} (h : vd_gM f f') : vd_gM f (vd_up f' 80 i v) := fun a j q q2 => by
  rw [vd_up_ne (by omega)]
  exact h a j q q2
theorem vd_RM.keepC {f f' g g' : Nat → Nat → Int32} (h : vd_RM f g) (hf : vd_fC f f') (hg : vd_gC g g') : vd_RM f' g' := h.keep hf.toD hg.toD
theorem vd_RE.up {n k : Nat} {f g : Nat → Nat → Int32} {v w : Int32} (h : vd_RE n f g) : vd_RE n (vd_up f 35 k v) (vd_up g 80 k w) := by
  refine ⟨fun i hi => ?_, h.2.keepU (fun i _ => ?_) (fun i => ?_) (fun i _ _ => ?_)⟩
  · rw [vd_up_ne (by omega), vd_up_ne (by omega)]
    exact h.1 i hi
  · rw [vd_up_ne (by omega)]
  · rw [vd_up_ne (by omega)]
  · rw [vd_up_ne (by omega)]
theorem vd_RM.up {k : Nat} {f g : Nat → Nat → Int32} {v : Int} (h : vd_RM f g) (v0 : 0 ≤ v) (v1 : v ≤ 255) : vd_RM (vd_up f 35 k (vd_I v)) (vd_up g 80 k (vd_I v)) := fun q hq => by
  by_cases c : q = k
  · subst c
    rw [vd_up_eq, vd_up_eq]
    exact ⟨rfl, v, rfl, v0, v1⟩
  · rw [vd_up_ne (by omega), vd_up_ne (by omega)]
    exact h q hq
theorem vd_RE.mono {n m : Nat} {f g : Nat → Nat → Int32} (h : vd_RE n f g) (hm : n ≤ m) : vd_RE m f g := ⟨h.1, h.2.mono hm⟩
section VDCQ
variable {M N : vd_M} {ow fa lo lf : Nat}
/-- start and code -/
theorem vd_cstart (hM : vd_SC M ow fa lo lf) (hN : vd_SR N) {f g : Nat → Nat → Int32} {a e : Int} (hT : vd_RT f g) (a0 : 0 ≤ a) (a1 : a < e) (e1 : e ≤ 65536) : ∃ (f' g' : Nat → Nat → Int32), (∀ d Q, vd_wp (d + 1) 51 0 [.ref 34, .int (vd_I a), .int (vd_I e)] [] (vd_mf M f) Q = Q (vd_mf M f') (.inl none)) ∧ (∀ d Q, vd_wp (d + 1) 190 0 [.ref 63, .int (vd_I a), .int (vd_I e)] [] (vd_mf N g) Q = Q (vd_mf N g') (.inl none)) ∧ vd_RE 0 f' g' ∧ vd_fC f f' ∧ vd_gC g g' := by
  obtain ⟨t, ht, t0, t1⟩ := vd_byte (f 11 a.toNat)
  have hg : g 64 a.toNat &&& vd_I 255 = vd_I t := by rw [← hT a.toNat (by omega)]; exact ht
  have hF : vd_fC f (vd_up (vd_up (vd_up (vd_up (vd_up f 34 5 (vd_I e)) 34 8 (vd_I 255)) 34 9 (vd_I (min 254 t))) 34 4 (vd_I (a + 1))) 34 7 (vd_I 0)) := (((((vd_fC.refl f).up (by decide)).up (by decide)).up (by decide)).up (by decide)).up (by decide)
  have hG : vd_gC g (vd_up (vd_up (vd_up (vd_up g 63 91 (vd_I 255)) 63 92 (vd_I (min 254 t))) 63 93 (vd_I (8 * a + 8))) 63 94 (vd_I (8 * e))) := ((((vd_gC.refl g).up (by decide) (by decide)).up (by decide) (by decide)).up (by decide) (by decide)).up (by decide) (by decide)
  refine ⟨_, _, fun d Q => ?_, fun d Q => ?_, ⟨hT.keep hF hG, ⟨255, min 254 t, a + 1, e, 0, 8 * a + 8, ?_, by decide, by omega⟩⟩, hF, hG⟩
  · simp (disch := omega) only [vd_S51_0 hM, vd_S51_21 hM, vd_S51_26 hM, vd_S51_29 hM, vd_up_at, vd_ua_at, Nat.reduceEqDiff, Nat.reduceAdd, Nat.reduceMul, and_false, false_and, and_true, true_and, and_self, if_true, if_false, reduceIte, ne_eq, not_false_eq_true, not_true_eq_false, eq_self, ht, vd_P289, vd_rs_v, vd_rs_n, vd_I_add]
  · simp (disch := omega) only [vd_S190_0 hN, vd_S190_13 hN, vd_S190_21 hN, vd_S190_24 hN, vd_up_at, vd_ua_at, Nat.reduceEqDiff, Nat.reduceAdd, Nat.reduceMul, and_false, false_and, and_true, true_and, and_self, if_true, if_false, reduceIte, ne_eq, not_false_eq_true, not_true_eq_false, eq_self, hg, vd_P289, vd_rs_v, vd_rs_n, vd_I_mul, vd_I_add, Int.min_comm t 254]
  · refine ⟨⟨?_, ?_, ?_, ?_, ?_⟩, ⟨?_, ?_, ?_, ?_⟩, ⟨by decide, by decide, by omega, by omega⟩, ⟨by omega, by omega, by omega, by omega, by omega, by omega⟩, Or.inl ⟨by omega, fun q => absurd q (by decide)⟩⟩
    all_goals simp only [vd_up_at, vd_ua_at, Nat.reduceEqDiff, Nat.reduceAdd, Nat.reduceMul, and_false, false_and, and_true, true_and, and_self, if_true, if_false, reduceIte, ne_eq, not_false_eq_true, not_true_eq_false, eq_self]
/-- models that are changed: changeModels and secondHeader's loop -/
theorem vd_chgLoop (hM : vd_SC M ow fa lo lf) (hN : vd_SR N) : ∀ (m n : Nat) (f g : Nat → Nat → Int32) (k : Nat) (a2 : Value), k + m = 2941 → n + 20 * m ≤ 8000000 → vd_RE n f g → vd_RM f g → ∃ (f' g' : Nat → Nat → Int32), (∀ d Q, vd_wp (d + 3) 56 2 [.ref 34, .int (vd_I (k : Int))] [] (vd_mf M f) Q = Q (vd_mf M f') (.inl none)) ∧ (∀ d Q, vd_wp (d + 2) 191 113 [.ref 63, .int (vd_I (k : Int)), a2] [] (vd_mf N g) Q = Q (vd_mf N g') (.inl none)) ∧ vd_RE (n + 20 * m) f' g' ∧ vd_RM f' g' ∧ vd_fM f f' ∧ vd_gM g g' := by
  intro m
  induction m with
  | zero =>
    intro n f g k a2 hk hn h hm
    have hk : k = 2941 := by omega
    subst hk
    refine ⟨f, g, fun d Q => ?_, fun d Q => ?_, h, hm, vd_fM.refl f, vd_gM.refl g⟩
    · simp (disch := omega) only [vd_S56_2 hM, vd_S56_42 hM, vd_I_toInt, show ¬ (((2941 : Nat) : Int) < 2941) by decide, if_false]
    · simp (disch := omega) only [vd_S191_113 hN, vd_S191_223 hN, vd_I_toInt, show ¬ (((2941 : Nat) : Int) < 2941) by decide, if_false]
  | succ m ih =>
    intro n f g k a2 hk hn h hm
    have hk1 : (k : Int) < 2941 := by omega
    have hk2 : ((k + 1 : Nat) : Int) = (k : Int) + 1 := by omega
    obtain ⟨f1, g1, b, q1, q2, q3, q4, q5, q6⟩ := vd_bitE hM hN (p := 252) h (by omega) (by decide) (by decide)
    have hm1 := hm.keepC q5 q6
    by_cases c : b = 0
    · subst c
      obtain ⟨f9, g9, p1, p2, p3, p4, p5, p6⟩ := ih (n + 1) f1 g1 (k + 1) a2 (by omega) (by omega) q4 hm1
      rw [hk2] at p1 p2
      refine ⟨f9, g9, fun d Q => ?_, fun d Q => ?_, p3.mono (by omega), p4, q5.toM.trans p5, q6.toM.trans p6⟩
      · rw [vd_S56_2 hM]
        simp (disch := omega) only [vd_S56_0 hM, vd_S56_9 hM, vd_S56_20 hM, vd_S56_36 hM, vd_S56_42 hM, vd_S56_13 hM, vd_S56_31 hM, vd_S56_16 hM, vd_S56_32 hM, vd_S56_35 hM, vd_I_toInt, hk1, if_true, q1, vd_rs_v, vd_rs_n, show ¬ ((0 : Int) = 1) by decide, if_false, vd_I_add]
        exact p1 d Q
      · rw [vd_S191_113 hN]
        simp (disch := omega) only [vd_S191_0 hN, vd_S191_8 hN, vd_S191_12 hN, vd_S191_17 hN, vd_S191_27 hN, vd_S191_35 hN, vd_S191_49 hN, vd_S191_61 hN, vd_S191_76 hN, vd_S191_91 hN, vd_S191_100 hN, vd_S191_111 hN, vd_S191_120 hN, vd_S191_130 hN, vd_S191_133 hN, vd_S191_142 hN, vd_S191_161 hN, vd_S191_183 hN, vd_S191_201 hN, vd_S191_216 hN, vd_S191_217 hN, vd_S191_223 hN, vd_S191_14 hN, vd_S191_42 hN, vd_S191_66 hN, vd_S191_81 hN, vd_S191_93 hN, vd_S191_104 hN, vd_S191_124 hN, vd_S191_135 hN, vd_S191_151 hN, vd_S191_163 hN, vd_S191_188 hN, vd_S191_206 hN, vd_S191_45 hN, vd_S191_72 hN, vd_S191_87 hN, vd_S191_96 hN, vd_S191_107 hN, vd_S191_127 hN, vd_S191_138 hN, vd_S191_154 hN, vd_S191_166 hN, vd_S191_195 hN, vd_S191_213 hN, vd_S191_157 hN, vd_S191_176 hN, vd_S191_198 hN, vd_S191_179 hN, vd_I_toInt, hk1, if_true, q2, vd_rs_v, vd_rs_n, eq_self, vd_I_add]
        exact p2 d Q
    · have c1 : b = 1 := by omega
      subst c1
      obtain ⟨f2, g2, r, u1, u2, u3, u4, u5, u6, u7⟩ := vd_plainE hM hN (w := 1) (by decide) (by decide) (by simp; omega) q4
      have hm2 := hm1.keepC u6 u7
      have u4 : r < 2 := u4
      by_cases c2 : r = 1
      · subst c2
        obtain ⟨f3, g3, v, w1, w2, w3, w4, w5, w6, w7⟩ := vd_plainE hM hN (w := 8) (by decide) (by decide) (by simp; omega) u5
        have hm3 := hm2.keepC w6 w7
        have w4 : v < 256 := w4
        obtain ⟨f9, g9, p1, p2, p3, p4, p5, p6⟩ := ih (n + 1 + 1 + 8) (vd_up f3 35 k (vd_I (max 1 v))) (vd_up g3 80 k (vd_I (max 1 v))) (k + 1) a2 (by omega) (by omega) (vd_RE.up w5) (hm3.up (by omega) (by omega))
        rw [hk2] at p1 p2
        refine ⟨f9, g9, fun d Q => ?_, fun d Q => ?_, p3.mono (by omega), p4, (((q5.toM.trans u6.toM).trans w6.toM).up).trans p5, (((q6.toM.trans u7.toM).trans w7.toM).up).trans p6⟩
        · rw [vd_S56_2 hM]
          simp (disch := omega) only [vd_S56_0 hM, vd_S56_9 hM, vd_S56_20 hM, vd_S56_36 hM, vd_S56_42 hM, vd_S56_13 hM, vd_S56_31 hM, vd_S56_16 hM, vd_S56_32 hM, vd_S56_35 hM, vd_S57_0 hM, vd_S57_9 hM, vd_S57_20 hM, vd_S57_37 hM, vd_S57_43 hM, vd_S57_46 hM, vd_S57_2 hM, vd_S57_13 hM, vd_S57_22 hM, vd_S57_50 hM, vd_S57_5 hM, vd_S57_16 hM, vd_S57_25 hM, vd_S57_53 hM, vd_S57_19 hM, vd_S57_30 hM, vd_S57_33 hM, vd_I_toInt, hk1, if_true, q1, u1, w1, vd_P287, vd_rs_v, vd_rs_n, eq_self, vd_I_add, Int.toNat_natCast]
          exact p1 d Q
        · rw [vd_S191_113 hN]
          simp (disch := omega) only [vd_S191_0 hN, vd_S191_8 hN, vd_S191_12 hN, vd_S191_17 hN, vd_S191_27 hN, vd_S191_35 hN, vd_S191_49 hN, vd_S191_61 hN, vd_S191_76 hN, vd_S191_91 hN, vd_S191_100 hN, vd_S191_111 hN, vd_S191_120 hN, vd_S191_130 hN, vd_S191_133 hN, vd_S191_142 hN, vd_S191_161 hN, vd_S191_183 hN, vd_S191_201 hN, vd_S191_216 hN, vd_S191_217 hN, vd_S191_223 hN, vd_S191_14 hN, vd_S191_42 hN, vd_S191_66 hN, vd_S191_81 hN, vd_S191_93 hN, vd_S191_104 hN, vd_S191_124 hN, vd_S191_135 hN, vd_S191_151 hN, vd_S191_163 hN, vd_S191_188 hN, vd_S191_206 hN, vd_S191_45 hN, vd_S191_72 hN, vd_S191_87 hN, vd_S191_96 hN, vd_S191_107 hN, vd_S191_127 hN, vd_S191_138 hN, vd_S191_154 hN, vd_S191_166 hN, vd_S191_195 hN, vd_S191_213 hN, vd_S191_157 hN, vd_S191_176 hN, vd_S191_198 hN, vd_S191_179 hN, vd_I_toInt, hk1, if_true, q2, u2, w2, vd_P287, vd_rs_v, vd_rs_n, eq_self, show ¬ ((1 : Int) = 0) by decide, if_false, vd_I_add, Int.toNat_natCast]
          exact p2 d Q
      · obtain ⟨f3, g3, v, w1, w2, w3, w4, w5, w6, w7⟩ := vd_plainE hM hN (w := 4) (by decide) (by decide) (by simp; omega) u5
        have hm3 := hm2.keepC w6 w7
        have w4 : v < 16 := w4
        obtain ⟨f4, g4, t, y1, y2, y3, y4, y5, y6, y7⟩ := vd_plainE hM hN (w := 1) (by decide) (by decide) (by simp; omega) w5
        have hm4 := hm3.keepC y6 y7
        have y4 : t < 2 := y4
        obtain ⟨hz, z, z1, z2, z3⟩ := hm4 k (by omega)
        have hf : f 35 k = vd_I z := by
          rw [← z1, y6 35 k (by omega), w6 35 k (by omega), u6 35 k (by omega), q5 35 k (by omega)]
        have hf1 : f1 35 k = vd_I z := by rw [q5 35 k (by omega)]; exact hf
        have hg4 : g4 80 k = vd_I z := by rw [← hz]; exact z1
        have hb : ∀ x, 1 ≤ vd_wn x 1 255 ∧ vd_wn x 1 255 ≤ 255 := fun x => vd_wn_b (by decide)
        by_cases c3 : t = 1
        · subst c3
          have hbb := hb (z - (v + 1))
          obtain ⟨f9, g9, p1, p2, p3, p4, p5, p6⟩ := ih (n + 1 + 1 + 4 + 1) (vd_up f4 35 k (vd_I (vd_wn (z - (v + 1)) 1 255))) (vd_up g4 80 k (vd_I (vd_wn (z - (v + 1)) 1 255))) (k + 1) (.int (vd_I (v + 1))) (by omega) (by omega) (vd_RE.up y5) (hm4.up (by omega) (by omega))
          rw [hk2] at p1 p2
          refine ⟨f9, g9, fun d Q => ?_, fun d Q => ?_, p3.mono (by omega), p4, ((((q5.toM.trans u6.toM).trans w6.toM).trans y6.toM).up).trans p5, ((((q6.toM.trans u7.toM).trans w7.toM).trans y7.toM).up).trans p6⟩
          · rw [vd_S56_2 hM]
            simp (disch := omega) only [vd_S56_0 hM, vd_S56_9 hM, vd_S56_20 hM, vd_S56_36 hM, vd_S56_42 hM, vd_S56_13 hM, vd_S56_31 hM, vd_S56_16 hM, vd_S56_32 hM, vd_S56_35 hM, vd_S57_0 hM, vd_S57_9 hM, vd_S57_20 hM, vd_S57_37 hM, vd_S57_43 hM, vd_S57_46 hM, vd_S57_2 hM, vd_S57_13 hM, vd_S57_22 hM, vd_S57_50 hM, vd_S57_5 hM, vd_S57_16 hM, vd_S57_25 hM, vd_S57_53 hM, vd_S57_19 hM, vd_S57_30 hM, vd_S57_33 hM, vd_I_toInt, hk1, if_true, q1, u1, w1, y1, hf1, c2, vd_P58 hM, vd_rs_v, vd_rs_n, eq_self, if_false, vd_I_add, vd_I_sub, Int.toNat_natCast]
            exact p1 d Q
          · rw [vd_S191_113 hN]
            simp (disch := omega) only [vd_S191_0 hN, vd_S191_8 hN, vd_S191_12 hN, vd_S191_17 hN, vd_S191_27 hN, vd_S191_35 hN, vd_S191_49 hN, vd_S191_61 hN, vd_S191_76 hN, vd_S191_91 hN, vd_S191_100 hN, vd_S191_111 hN, vd_S191_120 hN, vd_S191_130 hN, vd_S191_133 hN, vd_S191_142 hN, vd_S191_161 hN, vd_S191_183 hN, vd_S191_201 hN, vd_S191_216 hN, vd_S191_217 hN, vd_S191_223 hN, vd_S191_14 hN, vd_S191_42 hN, vd_S191_66 hN, vd_S191_81 hN, vd_S191_93 hN, vd_S191_104 hN, vd_S191_124 hN, vd_S191_135 hN, vd_S191_151 hN, vd_S191_163 hN, vd_S191_188 hN, vd_S191_206 hN, vd_S191_45 hN, vd_S191_72 hN, vd_S191_87 hN, vd_S191_96 hN, vd_S191_107 hN, vd_S191_127 hN, vd_S191_138 hN, vd_S191_154 hN, vd_S191_166 hN, vd_S191_195 hN, vd_S191_213 hN, vd_S191_157 hN, vd_S191_176 hN, vd_S191_198 hN, vd_S191_179 hN, vd_I_toInt, hk1, if_true, q2, u2, w2, y2, hg4, c2, vd_P194 hN, vd_rs_v, vd_rs_n, eq_self, show ¬ ((1 : Int) = 0) by decide, if_false, vd_I_add, vd_I_sub, Int.toNat_natCast]
            exact p2 d Q
        · have hbb := hb (z + (v + 1))
          obtain ⟨f9, g9, p1, p2, p3, p4, p5, p6⟩ := ih (n + 1 + 1 + 4 + 1) (vd_up f4 35 k (vd_I (vd_wn (z + (v + 1)) 1 255))) (vd_up g4 80 k (vd_I (vd_wn (z + (v + 1)) 1 255))) (k + 1) (.int (vd_I (v + 1))) (by omega) (by omega) (vd_RE.up y5) (hm4.up (by omega) (by omega))
          rw [hk2] at p1 p2
          refine ⟨f9, g9, fun d Q => ?_, fun d Q => ?_, p3.mono (by omega), p4, ((((q5.toM.trans u6.toM).trans w6.toM).trans y6.toM).up).trans p5, ((((q6.toM.trans u7.toM).trans w7.toM).trans y7.toM).up).trans p6⟩
          · rw [vd_S56_2 hM]
            simp (disch := omega) only [vd_S56_0 hM, vd_S56_9 hM, vd_S56_20 hM, vd_S56_36 hM, vd_S56_42 hM, vd_S56_13 hM, vd_S56_31 hM, vd_S56_16 hM, vd_S56_32 hM, vd_S56_35 hM, vd_S57_0 hM, vd_S57_9 hM, vd_S57_20 hM, vd_S57_37 hM, vd_S57_43 hM, vd_S57_46 hM, vd_S57_2 hM, vd_S57_13 hM, vd_S57_22 hM, vd_S57_50 hM, vd_S57_5 hM, vd_S57_16 hM, vd_S57_25 hM, vd_S57_53 hM, vd_S57_19 hM, vd_S57_30 hM, vd_S57_33 hM, vd_I_toInt, hk1, if_true, q1, u1, w1, y1, hf1, c2, c3, vd_P58 hM, vd_rs_v, vd_rs_n, eq_self, if_false, vd_I_add, vd_I_sub, Int.toNat_natCast]
            exact p1 d Q
          · rw [vd_S191_113 hN]
            simp (disch := omega) only [vd_S191_0 hN, vd_S191_8 hN, vd_S191_12 hN, vd_S191_17 hN, vd_S191_27 hN, vd_S191_35 hN, vd_S191_49 hN, vd_S191_61 hN, vd_S191_76 hN, vd_S191_91 hN, vd_S191_100 hN, vd_S191_111 hN, vd_S191_120 hN, vd_S191_130 hN, vd_S191_133 hN, vd_S191_142 hN, vd_S191_161 hN, vd_S191_183 hN, vd_S191_201 hN, vd_S191_216 hN, vd_S191_217 hN, vd_S191_223 hN, vd_S191_14 hN, vd_S191_42 hN, vd_S191_66 hN, vd_S191_81 hN, vd_S191_93 hN, vd_S191_104 hN, vd_S191_124 hN, vd_S191_135 hN, vd_S191_151 hN, vd_S191_163 hN, vd_S191_188 hN, vd_S191_206 hN, vd_S191_45 hN, vd_S191_72 hN, vd_S191_87 hN, vd_S191_96 hN, vd_S191_107 hN, vd_S191_127 hN, vd_S191_138 hN, vd_S191_154 hN, vd_S191_166 hN, vd_S191_195 hN, vd_S191_213 hN, vd_S191_157 hN, vd_S191_176 hN, vd_S191_198 hN, vd_S191_179 hN, vd_I_toInt, hk1, if_true, q2, u2, w2, y2, hg4, c2, c3, vd_P194 hN, vd_rs_v, vd_rs_n, eq_self, show ¬ ((1 : Int) = 0) by decide, if_false, vd_I_add, vd_I_sub, Int.toNat_natCast]
            exact p2 d Q
end VDCQ
