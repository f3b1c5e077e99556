/-! ===== a block's segment ===== -/
def vd_fB (fa : Nat) (f f' : Nat → Nat → Int32) : Prop := ∀ c i, c ≠ 34 → c ≠ 36 → c ≠ fa → c ≠ 42 → c ≠ 44 → c ≠ 54 → c ≠ 56 → f' c i = f c i
def vd_gB (g g' : Nat → Nat → Int32) : Prop := ∀ c i, ¬ (c = 63 ∧ (i = 46 ∨ (91 ≤ i ∧ i ≤ 94) ∨ (103 ≤ i ∧ i ≤ 128))) → c ≠ 72 → c ≠ 81 → c ≠ 82 → ¬ (117 ≤ c ∧ c ≤ 121) → g' c i = g c i
theorem vd_fB.refl (fa : Nat) (f : Nat → Nat → Int32) : vd_fB fa f f := fun _ _ _ _ _ _ _ _ _ => rfl
theorem vd_gB.refl (f : Nat → Nat → Int32) : vd_gB f f := fun _ _ _ _ _ _ _ => rfl
theorem vd_fB.trans {fa : Nat} {f f' f'' : Nat → Nat → Int32} (h : vd_fB fa f f') (h' : vd_fB fa f' f'') : vd_fB fa f f'' := fun c i q1 q2 q3 q4 q5 q6 q7 => (h' c i q1 q2 q3 q4 q5 q6 q7).trans (h c i q1 q2 q3 q4 q5 q6 q7)
theorem vd_gB.trans {f f' f'' : Nat → Nat → Int32} (h : vd_gB f f') (h' : vd_gB f' f'') : vd_gB f f'' := fun c i q1 q2 q3 q4 q5 => (h' c i q1 q2 q3 q4 q5).trans (h c i q1 q2 q3 q4 q5)
theorem vd_fD.toB {fa : Nat} {f f' : Nat → Nat → Int32} (h : vd_fD f f') : vd_fB fa f f' := fun c i q1 q2 _ _ _ _ _ => h c i (by omega) q2
theorem vd_gD.toB {f f' : Nat → Nat → Int32} (h : vd_gD f f') : vd_gB f f' := fun c i q1 q2 q3 q4 q5 => h c i (by omega) q3 q4
theorem vd_fB.up {fa : Nat} {f f' : Nat → Nat → Int32} {c i : Nat} {v : Int32} (h : vd_fB fa f f') (hc : c = 34 ∨ c = 36 ∨ c = fa ∨ c = 42 ∨ c = 44 ∨ c = 54 ∨ c = 56) : vd_fB fa f (vd_up f' c i v) := fun a j q1 q2 q3 q4 q5 q6 q7 => by
  rw [vd_up_ne (by omega)]
  exact h a j q1 q2 q3 q4 q5 q6 q7
theorem vd_gB.up {f f' : Nat → Nat → Int32} {c i : Nat} {v : Int32} (h : vd_gB f f') (hc : (c = 63 ∧ (i = 46 ∨ (91 ≤ i ∧ i ≤ 94) ∨ (103 ≤ i ∧ i ≤ 128))) ∨ c = 72 ∨ c = 81 ∨ c = 82 ∨ (117 ≤ c ∧ c ≤ 121)) : vd_gB f (vd_up f' c i v) := fun a j q1 q2 q3 q4 q5 => by
  rw [vd_up_ne (by omega)]
  exact h a j q1 q2 q3 q4 q5
/-- the facts of the block in work that bits leave alone -/
theorem vd_fD.cur {M : vd_M} {ow fa lo lf : Nat} {f f' : Nat → Nat → Int32} (hM : vd_SC M ow fa lo lf) (h : vd_fD f f') (i : Nat) : f' fa i = f fa i := by
  have hp := vd_par_ne hM
  exact h fa i (by omega) (by omega)
theorem vd_gD.cur {g g' : Nat → Nat → Int32} (h : vd_gD g g') {i : Nat} (hi : 95 ≤ i) : g' 63 i = g 63 i := h 63 i (by omega) (by decide) (by decide)
section VDSE
variable {M N : vd_M} {ow fa lo lf : Nat} {X : Nat → Nat → Int}
/-- readTree -/
theorem vd_tree (hM : vd_SC M ow fa lo lf) (hN : vd_SR N) {n : Nat} {f g : Nat → Nat → Int32} (hr : vd_RD n f g) (hn : n + 3 ≤ 8000000) (hX : vd_XV X) (h6 : X 0 6 = 1) (hA : vd_CA X f) (hB : vd_CB X g) : ∃ (f' g' : Nat → Nat → Int32) (hi mi s : Int), (∀ d Q, vd_wp (d + 1) 75 0 [.ref 44, vd_U, vd_U, vd_U] [] (vd_mf M f) Q = Q (vd_mf M f') (.inl (some (.int (vd_I s))))) ∧ (∀ a1 a2 a3 d Q, vd_wp (d + 1) 199 179 [.ref 63, .int a1, .int a2, a3] [] (vd_mf N g) Q = vd_wp (d + 1) 199 231 [.ref 63, .int a1, .int (vd_I hi), .int (vd_I mi)] [] (vd_mf N (vd_up g' 63 103 (vd_I s))) Q) ∧ (0 ≤ s ∧ s ≤ 7) ∧ vd_RD (n + 3) f' g' ∧ vd_fD f f' ∧ vd_gD g g' := by
  have tA := hA.2.2.2.2.2.1 h6
  have tB := hB.2.2.2.2.1 h6
  have tX := hX.2.2.2.1
  have x0 := tX 0 (by decide)
  obtain ⟨f1, g1, b1, p1, p2, p3, p4, p5, p6⟩ := vd_bitD hM hN (p := X 2 0) hr (by omega) x0.1 x0.2
  have e1 : ∀ i, i < 7 → f1 23 i = vd_I (X 2 i) := fun i hi => by rw [p5 23 i (by omega)]; exact tA i hi
  have g1' : ∀ i, i < 7 → g1 86 i = vd_I (X 2 i) := fun i hi => by rw [p6 86 i (by omega)]; exact tB i hi
  have x1 := tX (1 + b1).toNat (by omega)
  obtain ⟨f2, g2, b2, q1, q2, q3, q4, q5, q6⟩ := vd_bitD hM hN (p := X 2 (1 + b1).toNat) p4 (by omega) x1.1 x1.2
  have e2 : ∀ i, i < 7 → f2 23 i = vd_I (X 2 i) := fun i hi => by rw [q5 23 i (by omega)]; exact e1 i hi
  have g2' : ∀ i, i < 7 → g2 86 i = vd_I (X 2 i) := fun i hi => by rw [q6 86 i (by omega)]; exact g1' i hi
  have x2 := tX (3 + 2 * b1 + b2).toNat (by omega)
  obtain ⟨f3, g3, b3, r1, r2, r3, r4, r5, r6⟩ := vd_bitD hM hN (p := X 2 (3 + 2 * b1 + b2).toNat) q4 (by omega) x2.1 x2.2
  have i0 : (0 : Int).toNat = 0 := rfl
  refine ⟨f3, g3, b1, b2, 4 * b1 + 2 * b2 + b3, fun d Q => ?_, fun a1 a2 a3 d Q => ?_, by omega, r4, (p5.toD.trans q5.toD).trans r5.toD, (p6.toD.trans q6.toD).trans r6.toD⟩
  · simp (disch := omega) only [vd_S75_0 hM, vd_S75_12 hM, vd_S75_13 hM, vd_S75_16 hM, vd_S75_31 hM, vd_S75_32 hM, vd_S75_35 hM, vd_S75_54 hM, vd_S75_55 hM, vd_S75_58 hM, i0, tA 0 (by decide), p1, vd_rs_v, vd_rs_n, vd_I_add, vd_I_mul, e1 (1 + b1).toNat (by omega), q1, e2 (3 + 2 * b1 + b2).toNat (by omega), r1]
  · simp (disch := omega) only [vd_S199_179 hN, vd_S199_185 hN, vd_S199_186 hN, vd_S199_189 hN, vd_S199_198 hN, vd_S199_199 hN, vd_S199_202 hN, vd_S199_223 hN, vd_S199_224 hN, vd_S199_227 hN, i0, tB 0 (by decide), p2, vd_rs_v, vd_rs_n, vd_I_add, vd_I_mul, g1' (1 + b1).toNat (by omega), q2, g2' (3 + 2 * b1 + b2).toNat (by omega), r2]
end VDSE
