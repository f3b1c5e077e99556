/-! ===== what a frame's headers have told: X, the same for both sides ===== -/
/-- X 0: still, transformMode, doubles, fine, kernel, inUse, mapTold, guessed, absolute, base, level, sharp, extrasCount, lossless; X 1: sides; X 2: tree; X 3: guesses; X 4: set; X 5: values; X 6: deltas; X 7: extras -/
def vd_XV (X : Nat → Nat → Int) : Prop :=
  ((X 0 0 = 0 ∨ X 0 0 = 1) ∧ (0 ≤ X 0 1 ∧ X 0 1 ≤ 4) ∧ (0 ≤ X 0 2 ∧ X 0 2 ≤ 2) ∧ (X 0 3 = 0 ∨ X 0 3 = 1) ∧ (0 ≤ X 0 4 ∧ X 0 4 ≤ 2) ∧ (X 0 5 = 0 ∨ X 0 5 = 1) ∧ (X 0 6 = 0 ∨ X 0 6 = 1) ∧ (X 0 7 = 0 ∨ X 0 7 = 1) ∧ (X 0 8 = 0 ∨ X 0 8 = 1)) ∧ ((0 ≤ X 0 9 ∧ X 0 9 ≤ 255) ∧ (0 ≤ X 0 10 ∧ X 0 10 ≤ 63) ∧ (0 ≤ X 0 11 ∧ X 0 11 ≤ 7) ∧ (X 0 12 = 0 ∨ X 0 12 = 1) ∧ (X 0 13 = 0 ∨ X 0 13 = 1)) ∧
  (∀ i, i < 3 → X 1 i = 0 ∨ X 1 i = 1) ∧ (∀ i, i < 7 → 0 ≤ X 2 i ∧ X 2 i ≤ 255) ∧ (∀ i, i < 3 → 0 ≤ X 3 i ∧ X 3 i ≤ 255) ∧ (∀ i, i < 32 → X 4 i = 0 ∨ X 4 i = 1) ∧ (∀ i, i < 32 → -256 ≤ X 5 i ∧ X 5 i ≤ 256) ∧ (∀ s, s < 8 → 0 ≤ X 5 (4 * s + 2) ∧ X 5 (4 * s + 2) ≤ 3) ∧ (∀ i, i < 3 → -16 ≤ X 6 i ∧ X 6 i ≤ 16) ∧ (∀ i, i < 6 → -64 ≤ X 7 i ∧ X 7 i ≤ 64) ∧ (X 0 13 = 1 ↔ X 0 9 = 0 ∧ X 6 0 = 0 ∧ X 6 1 = 0 ∧ X 6 2 = 0) ∧ (X 0 13 = 1 → X 0 1 = 0)
def vd_CA (X : Nat → Nat → Int) (f : Nat → Nat → Int32) : Prop :=
  (∃ kd : Int, f 17 4 = vd_I kd ∧ 0 ≤ kd ∧ kd ≤ 2 ∧ (kd = 2 ↔ X 0 0 = 0)) ∧ (f 17 17 = vd_I (X 0 1) ∧ f 17 18 = vd_I (if X 0 2 = 0 then 0 else 1) ∧ f 17 19 = vd_I (if X 0 2 = 2 then 1 else 0) ∧ (X 0 0 = 0 → f 17 10 = vd_I (X 0 3)) ∧ (X 0 0 = 0 → f 17 11 = vd_I (X 0 4))) ∧ (f 20 6 = vd_I (X 0 5) ∧ f 20 7 = vd_I (X 0 6) ∧ f 20 8 = vd_I (X 0 7) ∧ f 20 11 = vd_I (X 0 8) ∧ f 20 4 = vd_I (X 0 9)) ∧ (f 20 0 = vd_I (X 0 10) ∧ f 20 1 = vd_I (X 0 11) ∧ f 20 2 = vd_I (X 0 12)) ∧ (X 0 0 = 0 → ∀ i, i < 3 → f 19 i = vd_I (X 1 i)) ∧ (X 0 6 = 1 → ∀ i, i < 7 → f 23 i = vd_I (X 2 i)) ∧ (X 0 7 = 1 → ∀ i, i < 3 → f 24 i = vd_I (X 3 i)) ∧ (∀ i, i < 32 → f 25 i = vd_I (X 4 i)) ∧ (∀ i, i < 32 → i % 4 ≠ 3 → f 26 i = vd_I (X 5 i)) ∧ (∀ i, i < 3 → f 22 i = vd_I (X 6 i)) ∧ (∀ i, i < 6 → f 21 i = vd_I (X 7 i))
def vd_CB (X : Nat → Nat → Int) (g : Nat → Nat → Int32) : Prop :=
  (g 63 33 = vd_I (X 0 0) ∧ g 63 44 = vd_I (X 0 1) ∧ g 63 45 = vd_I (X 0 2) ∧ (X 0 0 = 0 → g 63 34 = vd_I (X 0 3)) ∧ (X 0 0 = 0 → g 63 40 = vd_I (X 0 4))) ∧ (g 63 36 = vd_I (X 0 5) ∧ g 63 37 = vd_I (X 0 6) ∧ g 63 38 = vd_I (X 0 7) ∧ g 63 13 = vd_I (X 0 8) ∧ g 63 43 = vd_I (X 0 9)) ∧ (g 63 41 = vd_I (X 0 10) ∧ g 63 42 = vd_I (X 0 11) ∧ g 63 48 = vd_I (X 0 12) ∧ g 63 35 = vd_I (X 0 13)) ∧ (X 0 0 = 0 → ∀ i, i < 3 → g 84 i = vd_I (X 1 i)) ∧ (X 0 6 = 1 → ∀ i, i < 7 → g 86 i = vd_I (X 2 i)) ∧ (X 0 7 = 1 → ∀ i, i < 3 → g 87 i = vd_I (X 3 i)) ∧ (∀ i, i < 32 → g 74 i = vd_I (X 4 i)) ∧ (∀ i, i < 32 → i % 4 ≠ 3 → g 75 i = vd_I (X 5 i)) ∧ (∀ i, i < 3 → g 85 i = vd_I (X 6 i)) ∧ (∀ i, i < 6 → g 73 i = vd_I (X 7 i))
/-- what the class's and the reference's contexts rest on -/
theorem vd_CA.keep {X : Nat → Nat → Int} {f f' : Nat → Nat → Int32} (h : vd_CA X f) (hf : ∀ c i, 17 ≤ c → c ≤ 26 → f' c i = f c i) : vd_CA X f' := by
  obtain ⟨⟨kd, h1, h2, h3, h4⟩, ⟨a1, a2, a3, a4, a5⟩, ⟨b1, b2, b3, b4, b5⟩, ⟨c1, c2, c3⟩, d1, d2, d3, d4, d5, d6, d7⟩ := h
  refine ⟨⟨kd, ?_, h2, h3, h4⟩, ⟨?_, ?_, ?_, fun q => ?_, fun q => ?_⟩, ⟨?_, ?_, ?_, ?_, ?_⟩, ⟨?_, ?_, ?_⟩, fun q i hi => ?_, fun q i hi => ?_, fun q i hi => ?_, fun i hi => ?_, fun i hi q => ?_, fun i hi => ?_, fun i hi => ?_⟩ <;> rw [hf _ _ (by decide) (by decide)]
  all_goals first
    | assumption
    | exact a4 q
    | exact a5 q
    | exact d1 q i hi
    | exact d2 q i hi
    | exact d3 q i hi
    | exact d4 i hi
    | exact d5 i hi q
    | exact d6 i hi
    | exact d7 i hi
def vd_inB (c i : Nat) : Prop := (c = 63 ∧ (i = 13 ∨ (33 ≤ i ∧ i ≤ 45 ∧ i ≠ 39) ∨ i = 48)) ∨ c = 73 ∨ c = 74 ∨ c = 75 ∨ (84 ≤ c ∧ c ≤ 87)
theorem vd_CB.keep {X : Nat → Nat → Int} {g g' : Nat → Nat → Int32} (h : vd_CB X g) (hf : ∀ c i, vd_inB c i → g' c i = g c i) : vd_CB X g' := by
  obtain ⟨⟨a1, a2, a3, a4, a5⟩, ⟨b1, b2, b3, b4, b5⟩, ⟨c1, c2, c3, c4⟩, d1, d2, d3, d4, d5, d6, d7⟩ := h
  refine ⟨⟨?_, ?_, ?_, fun q => ?_, fun q => ?_⟩, ⟨?_, ?_, ?_, ?_, ?_⟩, ⟨?_, ?_, ?_, ?_⟩, fun q i hi => ?_, fun q i hi => ?_, fun q i hi => ?_, fun i hi => ?_, fun i hi q => ?_, fun i hi => ?_, fun i hi => ?_⟩ <;> rw [hf _ _ (by unfold vd_inB; omega)]
  all_goals first
    | assumption
    | exact a4 q
    | exact a5 q
    | exact d1 q i hi
    | exact d2 q i hi
    | exact d3 q i hi
    | exact d4 i hi
    | exact d5 i hi q
    | exact d6 i hi
    | exact d7 i hi
/-- a segment has a feature -/
def vd_ft (X : Nat → Nat → Int) (s q : Nat) : Int := if X 0 5 = 1 ∧ X 4 (4 * s + q) = 1 then 1 else 0
theorem vd_ft_b (X : Nat → Nat → Int) (s q : Nat) : vd_ft X s q = 0 ∨ vd_ft X s q = 1 := by
  unfold vd_ft
  split
  · exact Or.inr rfl
  · exact Or.inl rfl
section VDCX
variable {M N : vd_M} {ow fa lo lf : Nat} {X : Nat → Nat → Int} {f g : Nat → Nat → Int32} {d : Nat} {Q : vd_M → (Option Value ⊕ Nat) → Prop} {s q : Nat}
theorem vd_P33 (hM : vd_SC M ow fa lo lf) (hX : vd_XV X) (h : vd_CA X f) : vd_wp d 33 0 [.ref 17] [] (vd_mf M f) Q = Q (vd_mf M f) (.inl (some (.int (vd_I (X 0 0))))) := by
  obtain ⟨⟨kd, h1, h2, h3, h4⟩, _⟩ := h
  have hx := hX.1.1
  by_cases c : kd = 2
  · have e := h4.mp c
    simp (disch := first | decide | omega) only [vd_S33_0 hM, vd_S33_8 hM, vd_S33_12 hM, vd_S33_13 hM, h1, vd_I_toInt, c, eq_self, if_true, e, vd_rok0]
  · have e : X 0 0 = 1 := by
      rcases hx with hx | hx
      · exact absurd (h4.mpr hx) c
      · exact hx
    simp (disch := first | decide | omega) only [vd_S33_0 hM, vd_S33_8 hM, vd_S33_12 hM, vd_S33_13 hM, h1, vd_I_toInt, c, if_false, e, vd_rok1]
theorem vd_P78 (hM : vd_SC M ow fa lo lf) (hX : vd_XV X) (h : vd_CA X f) (hs : s < 8) (hq : q < 4) : vd_wp d 78 0 [.ref 20, .int (vd_I (s : Int)), .int (vd_I (q : Int))] [] (vd_mf M f) Q = Q (vd_mf M f) (.inl (some (.int (vd_I (vd_ft X s q))))) := by
  obtain ⟨_, _, ⟨b1, _⟩, _, _, _, _, d4, _⟩ := h
  have hx := hX.1.2.2.2.2.2.1
  have e := d4 (4 * s + q) (by omega)
  have hy := hX.2.2.2.2.2.1 (4 * s + q) (by omega)
  have ei : ((s : Int) * 4 + (q : Int)).toNat = 4 * s + q := by omega
  unfold vd_ft
  rcases hx with hx | hx
  · simp (disch := first | decide | omega) only [vd_S78_0 hM, vd_S78_7 hM, vd_S78_21 hM, vd_S78_25 hM, vd_S78_26 hM, vd_S78_16 hM, b1, hx, vd_I_toInt, eq_self, if_true, show ¬ ((0 : Int) = 1) by decide, false_and, if_false, vd_rok0]
  · rcases hy with hy | hy
    · simp (disch := first | decide | omega) only [vd_S78_0 hM, vd_S78_7 hM, vd_S78_21 hM, vd_S78_25 hM, vd_S78_26 hM, vd_S78_16 hM, b1, hx, vd_I_toInt, show ¬ ((1 : Int) = 0) by decide, if_false, vd_I_mul, vd_I_add, ei, e, hy, show ¬ ((0 : Int) = 1) by decide, and_false, vd_rok0]
    · simp (disch := first | decide | omega) only [vd_S78_0 hM, vd_S78_7 hM, vd_S78_21 hM, vd_S78_25 hM, vd_S78_26 hM, vd_S78_16 hM, b1, hx, vd_I_toInt, show ¬ ((1 : Int) = 0) by decide, if_false, vd_I_mul, vd_I_add, ei, e, hy, eq_self, and_self, if_true, vd_rok1]
theorem vd_P81 (hM : vd_SC M ow fa lo lf) (h : vd_CA X f) (hs : s < 8) (hq : q < 3) : vd_wp d 81 0 [.ref 20, .int (vd_I (s : Int)), .int (vd_I (q : Int))] [] (vd_mf M f) Q = Q (vd_mf M f) (.inl (some (.int (vd_I (X 5 (4 * s + q)))))) := by
  obtain ⟨_, _, _, _, _, _, _, _, d5, _⟩ := h
  have e := d5 (4 * s + q) (by omega) (by omega)
  have ei : ((s : Int) * 4 + (q : Int)).toNat = 4 * s + q := by omega
  simp (disch := omega) only [vd_S81_0 hM, vd_S81_9 hM, vd_I_mul, vd_I_add, ei, e]
theorem vd_P201 (hN : vd_SR N) (hX : vd_XV X) (h : vd_CB X g) (hg : g 63 103 = vd_I (s : Int)) (hs : s < 8) (hq : q < 4) : vd_wp d 201 0 [.ref 63, .int (vd_I (q : Int))] [] (vd_mf N g) Q = Q (vd_mf N g) (.inl (some (.int (vd_I (vd_ft X s q))))) := by
  obtain ⟨_, ⟨b1, _⟩, _, _, _, _, d4, _⟩ := h
  have hx := hX.1.2.2.2.2.2.1
  have e := d4 (4 * s + q) (by omega)
  have hy := hX.2.2.2.2.2.1 (4 * s + q) (by omega)
  have ei : (4 * (s : Int) + (q : Int)).toNat = 4 * s + q := by omega
  unfold vd_ft
  rcases hx with hx | hx
  · simp (disch := first | decide | omega) only [vd_S201_0 hN, vd_S201_7 hN, vd_S201_23 hN, vd_S201_27 hN, vd_S201_28 hN, vd_S201_19 hN, b1, hx, vd_I_toInt, eq_self, if_true, show ¬ ((0 : Int) = 1) by decide, false_and, if_false, vd_rok0]
  · rcases hy with hy | hy
    · simp (disch := first | decide | omega) only [vd_S201_0 hN, vd_S201_7 hN, vd_S201_23 hN, vd_S201_27 hN, vd_S201_28 hN, vd_S201_19 hN, b1, hg, hx, vd_I_toInt, show ¬ ((1 : Int) = 0) by decide, if_false, vd_I_mul, vd_I_add, ei, e, hy, eq_self, if_true, show ¬ ((0 : Int) = 1) by decide, and_false, vd_rok0]
    · simp (disch := first | decide | omega) only [vd_S201_0 hN, vd_S201_7 hN, vd_S201_23 hN, vd_S201_27 hN, vd_S201_28 hN, vd_S201_19 hN, b1, hg, hx, vd_I_toInt, show ¬ ((1 : Int) = 0) by decide, if_false, vd_I_mul, vd_I_add, ei, e, hy, eq_self, and_self, if_true, vd_rok1]
end VDCX
