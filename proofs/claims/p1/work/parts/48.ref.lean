/-! ===== single calls of the reference on a fresh object ===== -/
/-- what the reference needs, behind a call of the class -/
def vd_FR (L : Nat) (xs : Nat → Int32) (M : vd_M) : Prop := vd_FB1 M ∧ vd_k M 9 = 32 ∧ vd_l M 9 = L ∧ (∀ b, vd_i M 9 b = xs b) ∧ vd_k M 196 = 35 ∧ vd_l M 196 = 1 ∧ 197 ≤ vd_n M
theorem vd_FC.fr {L : Nat} {xs : Nat → Int32} {M M' : vd_M} (h : vd_FC L xs M) (p : vd_kp M M') : vd_FR L xs M' := by
  obtain ⟨hA, hB, k196, l196, n197, c197, s197⟩ := h
  have e : vd_ext 196 0 M M' ∨ True := Or.inr trivial
  have q9 := p.2 9 (by omega)
  have q196 := p.2 196 (by omega)
  refine ⟨?_, q9.1.trans hA.1, q9.2.1.trans hA.2.1, fun b => (q9.2.2.1 b).trans (hA.2.2.1 b), q196.1.trans k196, q196.2.1.trans l196, p.1 (by omega)⟩
  obtain ⟨k63, r63_0, k64, l64, i63_1, i63_2, i63_3, i63_4, i63_20, i63_21, i63_70, i63_71, r63_6, k66, l66, rA66, r63_7, r63_8, k67, l67, r67_0, k68, l68, iF68, r67_1, k69, l69, iF69, r67_2, k70, l70, iF70, r67_3, k71, l71, iF71, r63_22, k79, l79, i79_0, i79_1, i79_2, i79_3, i79_4⟩ := hB
  have e : ∀ a, 63 ≤ a ∧ a < 197 → vd_k M' a = vd_k M a ∧ vd_l M' a = vd_l M a ∧ (∀ b, vd_i M' a b = vd_i M a b) ∧ (0 = 0 → ∀ b, vd_r M' a b = vd_r M a b) := fun a ha => by
    obtain ⟨g1, g2, g3, g4⟩ := p.2 a (Or.inr ha)
    exact ⟨g1, g2, g3, fun _ => g4⟩
  exact ⟨(e 63 (by decide)).1.trans k63, ((e 63 (by decide)).2.2.2 (by decide) _).trans r63_0, (e 64 (by decide)).1.trans k64, (e 64 (by decide)).2.1.trans l64, ((e 63 (by decide)).2.2.1 _).trans i63_1, ((e 63 (by decide)).2.2.1 _).trans i63_2, ((e 63 (by decide)).2.2.1 _).trans i63_3, ((e 63 (by decide)).2.2.1 _).trans i63_4, ((e 63 (by decide)).2.2.1 _).trans i63_20, ((e 63 (by decide)).2.2.1 _).trans i63_21, ((e 63 (by decide)).2.2.1 _).trans i63_70, ((e 63 (by decide)).2.2.1 _).trans i63_71, ((e 63 (by decide)).2.2.2 (by decide) _).trans r63_6, (e 66 (by decide)).1.trans k66, (e 66 (by decide)).2.1.trans l66, fun b => ((e 66 (by decide)).2.2.2 (by decide) b).trans (rA66 b), ((e 63 (by decide)).2.2.2 (by decide) _).trans r63_7, ((e 63 (by decide)).2.2.2 (by decide) _).trans r63_8, (e 67 (by decide)).1.trans k67, (e 67 (by decide)).2.1.trans l67, ((e 67 (by decide)).2.2.2 (by decide) _).trans r67_0, (e 68 (by decide)).1.trans k68, (e 68 (by decide)).2.1.trans l68, fun b hb => ((e 68 (by decide)).2.2.1 b).trans (iF68 b hb), ((e 67 (by decide)).2.2.2 (by decide) _).trans r67_1, (e 69 (by decide)).1.trans k69, (e 69 (by decide)).2.1.trans l69, fun b hb => ((e 69 (by decide)).2.2.1 b).trans (iF69 b hb), ((e 67 (by decide)).2.2.2 (by decide) _).trans r67_2, (e 70 (by decide)).1.trans k70, (e 70 (by decide)).2.1.trans l70, fun b hb => ((e 70 (by decide)).2.2.1 b).trans (iF70 b hb), ((e 67 (by decide)).2.2.2 (by decide) _).trans r67_3, (e 71 (by decide)).1.trans k71, (e 71 (by decide)).2.1.trans l71, fun b hb => ((e 71 (by decide)).2.2.1 b).trans (iF71 b hb), ((e 63 (by decide)).2.2.2 (by decide) _).trans r63_22, (e 79 (by decide)).1.trans k79, (e 79 (by decide)).2.1.trans l79, ((e 79 (by decide)).2.2.1 _).trans i79_0, ((e 79 (by decide)).2.2.1 _).trans i79_1, ((e 79 (by decide)).2.2.1 _).trans i79_2, ((e 79 (by decide)).2.2.1 _).trans i79_3, ((e 79 (by decide)).2.2.1 _).trans i79_4⟩
/-- how a call of the reference ends -/
def vd_RO (L : Nat) (M : vd_M) (k : Int) (v : Int32) (M1 : vd_M) (r : Option Value ⊕ Nat) : Prop := ∃ v', r = .inl (some (.int v')) ∧ (k = 0 → v' = v) ∧ vd_k M1 63 = 12 ∧ vd_i M1 63 2 = vd_I k ∧ vd_k M1 196 = 35 ∧ vd_l M1 196 = 1 ∧ vd_j M1 196 0 = vd_j M 196 0 ∧ vd_k M1 9 = 32 ∧ vd_l M1 9 = L ∧ vd_c M1 ≤ vd_c M + 1 ∧ vd_s M1 ≤ vd_s M + 5
section VDO
variable {d L : Nat} {xs : Nat → Int32} {M : vd_M} {Q : vd_M → (Option Value ⊕ Nat) → Prop} {v : Int32} {x0 x1 x2 x3 x4 : Int32} {z z0 z1 z2 : Int}
theorem vd_c168a {o : Nat} (hQ : Q M (.inl (some (.int (vd_I 0))))) : vd_wp d 168 0 [.ref o, .int x0, .int (vd_I 0)] [] M Q := by
  simp (disch := first | assumption | (simp only [vd_MM, if_true, if_false]; done) | omega | (simp only [vd_MM, if_true, if_false]; first | assumption | omega)) only [vd_E168_0, vd_E168_1, vd_E168_4, vd_E168_4n, vd_E168_5, vd_E168_6, vd_E168_9, vd_E168_10, vd_I_toInt, if_true]
  exact hQ
theorem vd_c168b {o : Nat} (hk : vd_k M o = 12) (hQ : Q (vd_si M o 2 x0) (.inl (some (.int (vd_I 1))))) : vd_wp d 168 0 [.ref o, .int x0, .int (vd_I 1)] [] M Q := by
  have e : ¬ (1 : Int) = 0 := by decide
  simp (disch := first | assumption | (simp only [vd_MM, if_true, if_false]; done) | omega | (simp only [vd_MM, if_true, if_false]; first | assumption | omega)) only [vd_E168_0, vd_E168_1, vd_E168_4, vd_E168_4n, vd_E168_5, vd_E168_6, vd_E168_9, vd_E168_10, vd_I_toInt, e, if_false]
  exact hQ
theorem vd_c169 (h : vd_FR L xs M) (b1 : -2147483648 ≤ z) (b2 : z < 2147483648) : vd_wp (d + 1) 169 0 [.ref 63, .int (vd_I z)] [] M (vd_RO L M (if z = 0 then 0 else 1) (vd_I 0)) := by
  obtain ⟨⟨k63, r63_0, k64, l64, i63_1, i63_2, i63_3, i63_4, i63_20, i63_21, i63_70, i63_71, r63_6, k66, l66, rA66, r63_7, r63_8, k67, l67, r67_0, k68, l68, iF68, r67_1, k69, l69, iF69, r67_2, k70, l70, iF70, r67_3, k71, l71, iF71, r63_22, k79, l79, i79_0, i79_1, i79_2, i79_3, i79_4⟩, k9, l9, iA9, k196, l196, n197⟩ := h
  simp (disch := first | assumption | (simp only [vd_MM, if_true, if_false, k63]; done) | omega | (simp only [vd_MM, if_true, if_false, k63]; first | assumption | omega)) only [vd_E169_0, vd_E169_0n, vd_E169_1, vd_E169_2, vd_E169_5, vd_E169_5n, vd_E169_6, vd_E169_7, vd_E169_8, vd_E169_11, vd_E169_12, vd_E169_12n, vd_E169_13, vd_E169_16, vd_E169_19, vd_E169_20, vd_E169_23, vd_E169_27, vd_E169_30, vd_E169_31, vd_E169_32, vd_E169_32n, vd_E169_33, vd_E169_34, vd_E169_37, vd_E169_38, vd_I_toInt, i63_1, vd_MM, Nat.reduceEqDiff, and_true, and_false, if_false]
  have no : z ≠ 0 → vd_wp (d + 1) 169 24 [.ref 63, .int (vd_I z)] [.int (vd_I 1), .int (vd_I 1), .ref 63] (vd_si M 63 2 (vd_I 0)) (vd_RO L M (if z = 0 then 0 else 1) (vd_I 0)) := fun hz => by
    refine vd_E169_24 (Nat.le_of_ble_eq_true rfl) (by simp only [vd_MM, k63]) (vd_c168b (by simp only [vd_MM, k63]) ⟨_, rfl, ?_⟩)
    simp only [Option.toList_some, List.cons_append, List.nil_append]
    have e : ¬ (1 : Int) = 0 := by decide
    simp (disch := first | assumption | (simp only [vd_MM, if_true, if_false]; done) | omega | (simp only [vd_MM, if_true, if_false]; first | assumption | omega)) only [vd_E169_0, vd_E169_0n, vd_E169_1, vd_E169_2, vd_E169_5, vd_E169_5n, vd_E169_6, vd_E169_7, vd_E169_8, vd_E169_11, vd_E169_12, vd_E169_12n, vd_E169_13, vd_E169_16, vd_E169_19, vd_E169_20, vd_E169_23, vd_E169_27, vd_E169_30, vd_E169_31, vd_E169_32, vd_E169_32n, vd_E169_33, vd_E169_34, vd_E169_37, vd_E169_38, vd_I_toInt, e, if_false]
    rw [if_neg hz]
    exact ⟨_, rfl, fun q => by omega, by simp only [vd_MM, k63], by simp only [vd_MM, and_self, if_true], by simp only [vd_MM, k196], by simp only [vd_MM, l196], by simp only [vd_MM], by simp only [vd_MM, k9], by simp only [vd_MM, l9], by simp only [vd_MM]; omega, by simp only [vd_MM]; omega⟩
  by_cases h1 : z < 0
  · rw [if_pos h1]
    exact no (by omega)
  · rw [if_neg h1]
    by_cases h2 : 0 < z
    · rw [if_pos h2]
      exact no (by omega)
    · rw [if_neg h2]
      have : z = 0 := by omega
      subst this
      refine vd_E169_24 (Nat.le_of_ble_eq_true rfl) (by simp only [vd_MM, k63]) (vd_c168a ⟨_, rfl, ?_⟩)
      simp only [Option.toList_some, List.cons_append, List.nil_append]
      simp (disch := first | assumption | (simp only [vd_MM, if_true, if_false, k63]; done) | omega | (simp only [vd_MM, if_true, if_false, k63]; first | assumption | omega)) only [vd_E169_0, vd_E169_0n, vd_E169_1, vd_E169_2, vd_E169_5, vd_E169_5n, vd_E169_6, vd_E169_7, vd_E169_8, vd_E169_11, vd_E169_12, vd_E169_12n, vd_E169_13, vd_E169_16, vd_E169_19, vd_E169_20, vd_E169_23, vd_E169_27, vd_E169_30, vd_E169_31, vd_E169_32, vd_E169_32n, vd_E169_33, vd_E169_34, vd_E169_37, vd_E169_38, vd_I_toInt, if_true]
      exact ⟨_, rfl, fun q => rfl, by simp only [vd_MM, k63], by simp only [vd_MM, Nat.reduceEqDiff, and_self, and_false, if_true, if_false], by simp only [vd_MM, k196], by simp only [vd_MM, l196], by simp only [vd_MM], by simp only [vd_MM, k9], by simp only [vd_MM, l9], by simp only [vd_MM]; omega, by simp only [vd_MM]; omega⟩
theorem vd_c284 (h : vd_FR L xs M) (b1 : -2147483648 ≤ z) (b2 : z < 2147483648) : vd_wp (d + 1) 284 0 [.ref 63, .int (vd_I z)] [] M (vd_RO L M (if z = 0 ∨ z = 1 then 0 else 1) (if z = 0 then vd_I 0 else vd_I (-1))) := by
  obtain ⟨⟨k63, r63_0, k64, l64, i63_1, i63_2, i63_3, i63_4, i63_20, i63_21, i63_70, i63_71, r63_6, k66, l66, rA66, r63_7, r63_8, k67, l67, r67_0, k68, l68, iF68, r67_1, k69, l69, iF69, r67_2, k70, l70, iF70, r67_3, k71, l71, iF71, r63_22, k79, l79, i79_0, i79_1, i79_2, i79_3, i79_4⟩, k9, l9, iA9, k196, l196, n197⟩ := h
  simp (disch := first | assumption | (simp only [vd_MM, if_true, if_false, k63]; done) | omega | (simp only [vd_MM, if_true, if_false, k63]; first | assumption | omega)) only [vd_E284_0, vd_E284_0n, vd_E284_1, vd_E284_2, vd_E284_5, vd_E284_5n, vd_E284_6, vd_E284_7, vd_E284_8, vd_E284_11, vd_E284_12, vd_E284_13, vd_E284_16, vd_E284_17, vd_E284_20, vd_E284_24, vd_E284_27, vd_E284_28, vd_E284_29, vd_E284_30, vd_E284_33, vd_E284_33n, vd_E284_34, vd_E284_37, vd_E284_40, vd_E284_40n, vd_E284_41, vd_E284_44, vd_I_toInt, vd_MM, Nat.reduceEqDiff, and_true, and_false, if_false]
  have no : ¬ (z = 0 ∨ z = 1) → vd_wp (d + 1) 284 21 [.ref 63, .int (vd_I z)] [.int (vd_I 1), .int (vd_I 1), .ref 63] (vd_si M 63 2 (vd_I 0)) (vd_RO L M (if z = 0 ∨ z = 1 then 0 else 1) (if z = 0 then vd_I 0 else vd_I (-1))) := fun hz => by
    refine vd_E284_21 (Nat.le_of_ble_eq_true rfl) (by simp only [vd_MM, k63]) (vd_c168b (by simp only [vd_MM, k63]) ⟨_, rfl, ?_⟩)
    simp only [Option.toList_some, List.cons_append, List.nil_append]
    have e : ¬ (1 : Int) = 0 := by decide
    simp (disch := first | assumption | (simp only [vd_MM, if_true, if_false]; done) | omega | (simp only [vd_MM, if_true, if_false]; first | assumption | omega)) only [vd_E284_0, vd_E284_0n, vd_E284_1, vd_E284_2, vd_E284_5, vd_E284_5n, vd_E284_6, vd_E284_7, vd_E284_8, vd_E284_11, vd_E284_12, vd_E284_13, vd_E284_16, vd_E284_17, vd_E284_20, vd_E284_24, vd_E284_27, vd_E284_28, vd_E284_29, vd_E284_30, vd_E284_33, vd_E284_33n, vd_E284_34, vd_E284_37, vd_E284_40, vd_E284_40n, vd_E284_41, vd_E284_44, vd_I_toInt, e, if_false]
    rw [if_neg hz]
    exact ⟨_, rfl, fun q => by omega, by simp only [vd_MM, k63], by simp only [vd_MM, and_self, if_true], by simp only [vd_MM, k196], by simp only [vd_MM, l196], by simp only [vd_MM], by simp only [vd_MM, k9], by simp only [vd_MM, l9], by simp only [vd_MM]; omega, by simp only [vd_MM]; omega⟩
  by_cases h1 : z < 0
  · rw [if_pos h1]
    exact no (by omega)
  · rw [if_neg h1]
    by_cases h2 : 1 < z
    · rw [if_pos h2]
      exact no (by omega)
    · rw [if_neg h2]
      refine vd_E284_21 (Nat.le_of_ble_eq_true rfl) (by simp only [vd_MM, k63]) (vd_c168a ⟨_, rfl, ?_⟩)
      simp only [Option.toList_some, List.cons_append, List.nil_append]
      rw [if_pos (by omega : z = 0 ∨ z = 1)]
      by_cases h3 : z = 0
      · simp (disch := first | assumption | (simp only [vd_MM, if_true, if_false, k63]; done) | omega | (simp only [vd_MM, if_true, if_false, k63]; first | assumption | omega)) only [vd_E284_0, vd_E284_0n, vd_E284_1, vd_E284_2, vd_E284_5, vd_E284_5n, vd_E284_6, vd_E284_7, vd_E284_8, vd_E284_11, vd_E284_12, vd_E284_13, vd_E284_16, vd_E284_17, vd_E284_20, vd_E284_24, vd_E284_27, vd_E284_28, vd_E284_29, vd_E284_30, vd_E284_33, vd_E284_33n, vd_E284_34, vd_E284_37, vd_E284_40, vd_E284_40n, vd_E284_41, vd_E284_44, vd_I_toInt, h3, if_true, vd_MM, Nat.reduceEqDiff, and_false, if_false, i63_3]
        exact ⟨_, rfl, fun q => rfl, by simp only [vd_MM, k63], by simp only [vd_MM, Nat.reduceEqDiff, and_self, and_false, if_true, if_false], by simp only [vd_MM, k196], by simp only [vd_MM, l196], by simp only [vd_MM], by simp only [vd_MM, k9], by simp only [vd_MM, l9], by simp only [vd_MM]; omega, by simp only [vd_MM]; omega⟩
      · simp (disch := first | assumption | (simp only [vd_MM, if_true, if_false, k63]; done) | omega | (simp only [vd_MM, if_true, if_false, k63]; first | assumption | omega)) only [vd_E284_0, vd_E284_0n, vd_E284_1, vd_E284_2, vd_E284_5, vd_E284_5n, vd_E284_6, vd_E284_7, vd_E284_8, vd_E284_11, vd_E284_12, vd_E284_13, vd_E284_16, vd_E284_17, vd_E284_20, vd_E284_24, vd_E284_27, vd_E284_28, vd_E284_29, vd_E284_30, vd_E284_33, vd_E284_33n, vd_E284_34, vd_E284_37, vd_E284_40, vd_E284_40n, vd_E284_41, vd_E284_44, vd_I_toInt, h3, if_true, vd_MM, Nat.reduceEqDiff, and_false, if_false, i63_4]
        exact ⟨_, rfl, fun q => rfl, by simp only [vd_MM, k63], by simp only [vd_MM, Nat.reduceEqDiff, and_self, and_false, if_true, if_false], by simp only [vd_MM, k196], by simp only [vd_MM, l196], by simp only [vd_MM], by simp only [vd_MM, k9], by simp only [vd_MM, l9], by simp only [vd_MM]; omega, by simp only [vd_MM]; omega⟩
end VDO
