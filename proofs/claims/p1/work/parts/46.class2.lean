/-! ===== the class's methods on a fresh object ===== -/
section VDK2
variable {d L : Nat} {xs : Nat → Int32} {M : vd_M} {Q : vd_M → (Option Value ⊕ Nat) → Prop} {v : Int32} {x0 x1 x2 x3 x4 : Int32} {z z0 z1 z2 : Int}
theorem vd_OC.ans {M M1 : vd_M} {v : Int32} {ex : Nat} (h : vd_kp M M1) (hc : vd_c M1 ≤ vd_c M) (hs : vd_s M1 ≤ vd_s M) : vd_OC M 0 v ex M1 (.inl (some (.int v))) := Or.inl ⟨rfl, rfl, h, hc, hs⟩
theorem vd_c20 (h : vd_FC L xs M) (b1 : -2147483648 ≤ z) (b2 : z < 2147483648) : vd_wp d 20 0 [.ref 10, .int (vd_I z)] [] M (vd_OC M (if z = 0 then 0 else 1) (vd_I 0) 15) := by
  obtain ⟨⟨k9, l9, iA9, k10, r10_0, k11, l11, i10_1, i10_2, i10_3, i10_4, i10_5, i10_6, r10_8, k13, l13, rA13, r10_9, r10_10, k14, l14, iF14, r10_17, k37, i37_2, i37_3, i37_4, r10_16, k34, i34_3, r10_18, k44, r44_4, k45, i45_3, r10_19, k60, i60_2⟩, ⟨k63, r63_0, k64, l64, i63_1, i63_2, i63_3, i63_4, i63_20, i63_21, i63_70, i63_71, r63_6, k66, l66, rA66, r63_7, r63_8, k67, l67, r67_0, k68, l68, iF68, r67_1, k69, l69, iF69, r67_2, k70, l70, iF70, r67_3, k71, l71, iF71, r63_22, k79, l79, i79_0, i79_1, i79_2, i79_3, i79_4⟩, k196, l196, n197, c197, s197⟩ := h
  simp (disch := first | assumption | (simp only [vd_MM, if_true, if_false]; done) | omega | (simp only [vd_MM, if_true, if_false]; first | assumption | omega)) only [vd_E20_0, vd_E20_1, vd_E20_4, vd_E20_5, vd_E20_5n, vd_E20_6, vd_E20_9, vd_E20_12, vd_E20_20, vd_E20_20n, vd_E20_21, vd_E20_22, vd_E20_25, vd_E20_26, vd_I_toInt, i10_1, vd_I0]
  by_cases h1 : z < 0
  · rw [if_pos h1, if_neg (by omega)]
    exact vd_OC.throw (by omega) (by omega)
  · rw [if_neg h1]
    by_cases h2 : 0 < z
    · rw [if_pos h2, if_neg (by omega)]
      exact vd_OC.throw (by omega) (by omega)
    · have : z = 0 := by omega
      subst this
      rw [if_neg h2, if_pos rfl]
      exact vd_OC.ans ((vd_kp.refl M).si (by omega)) (by simp only [vd_MM]; omega) (by simp only [vd_MM]; omega)
theorem vd_c151 (h : vd_FC L xs M) (b1 : -2147483648 ≤ z) (b2 : z < 2147483648) : vd_wp d 151 0 [.ref 10, .int (vd_I z)] [] M (vd_OC M (if z = 0 ∨ z = 1 then 0 else 1) (if z = 0 then vd_I 0 else vd_I (-1)) 15) := by
  obtain ⟨⟨k9, l9, iA9, k10, r10_0, k11, l11, i10_1, i10_2, i10_3, i10_4, i10_5, i10_6, r10_8, k13, l13, rA13, r10_9, r10_10, k14, l14, iF14, r10_17, k37, i37_2, i37_3, i37_4, r10_16, k34, i34_3, r10_18, k44, r44_4, k45, i45_3, r10_19, k60, i60_2⟩, ⟨k63, r63_0, k64, l64, i63_1, i63_2, i63_3, i63_4, i63_20, i63_21, i63_70, i63_71, r63_6, k66, l66, rA66, r63_7, r63_8, k67, l67, r67_0, k68, l68, iF68, r67_1, k69, l69, iF69, r67_2, k70, l70, iF70, r67_3, k71, l71, iF71, r63_22, k79, l79, i79_0, i79_1, i79_2, i79_3, i79_4⟩, k196, l196, n197, c197, s197⟩ := h
  simp (disch := first | assumption | (simp only [vd_MM, if_true, if_false]; done) | omega | (simp only [vd_MM, if_true, if_false]; first | assumption | omega)) only [vd_E151_0, vd_E151_1, vd_E151_4, vd_E151_5, vd_E151_6, vd_E151_9, vd_E151_17, vd_E151_18, vd_E151_21, vd_E151_21n, vd_E151_22, vd_E151_25, vd_E151_28, vd_E151_28n, vd_E151_29, vd_E151_32, vd_I_toInt, i10_2, i10_3, vd_I0]
  by_cases h1 : z < 0
  · rw [if_pos h1, if_neg (by omega : ¬ (z = 0 ∨ z = 1))]
    exact vd_OC.throw (by omega) (by omega)
  · rw [if_neg h1]
    by_cases h2 : 1 < z
    · rw [if_pos h2, if_neg (by omega : ¬ (z = 0 ∨ z = 1))]
      exact vd_OC.throw (by omega) (by omega)
    · rw [if_neg h2, if_pos (by omega : z = 0 ∨ z = 1)]
      by_cases h3 : z = 0
      · rw [if_pos h3, if_pos h3]
        exact vd_OC.ans (vd_kp.refl M) (Nat.le_refl _) (Nat.le_refl _)
      · rw [if_neg h3, if_neg h3]
        exact vd_OC.ans (vd_kp.refl M) (Nat.le_refl _) (Nat.le_refl _)
theorem vd_c160 (h : vd_FC L xs M) (b1 : -2147483648 ≤ z) (b2 : z < 2147483648) (b3 : -2147483648 ≤ z1) (b4 : z1 < 2147483648) : vd_wp d 160 0 [.ref 10, .int (vd_I z), .int (vd_I z1)] [] M (vd_OC M (if 0 ≤ z ∧ z < 4 ∧ 0 ≤ z1 ∧ z1 < 2941 then 0 else 1) (vd_I 128) 18) := by
  obtain ⟨⟨k9, l9, iA9, k10, r10_0, k11, l11, i10_1, i10_2, i10_3, i10_4, i10_5, i10_6, r10_8, k13, l13, rA13, r10_9, r10_10, k14, l14, iF14, r10_17, k37, i37_2, i37_3, i37_4, r10_16, k34, i34_3, r10_18, k44, r44_4, k45, i45_3, r10_19, k60, i60_2⟩, ⟨k63, r63_0, k64, l64, i63_1, i63_2, i63_3, i63_4, i63_20, i63_21, i63_70, i63_71, r63_6, k66, l66, rA66, r63_7, r63_8, k67, l67, r67_0, k68, l68, iF68, r67_1, k69, l69, iF69, r67_2, k70, l70, iF70, r67_3, k71, l71, iF71, r63_22, k79, l79, i79_0, i79_1, i79_2, i79_3, i79_4⟩, k196, l196, n197, c197, s197⟩ := h
  by_cases hh : 0 ≤ z ∧ z < 4 ∧ 0 ≤ z1 ∧ z1 < 2941
  · rw [if_pos hh]
    obtain ⟨h1, h2, h3, h4⟩ := hh
    have e1 : ¬ z < 0 := by omega
    have e3 : ¬ z1 < 0 := by omega
    simp (disch := first | assumption | (simp only [vd_MM, if_true, if_false]; done) | omega | (simp only [vd_MM, if_true, if_false]; first | assumption | omega)) only [vd_E160_0, vd_E160_1, vd_E160_4, vd_E160_5, vd_E160_6, vd_E160_9, vd_E160_10, vd_E160_13, vd_E160_14, vd_E160_17, vd_E160_20, vd_E160_28, vd_E160_28n, vd_E160_29, vd_E160_32, vd_E160_33, vd_E160_36, vd_E160_37, vd_E160_38, vd_E160_39, vd_E160_40, vd_I_toInt, e1, e3, h2, h4, if_true, if_false, r10_10, vd_vr_some, vd_I_add, vd_I_sub, vd_I_mul, vd_I_neg, iF14]
    exact vd_OC.ans (vd_kp.refl M) (Nat.le_refl _) (Nat.le_refl _)
  · rw [if_neg hh]
    simp (disch := first | assumption | (simp only [vd_MM, if_true, if_false]; done) | omega | (simp only [vd_MM, if_true, if_false]; first | assumption | omega)) only [vd_E160_0, vd_E160_1, vd_E160_4, vd_E160_5, vd_E160_6, vd_E160_9, vd_E160_10, vd_E160_13, vd_E160_14, vd_E160_17, vd_E160_29, vd_E160_32, vd_E160_33, vd_E160_36, vd_E160_37, vd_E160_38, vd_E160_39, vd_E160_40, vd_I_toInt]
    have thr : vd_wp d 160 20 [.ref 10, .int (vd_I z), .int (vd_I z1)] [] M (vd_OC M 1 (vd_I 128) 18) := by
      rw [vd_E160_20 (Nat.le_of_ble_eq_true rfl)]
      exact vd_OC.throw (by omega) (by omega)
    repeat' split
    all_goals first | exact thr | (exfalso; omega)
theorem vd_c69 (k37 : vd_k M 37 = 4) (i37_2 : vd_i M 37 2 = 0) (i37_3 : vd_i M 37 3 = 0) (b1 : -2147483648 ≤ z) (b2 : z < 2147483648) (b3 : -2147483648 ≤ z1) (b4 : z1 < 2147483648) (hQ : Q M (.inl (some (.int (vd_I 0))))) : vd_wp d 69 0 [.ref 37, .int (vd_I z), .int (vd_I z1)] [] M Q := by
  simp (disch := first | assumption | (simp only [vd_MM, if_true, if_false]; done) | omega | (simp only [vd_MM, if_true, if_false]; first | assumption | omega)) only [vd_E69_0, vd_E69_1, vd_E69_4, vd_E69_5, vd_E69_8, vd_E69_9, vd_E69_9n, vd_E69_10, vd_E69_13, vd_E69_16, vd_E69_17, vd_E69_17n, vd_E69_18, vd_E69_21, vd_E69_25, vd_E69_28, vd_E69_29, vd_I_toInt, i37_2, i37_3, vd_I0]
  by_cases h1 : z < 0
  · simp only [h1, if_true]; exact hQ
  · by_cases h2 : z1 < 0
    · simp only [h1, h2, if_true, if_false]; exact hQ
    · simp only [h1, h2, if_true, if_false]; exact hQ
theorem vd_c162 (h : vd_FC L xs M) (b1 : -2147483648 ≤ z) (b2 : z < 2147483648) (b3 : -2147483648 ≤ z1) (b4 : z1 < 2147483648) : vd_wp (d + 2) 162 0 [.ref 10, .int (vd_I z), .int (vd_I z1), .int x2, vd_U] [] M (vd_OC M 1 (vd_I 0) 18) := by
  obtain ⟨⟨k9, l9, iA9, k10, r10_0, k11, l11, i10_1, i10_2, i10_3, i10_4, i10_5, i10_6, r10_8, k13, l13, rA13, r10_9, r10_10, k14, l14, iF14, r10_17, k37, i37_2, i37_3, i37_4, r10_16, k34, i34_3, r10_18, k44, r44_4, k45, i45_3, r10_19, k60, i60_2⟩, ⟨k63, r63_0, k64, l64, i63_1, i63_2, i63_3, i63_4, i63_20, i63_21, i63_70, i63_71, r63_6, k66, l66, rA66, r63_7, r63_8, k67, l67, r67_0, k68, l68, iF68, r67_1, k69, l69, iF69, r67_2, k70, l70, iF70, r67_3, k71, l71, iF71, r63_22, k79, l79, i79_0, i79_1, i79_2, i79_3, i79_4⟩, k196, l196, n197, c197, s197⟩ := h
  simp (disch := first | assumption | (simp only [vd_MM, if_true, if_false]; done) | omega | (simp only [vd_MM, if_true, if_false]; first | assumption | omega)) only [vd_E162_0, vd_E162_0n, vd_E162_1, vd_E162_4, vd_E162_5, vd_E162_9, vd_E162_11, vd_E162_13, vd_E162_16, vd_E162_24, vd_E162_25, vd_E162_28, vd_E162_29, vd_E162_31, vd_E162_34, vd_E162_42, vd_E162_42n, vd_E162_43, vd_E162_46, vd_E162_49, vd_E162_51, vd_E162_52, vd_E162_53, vd_E162_54, r10_17, vd_vr_some]
  refine vd_E162_6 (Nat.le_of_ble_eq_true rfl) k37 ?_
  simp (disch := first | assumption | (simp only [vd_MM, if_true, if_false]; done) | omega | (simp only [vd_MM, if_true, if_false]; first | assumption | omega)) only [vd_E68_0, vd_E68_0n, vd_E68_1, vd_E68_2, vd_E68_6, vd_E68_9, vd_E68_9n, vd_E68_10, vd_E68_13, vd_E68_14, vd_E68_16, vd_E68_17, vd_E68_18, vd_E68_19, vd_E68_20, vd_E68_23, vd_E68_24]
  refine vd_E68_3 (Nat.le_of_ble_eq_true rfl) k37 (vd_c69 k37 i37_2 i37_3 b1 b2 b3 b4 ⟨_, rfl, ?_⟩)
  simp only [Option.toList_some, List.cons_append, List.nil_append]
  simp (disch := first | assumption | (simp only [vd_MM, if_true, if_false]; done) | omega | (simp only [vd_MM, if_true, if_false]; first | assumption | omega)) only [vd_E68_0, vd_E68_0n, vd_E68_1, vd_E68_2, vd_E68_6, vd_E68_9, vd_E68_9n, vd_E68_10, vd_E68_13, vd_E68_14, vd_E68_16, vd_E68_17, vd_E68_18, vd_E68_19, vd_E68_20, vd_E68_23, vd_I_toInt, if_true]
  rw [vd_E68_24]
  refine ⟨_, rfl, ?_⟩
  simp only [Option.toList_some, List.cons_append, List.nil_append]
  have e : (-1 : Int) < 0 := by decide
  simp (disch := first | assumption | (simp only [vd_MM, if_true, if_false]; done) | omega | (simp only [vd_MM, if_true, if_false]; first | assumption | omega)) only [vd_E162_0, vd_E162_0n, vd_E162_1, vd_E162_4, vd_E162_5, vd_E162_9, vd_E162_11, vd_E162_13, vd_E162_16, vd_E162_24, vd_E162_25, vd_E162_28, vd_E162_29, vd_E162_31, vd_E162_34, vd_E162_42, vd_E162_42n, vd_E162_43, vd_E162_46, vd_E162_49, vd_E162_51, vd_E162_52, vd_E162_53, vd_E162_54, vd_I_toInt, e, if_true]
  exact vd_OC.throw (by omega) (by omega)
/-- no picture is there -/
theorem vd_c154 (h : vd_FC L xs M) (b1 : -2147483648 ≤ z) (b2 : z < 2147483648) (hQ : Q M (.inl (some .null))) : vd_wp d 154 0 [.ref 10, .int (vd_I z)] [] M Q := by
  obtain ⟨⟨k9, l9, iA9, k10, r10_0, k11, l11, i10_1, i10_2, i10_3, i10_4, i10_5, i10_6, r10_8, k13, l13, rA13, r10_9, r10_10, k14, l14, iF14, r10_17, k37, i37_2, i37_3, i37_4, r10_16, k34, i34_3, r10_18, k44, r44_4, k45, i45_3, r10_19, k60, i60_2⟩, ⟨k63, r63_0, k64, l64, i63_1, i63_2, i63_3, i63_4, i63_20, i63_21, i63_70, i63_71, r63_6, k66, l66, rA66, r63_7, r63_8, k67, l67, r67_0, k68, l68, iF68, r67_1, k69, l69, iF69, r67_2, k70, l70, iF70, r67_3, k71, l71, iF71, r63_22, k79, l79, i79_0, i79_1, i79_2, i79_3, i79_4⟩, k196, l196, n197, c197, s197⟩ := h
  by_cases h1 : z = -1
  · simp (disch := first | assumption | (simp only [vd_MM, if_true, if_false]; done) | omega | (simp only [vd_MM, if_true, if_false]; first | assumption | omega)) only [vd_E154_0, vd_E154_1, vd_E154_2, vd_E154_5, vd_E154_5n, vd_E154_6, vd_E154_9, vd_E154_9n, vd_E154_10, vd_E154_11, vd_E154_14, vd_E154_15, vd_E154_17, vd_E154_20, vd_E154_20n, vd_E154_21, vd_E154_24, vd_E154_25, vd_E154_26, vd_E154_29, vd_E154_30, vd_E154_30n, vd_I_toInt, h1, if_true, r10_9, vd_vr_none]
    exact hQ
  · simp (disch := first | assumption | (simp only [vd_MM, if_true, if_false]; done) | omega | (simp only [vd_MM, if_true, if_false]; first | assumption | omega)) only [vd_E154_0, vd_E154_1, vd_E154_2, vd_E154_5, vd_E154_5n, vd_E154_6, vd_E154_9, vd_E154_9n, vd_E154_10, vd_E154_11, vd_E154_15, vd_E154_17, vd_E154_20, vd_E154_20n, vd_E154_21, vd_E154_24, vd_E154_25, vd_E154_26, vd_E154_29, vd_E154_30, vd_E154_30n, vd_I_toInt, h1, if_false]
    by_cases h2 : z < 0
    · rw [if_pos h2]
      exact hQ
    · rw [if_neg h2, vd_E154_14]
      by_cases h3 : z < 8
      · simp (disch := first | assumption | (simp only [vd_MM, if_true, if_false]; done) | omega | (simp only [vd_MM, if_true, if_false]; first | assumption | omega)) only [vd_E154_0, vd_E154_1, vd_E154_2, vd_E154_5, vd_E154_5n, vd_E154_6, vd_E154_9, vd_E154_9n, vd_E154_10, vd_E154_11, vd_E154_14, vd_E154_15, vd_E154_17, vd_E154_20, vd_E154_20n, vd_E154_21, vd_E154_24, vd_E154_25, vd_E154_26, vd_E154_29, vd_E154_30, vd_E154_30n, vd_I_toInt, h3, if_true, r10_8, vd_vr_some, rA13, vd_vr_none]
        exact hQ
      · simp (disch := first | assumption | (simp only [vd_MM, if_true, if_false]; done) | omega | (simp only [vd_MM, if_true, if_false]; first | assumption | omega)) only [vd_E154_0, vd_E154_1, vd_E154_2, vd_E154_5, vd_E154_5n, vd_E154_6, vd_E154_9, vd_E154_9n, vd_E154_10, vd_E154_11, vd_E154_14, vd_E154_15, vd_E154_17, vd_E154_20, vd_E154_20n, vd_E154_21, vd_E154_24, vd_E154_25, vd_E154_26, vd_E154_29, vd_E154_30, vd_E154_30n, vd_I_toInt, h3, if_false]
        exact hQ
theorem vd_c153 (h : vd_FC L xs M) (b1 : -2147483648 ≤ z) (b2 : z < 2147483648) : vd_wp (d + 1) 153 0 [.ref 10, .int (vd_I z), .int x1, .int x2, .int x3, vd_U] [] M (vd_OC M 1 (vd_I 0) 17) := by
  have h' := h
  obtain ⟨⟨k9, l9, iA9, k10, r10_0, k11, l11, i10_1, i10_2, i10_3, i10_4, i10_5, i10_6, r10_8, k13, l13, rA13, r10_9, r10_10, k14, l14, iF14, r10_17, k37, i37_2, i37_3, i37_4, r10_16, k34, i34_3, r10_18, k44, r44_4, k45, i45_3, r10_19, k60, i60_2⟩, ⟨k63, r63_0, k64, l64, i63_1, i63_2, i63_3, i63_4, i63_20, i63_21, i63_70, i63_71, r63_6, k66, l66, rA66, r63_7, r63_8, k67, l67, r67_0, k68, l68, iF68, r67_1, k69, l69, iF69, r67_2, k70, l70, iF70, r67_3, k71, l71, iF71, r63_22, k79, l79, i79_0, i79_1, i79_2, i79_3, i79_4⟩, k196, l196, n197, c197, s197⟩ := h
  simp (disch := first | assumption | (simp only [vd_MM, if_true, if_false]; done) | omega | (simp only [vd_MM, if_true, if_false]; first | assumption | omega)) only [vd_E153_0, vd_E153_0n, vd_E153_1, vd_E153_5, vd_E153_5n, vd_E153_7, vd_E153_7n, vd_E153_9, vd_E153_9n, vd_E153_12, vd_E153_20, vd_E153_21, vd_E153_24, vd_E153_25, vd_E153_26, vd_E153_29, vd_E153_30, vd_E153_33, vd_E153_35, vd_E153_38, vd_E153_39, vd_E153_39n, vd_E153_41, vd_E153_45, vd_E153_48, vd_E153_50, vd_E153_50n, vd_E153_52, vd_E153_56, vd_E153_59, vd_E153_67, vd_E153_67n, vd_E153_69, vd_E153_72, vd_E153_73, vd_E153_74, vd_E153_79, vd_E153_80]
  refine vd_E153_2 (Nat.le_of_ble_eq_true rfl) k10 (vd_c154 h' b1 b2 ⟨_, rfl, ?_⟩)
  simp only [Option.toList_some, List.cons_append, List.nil_append]
  simp (disch := first | assumption | (simp only [vd_MM, if_true, if_false]; done) | omega | (simp only [vd_MM, if_true, if_false]; first | assumption | omega)) only [vd_E153_0, vd_E153_0n, vd_E153_1, vd_E153_5, vd_E153_5n, vd_E153_7, vd_E153_7n, vd_E153_9, vd_E153_9n, vd_E153_12, vd_E153_20, vd_E153_21, vd_E153_24, vd_E153_25, vd_E153_26, vd_E153_29, vd_E153_30, vd_E153_33, vd_E153_35, vd_E153_38, vd_E153_39, vd_E153_39n, vd_E153_41, vd_E153_45, vd_E153_48, vd_E153_50, vd_E153_50n, vd_E153_52, vd_E153_56, vd_E153_59, vd_E153_67, vd_E153_67n, vd_E153_69, vd_E153_72, vd_E153_73, vd_E153_74, vd_E153_79, vd_E153_80]
  exact vd_OC.throw (by omega) (by omega)
theorem vd_c156 (h : vd_FC L xs M) (b1 : -2147483648 ≤ z) (b2 : z < 2147483648) : vd_wp (d + 1) 156 0 [.ref 10, .int (vd_I z), .int x1, vd_U, vd_U, vd_U, vd_U, vd_U] [] M (vd_OC M 1 (vd_I 0) 17) := by
  have h' := h
  obtain ⟨⟨k9, l9, iA9, k10, r10_0, k11, l11, i10_1, i10_2, i10_3, i10_4, i10_5, i10_6, r10_8, k13, l13, rA13, r10_9, r10_10, k14, l14, iF14, r10_17, k37, i37_2, i37_3, i37_4, r10_16, k34, i34_3, r10_18, k44, r44_4, k45, i45_3, r10_19, k60, i60_2⟩, ⟨k63, r63_0, k64, l64, i63_1, i63_2, i63_3, i63_4, i63_20, i63_21, i63_70, i63_71, r63_6, k66, l66, rA66, r63_7, r63_8, k67, l67, r67_0, k68, l68, iF68, r67_1, k69, l69, iF69, r67_2, k70, l70, iF70, r67_3, k71, l71, iF71, r63_22, k79, l79, i79_0, i79_1, i79_2, i79_3, i79_4⟩, k196, l196, n197, c197, s197⟩ := h
  simp (disch := first | assumption | (simp only [vd_MM, if_true, if_false]; done) | omega | (simp only [vd_MM, if_true, if_false]; first | assumption | omega)) only [vd_E156_0, vd_E156_0n, vd_E156_1, vd_E156_5, vd_E156_5n, vd_E156_6, vd_E156_6n, vd_E156_7, vd_E156_7n, vd_E156_10, vd_E156_18, vd_E156_19, vd_E156_22, vd_E156_23, vd_E156_24, vd_E156_27, vd_E156_35, vd_E156_36, vd_E156_38, vd_E156_39, vd_E156_43, vd_E156_43n, vd_E156_44, vd_E156_48, vd_E156_51, vd_E156_52, vd_E156_53, vd_E156_58, vd_E156_60, vd_E156_61, vd_E156_65, vd_E156_65n, vd_E156_66, vd_E156_70, vd_E156_73, vd_E156_75, vd_E156_77, vd_E156_78, vd_E156_78n, vd_E156_79, vd_E156_82, vd_E156_84, vd_E156_84n, vd_E156_85, vd_E156_88, vd_E156_90, vd_E156_92, vd_E156_93, vd_E156_94, vd_E156_95, vd_E156_98, vd_E156_99, vd_E156_100, vd_E156_101, vd_E156_103, vd_E156_106, vd_E156_109, vd_E156_112, vd_E156_115, vd_E156_117, vd_E156_118, vd_E156_119]
  refine vd_E156_2 (Nat.le_of_ble_eq_true rfl) k10 (vd_c154 h' b1 b2 ⟨_, rfl, ?_⟩)
  simp only [Option.toList_some, List.cons_append, List.nil_append]
  simp (disch := first | assumption | (simp only [vd_MM, if_true, if_false]; done) | omega | (simp only [vd_MM, if_true, if_false]; first | assumption | omega)) only [vd_E156_0, vd_E156_0n, vd_E156_1, vd_E156_5, vd_E156_5n, vd_E156_6, vd_E156_6n, vd_E156_7, vd_E156_7n, vd_E156_10, vd_E156_18, vd_E156_19, vd_E156_22, vd_E156_23, vd_E156_24, vd_E156_27, vd_E156_35, vd_E156_36, vd_E156_38, vd_E156_39, vd_E156_43, vd_E156_43n, vd_E156_44, vd_E156_48, vd_E156_51, vd_E156_52, vd_E156_53, vd_E156_58, vd_E156_60, vd_E156_61, vd_E156_65, vd_E156_65n, vd_E156_66, vd_E156_70, vd_E156_73, vd_E156_75, vd_E156_77, vd_E156_78, vd_E156_78n, vd_E156_79, vd_E156_82, vd_E156_84, vd_E156_84n, vd_E156_85, vd_E156_88, vd_E156_90, vd_E156_92, vd_E156_93, vd_E156_94, vd_E156_95, vd_E156_98, vd_E156_99, vd_E156_100, vd_E156_101, vd_E156_103, vd_E156_106, vd_E156_109, vd_E156_112, vd_E156_115, vd_E156_117, vd_E156_118, vd_E156_119]
  exact vd_OC.throw (by omega) (by omega)
theorem vd_c158 (h : vd_FC L xs M) (b1 : -2147483648 ≤ z) (b2 : z < 2147483648) : vd_wp (d + 1) 158 0 [.ref 10, .int (vd_I z), .int x1, vd_U] [] M (vd_OC M 1 (vd_I 0) 17) := by
  have h' := h
  obtain ⟨⟨k9, l9, iA9, k10, r10_0, k11, l11, i10_1, i10_2, i10_3, i10_4, i10_5, i10_6, r10_8, k13, l13, rA13, r10_9, r10_10, k14, l14, iF14, r10_17, k37, i37_2, i37_3, i37_4, r10_16, k34, i34_3, r10_18, k44, r44_4, k45, i45_3, r10_19, k60, i60_2⟩, ⟨k63, r63_0, k64, l64, i63_1, i63_2, i63_3, i63_4, i63_20, i63_21, i63_70, i63_71, r63_6, k66, l66, rA66, r63_7, r63_8, k67, l67, r67_0, k68, l68, iF68, r67_1, k69, l69, iF69, r67_2, k70, l70, iF70, r67_3, k71, l71, iF71, r63_22, k79, l79, i79_0, i79_1, i79_2, i79_3, i79_4⟩, k196, l196, n197, c197, s197⟩ := h
  simp (disch := first | assumption | (simp only [vd_MM, if_true, if_false]; done) | omega | (simp only [vd_MM, if_true, if_false]; first | assumption | omega)) only [vd_E158_0, vd_E158_0n, vd_E158_1, vd_E158_5, vd_E158_5n, vd_E158_6, vd_E158_6n, vd_E158_7, vd_E158_7n, vd_E158_10, vd_E158_18, vd_E158_19, vd_E158_22, vd_E158_23, vd_E158_24, vd_E158_27, vd_E158_35, vd_E158_36, vd_E158_39, vd_E158_39n, vd_E158_40, vd_E158_43, vd_E158_46, vd_E158_46n, vd_E158_47, vd_E158_50]
  refine vd_E158_2 (Nat.le_of_ble_eq_true rfl) k10 (vd_c154 h' b1 b2 ⟨_, rfl, ?_⟩)
  simp only [Option.toList_some, List.cons_append, List.nil_append]
  simp (disch := first | assumption | (simp only [vd_MM, if_true, if_false]; done) | omega | (simp only [vd_MM, if_true, if_false]; first | assumption | omega)) only [vd_E158_0, vd_E158_0n, vd_E158_1, vd_E158_5, vd_E158_5n, vd_E158_6, vd_E158_6n, vd_E158_7, vd_E158_7n, vd_E158_10, vd_E158_18, vd_E158_19, vd_E158_22, vd_E158_23, vd_E158_24, vd_E158_27, vd_E158_35, vd_E158_36, vd_E158_39, vd_E158_39n, vd_E158_40, vd_E158_43, vd_E158_46, vd_E158_46n, vd_E158_47, vd_E158_50]
  exact vd_OC.throw (by omega) (by omega)
end VDK2
