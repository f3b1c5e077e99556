/-! ===== the reference: decode and feed ===== -/
section VDO3
variable {d L : Nat} {xs : Nat → Int32} {M : vd_M} {Q : vd_M → (Option Value ⊕ Nat) → Prop} {v : Int32} {x0 x1 x2 x3 x4 : Int32} {z z0 z1 z2 : Int}
theorem vd_sh0a : vd_I 0 >>> (vd_I 3 &&& 31) = vd_I 0 := by decide
theorem vd_sh0b : vd_I 0 >>> (vd_I 5 &&& 31) = vd_I 0 := by decide
theorem vd_an0a : vd_I 0 &&& vd_I 3 = vd_I 0 := by decide
theorem vd_an0b : vd_I 0 &&& vd_I 7 = vd_I 0 := by decide
theorem vd_c170 (h : vd_FR L xs M) : vd_wp (d + 1) 170 0 [.ref 63, vd_U, vd_U, vd_U, vd_U, vd_U, vd_U] [] M (vd_RO L M 0 (vd_I 0)) := by
  obtain ⟨⟨k63, r63_0, k64, l64, i63_1, i63_2, i63_3, i63_4, i63_20, i63_21, i63_70, i63_71, r63_6, k66, l66, rA66, r63_7, r63_8, k67, l67, r67_0, k68, l68, iF68, r67_1, k69, l69, iF69, r67_2, k70, l70, iF70, r67_3, k71, l71, iF71, r63_22, k79, l79, i79_0, i79_1, i79_2, i79_3, i79_4⟩, k9, l9, iA9, k196, l196, n197⟩ := h
  simp (disch := first | assumption | (simp only [vd_MM, if_true, if_false, k63]; done) | omega | (simp only [vd_MM, if_true, if_false, k63]; first | assumption | omega)) only [vd_E170_0, vd_E170_0n, vd_E170_1, vd_E170_2, vd_E170_5, vd_E170_5n, vd_E170_6, vd_E170_7, vd_E170_10, vd_E170_10n, vd_E170_11, vd_E170_12, vd_E170_15, vd_E170_15n, vd_E170_16, vd_E170_19, vd_E170_20, vd_E170_20n, vd_E170_21, vd_E170_24, vd_E170_25, vd_E170_25n, vd_E170_26, vd_E170_27, vd_E170_30, vd_E170_31, vd_E170_34, vd_E170_34n, vd_E170_35, vd_E170_38, vd_E170_39, vd_E170_40, vd_E170_41, vd_E170_42, vd_E170_45, vd_E170_46, vd_E170_49, vd_E170_50, vd_E170_51, vd_E170_52, vd_E170_53, vd_E170_54, vd_E170_55, vd_E170_56, vd_E170_57, vd_E170_58, vd_E170_60, vd_E170_61, vd_E170_63, vd_E170_64, vd_E170_65, vd_E170_66, vd_E170_68, vd_E170_69, vd_E170_71, vd_E170_73, vd_E170_74, vd_E170_75, vd_E170_77, vd_E170_78, vd_E170_79, vd_E170_80, vd_E170_82, vd_E170_85, vd_E170_86, vd_E170_88, vd_E170_91, vd_E170_91n, vd_E170_92, vd_E170_95, vd_E170_96, vd_E170_98, vd_E170_99, vd_E170_100, vd_E170_103, vd_E170_104, vd_E170_105, vd_E170_108, vd_E170_108n, vd_E170_109, vd_E170_110, vd_E170_112, vd_E170_117, vd_E170_120, vd_E170_121, vd_E170_124, vd_E170_124n, vd_E170_125, vd_E170_126, vd_E170_127, vd_E170_131, vd_E170_131n, vd_E170_132, vd_E170_133, vd_E170_133n, vd_E170_134, vd_E170_137, vd_E170_140, vd_E170_141, vd_E170_144, vd_E170_148, vd_E170_149, vd_E170_149n, vd_E170_150, vd_E170_153, vd_E170_156, vd_E170_157, vd_E170_160, vd_E170_160n, vd_E170_161, vd_E170_164, vd_E170_165, vd_E170_166, vd_I_toInt, vd_MM, Nat.reduceEqDiff, and_false, and_true, and_self, if_false, if_true, i63_1, i63_21, Int.reduceLT, Int.reduceEq, reduceIte, vd_sh0a, vd_sh0b, vd_an0a, vd_an0b, vd_I_add, vd_I_sub, vd_I_mul, vd_I_neg, Int.reduceAdd]
  refine vd_E170_145 (Nat.le_of_ble_eq_true rfl) (by simp only [vd_MM, k63]) (vd_c168a ⟨_, rfl, ?_⟩)
  simp only [Option.toList_some, List.cons_append, List.nil_append]
  simp (disch := first | assumption | (simp only [vd_MM, if_true, if_false, k63]; done) | omega | (simp only [vd_MM, if_true, if_false, k63]; first | assumption | omega)) only [vd_E170_0, vd_E170_0n, vd_E170_1, vd_E170_2, vd_E170_5, vd_E170_5n, vd_E170_6, vd_E170_7, vd_E170_10, vd_E170_10n, vd_E170_11, vd_E170_12, vd_E170_15, vd_E170_15n, vd_E170_16, vd_E170_19, vd_E170_20, vd_E170_20n, vd_E170_21, vd_E170_24, vd_E170_25, vd_E170_25n, vd_E170_26, vd_E170_27, vd_E170_30, vd_E170_31, vd_E170_34, vd_E170_34n, vd_E170_35, vd_E170_38, vd_E170_39, vd_E170_40, vd_E170_41, vd_E170_42, vd_E170_45, vd_E170_46, vd_E170_49, vd_E170_50, vd_E170_51, vd_E170_52, vd_E170_53, vd_E170_54, vd_E170_55, vd_E170_56, vd_E170_57, vd_E170_58, vd_E170_60, vd_E170_61, vd_E170_63, vd_E170_64, vd_E170_65, vd_E170_66, vd_E170_68, vd_E170_69, vd_E170_71, vd_E170_73, vd_E170_74, vd_E170_75, vd_E170_77, vd_E170_78, vd_E170_79, vd_E170_80, vd_E170_82, vd_E170_85, vd_E170_86, vd_E170_88, vd_E170_91, vd_E170_91n, vd_E170_92, vd_E170_95, vd_E170_96, vd_E170_98, vd_E170_99, vd_E170_100, vd_E170_103, vd_E170_104, vd_E170_105, vd_E170_108, vd_E170_108n, vd_E170_109, vd_E170_110, vd_E170_112, vd_E170_117, vd_E170_120, vd_E170_121, vd_E170_124, vd_E170_124n, vd_E170_125, vd_E170_126, vd_E170_127, vd_E170_131, vd_E170_131n, vd_E170_132, vd_E170_133, vd_E170_133n, vd_E170_134, vd_E170_137, vd_E170_140, vd_E170_141, vd_E170_144, vd_E170_148, vd_E170_149, vd_E170_149n, vd_E170_150, vd_E170_153, vd_E170_156, vd_E170_157, vd_E170_160, vd_E170_160n, vd_E170_161, vd_E170_164, vd_E170_165, vd_E170_166, vd_I_toInt, vd_MM, Nat.reduceEqDiff, and_false, and_true, and_self, if_false, if_true, i63_21, vd_I_add, vd_I_sub, vd_I_mul, vd_I_neg, Int.reduceSub]
  exact ⟨_, rfl, fun q => rfl, by simp only [vd_MM, k63], by simp only [vd_MM, Nat.reduceEqDiff, and_self, and_false, if_true, if_false], by simp only [vd_MM, k196], by simp only [vd_MM, l196], by simp only [vd_MM], by simp only [vd_MM, k9], by simp only [vd_MM, l9], by simp only [vd_MM]; omega, by simp only [vd_MM]; omega⟩
/-- the tape's cells of the reference while a word is put -/
def vd_TR (L t f : Nat) (M M' : vd_M) : Prop := vd_k M' 63 = 12 ∧ vd_r M' 63 0 = some 64 ∧ vd_k M' 64 = 33 ∧ vd_l M' 64 = 65536 ∧ vd_i M' 63 1 = vd_I (t : Int) ∧ vd_k M' f = 32 ∧ vd_l M' f = 5 ∧ vd_i M' 63 2 = vd_I 0 ∧ vd_k M' 196 = 35 ∧ vd_l M' 196 = 1 ∧ vd_j M' 196 0 = vd_j M 196 0 ∧ vd_k M' 9 = 32 ∧ vd_l M' 9 = L ∧ vd_c M' ≤ vd_c M + 1 ∧ vd_s M' ≤ vd_s M + 5
theorem vd_c167a {f : Nat} {M0 : vd_M} (hf : 197 ≤ f) : ∀ (m j : Nat) (M : vd_M), j + m = 20 → vd_TR L j f M0 M → vd_wp d 167 60 [.ref 63, .int x0, .int x1, .int x2, .int x3, .int x4, .ref f, .int (vd_I (j : Int))] [] M (vd_RO L M0 0 (vd_I 20)) := by
  intro m
  induction m with
  | zero =>
    intro j M hj h
    have : j = 20 := by omega
    subst this
    obtain ⟨k63, r0, k64, l64, i1, kf, lf, i2, k196, l196, j196, k9, l9, c1, s1⟩ := h
    rw [vd_E167_60]
    simp (disch := first | assumption | (simp only [vd_MM, if_true, if_false]; done) | omega | (simp only [vd_MM, if_true, if_false]; first | assumption | omega)) only [vd_E167_0, vd_E167_0n, vd_E167_1, vd_E167_2, vd_E167_5, vd_E167_5n, vd_E167_6, vd_E167_7, vd_E167_7n, vd_E167_8, vd_E167_11, vd_E167_14, vd_E167_17, vd_E167_18, vd_E167_21, vd_E167_25, vd_E167_28, vd_E167_29, vd_E167_30, vd_E167_31, vd_E167_33, vd_E167_34, vd_E167_35, vd_E167_36, vd_E167_37, vd_E167_38, vd_E167_39, vd_E167_40, vd_E167_41, vd_E167_42, vd_E167_43, vd_E167_44, vd_E167_45, vd_E167_46, vd_E167_47, vd_E167_49, vd_E167_50, vd_E167_51, vd_E167_52, vd_E167_54, vd_E167_55, vd_E167_55n, vd_E167_57, vd_E167_58, vd_E167_62, vd_E167_64, vd_E167_67, vd_E167_67n, vd_E167_68, vd_E167_71, vd_E167_71n, vd_E167_72, vd_E167_73, vd_E167_76, vd_E167_77, vd_E167_78, vd_E167_79, vd_E167_82, vd_E167_82n, vd_E167_84, vd_E167_86, vd_E167_87, vd_E167_88, vd_E167_89, vd_E167_91, vd_E167_93, vd_E167_95, vd_E167_96, vd_E167_97, vd_E167_98, vd_E167_99, vd_E167_100, vd_E167_101, vd_E167_101b, vd_E167_102, vd_E167_105, vd_E167_108, vd_E167_108n, vd_E167_109, vd_E167_112, vd_I_toInt]
    simp only [Int.cast_ofNat_Int, Int.lt_irrefl, if_false]
    have i1 : vd_i M 63 1 = vd_I 20 := i1
    rw [i1]
    exact ⟨_, rfl, fun _ => rfl, k63, i2, k196, l196, j196, k9, l9, c1, s1⟩
  | succ m ih =>
    intro j M hj h
    have ih := fun M => ih (j + 1) M (by omega)
    obtain ⟨k63, r0, k64, l64, i1, kf, lf, i2, k196, l196, j196, k9, l9, c1, s1⟩ := h
    have hlt : (j : Int) < 20 := by omega
    have hdiv := vd_I_div (a := (j : Int)) (b := 4) (by omega) (by omega) (by omega) (by omega)
    have hrem := vd_I_rem (a := (j : Int)) (b := 4) (by omega) (by omega) (by omega) (by omega)
    have hne := vd_I_ne0 (b := 4) (by omega) (by omega)
    have hf64 : ¬ 64 = f := by omega
    rw [vd_E167_60]
    simp (disch := first | assumption | (simp only [vd_MM, if_true, if_false, k63, k64, l64, kf, lf]; done) | omega | (simp only [vd_MM, if_true, if_false, k63, k64, l64, kf, lf]; first | assumption | omega)) only [vd_E167_0, vd_E167_0n, vd_E167_1, vd_E167_2, vd_E167_5, vd_E167_5n, vd_E167_6, vd_E167_7, vd_E167_7n, vd_E167_8, vd_E167_11, vd_E167_14, vd_E167_17, vd_E167_18, vd_E167_21, vd_E167_25, vd_E167_28, vd_E167_29, vd_E167_30, vd_E167_31, vd_E167_33, vd_E167_34, vd_E167_35, vd_E167_36, vd_E167_37, vd_E167_38, vd_E167_39, vd_E167_40, vd_E167_41, vd_E167_42, vd_E167_43, vd_E167_44, vd_E167_45, vd_E167_46, vd_E167_47, vd_E167_49, vd_E167_50, vd_E167_51, vd_E167_52, vd_E167_54, vd_E167_55, vd_E167_55n, vd_E167_57, vd_E167_58, vd_E167_62, vd_E167_64, vd_E167_67, vd_E167_67n, vd_E167_68, vd_E167_71, vd_E167_71n, vd_E167_72, vd_E167_73, vd_E167_76, vd_E167_77, vd_E167_78, vd_E167_79, vd_E167_82, vd_E167_82n, vd_E167_84, vd_E167_86, vd_E167_87, vd_E167_88, vd_E167_89, vd_E167_91, vd_E167_93, vd_E167_95, vd_E167_96, vd_E167_97, vd_E167_98, vd_E167_99, vd_E167_100, vd_E167_101, vd_E167_101b, vd_E167_102, vd_E167_105, vd_E167_108, vd_E167_108n, vd_E167_109, vd_E167_112, vd_I_toInt, hlt, if_true, r0, vd_vr_some, i1, vd_I_add, vd_I_sub, vd_I_mul, vd_I_neg, hrem, hdiv]
    refine ih _ ⟨?_, ?_, ?_, ?_, ?_, ?_, ?_, ?_, ?_, ?_, ?_, ?_, ?_, ?_, ?_⟩
    · simp only [vd_MM, k63]
    · simp only [vd_MM, r0]
    · simp only [vd_MM, k64]
    · simp only [vd_MM, l64]
    · simp only [vd_MM, Nat.reduceEqDiff, false_and, and_self, if_true, if_false]; rfl
    · simp only [vd_MM, kf]
    · simp only [vd_MM, lf]
    · simp only [vd_MM, Nat.reduceEqDiff, false_and, and_false, if_true, if_false, i2]
    · simp only [vd_MM, k196]
    · simp only [vd_MM, l196]
    · simp only [vd_MM, j196]
    · simp only [vd_MM, k9]
    · simp only [vd_MM, l9]
    · simp only [vd_MM]; omega
    · simp only [vd_MM]; omega
theorem vd_c167 (h : vd_FR L xs M) : vd_wp (d + 1) 167 0 [.ref 63, .int x0, .int x1, .int x2, .int x3, .int x4, vd_U, vd_U] [] M (vd_RO L M 0 (vd_I 20)) := by
  obtain ⟨⟨k63, r63_0, k64, l64, i63_1, i63_2, i63_3, i63_4, i63_20, i63_21, i63_70, i63_71, r63_6, k66, l66, rA66, r63_7, r63_8, k67, l67, r67_0, k68, l68, iF68, r67_1, k69, l69, iF69, r67_2, k70, l70, iF70, r67_3, k71, l71, iF71, r63_22, k79, l79, i79_0, i79_1, i79_2, i79_3, i79_4⟩, k9, l9, iA9, k196, l196, n197⟩ := h
  simp (disch := first | assumption | (simp only [vd_MM, if_true, if_false, k63]; done) | omega | (simp only [vd_MM, if_true, if_false, k63]; first | assumption | omega)) only [vd_E167_0, vd_E167_0n, vd_E167_1, vd_E167_2, vd_E167_5, vd_E167_5n, vd_E167_6, vd_E167_7, vd_E167_7n, vd_E167_8, vd_E167_11, vd_E167_14, vd_E167_17, vd_E167_18, vd_E167_21, vd_E167_25, vd_E167_28, vd_E167_29, vd_E167_30, vd_E167_31, vd_E167_33, vd_E167_34, vd_E167_35, vd_E167_36, vd_E167_37, vd_E167_38, vd_E167_39, vd_E167_40, vd_E167_41, vd_E167_42, vd_E167_43, vd_E167_44, vd_E167_45, vd_E167_46, vd_E167_47, vd_E167_49, vd_E167_50, vd_E167_51, vd_E167_52, vd_E167_54, vd_E167_55, vd_E167_55n, vd_E167_57, vd_E167_58, vd_E167_62, vd_E167_64, vd_E167_67, vd_E167_67n, vd_E167_68, vd_E167_71, vd_E167_71n, vd_E167_72, vd_E167_73, vd_E167_76, vd_E167_77, vd_E167_78, vd_E167_79, vd_E167_82, vd_E167_82n, vd_E167_84, vd_E167_86, vd_E167_87, vd_E167_88, vd_E167_89, vd_E167_91, vd_E167_93, vd_E167_95, vd_E167_96, vd_E167_97, vd_E167_98, vd_E167_99, vd_E167_100, vd_E167_101, vd_E167_101b, vd_E167_102, vd_E167_105, vd_E167_108, vd_E167_108n, vd_E167_109, vd_E167_112, vd_I_toInt, vd_MM, Nat.reduceEqDiff, and_false, if_false, i63_1, Int.reduceLT, reduceIte]
  refine vd_E167_22 (Nat.le_of_ble_eq_true rfl) (by simp only [vd_MM, k63]) (vd_c168a ⟨_, rfl, ?_⟩)
  simp only [Option.toList_some, List.cons_append, List.nil_append]
  have e63 : ¬ 63 = vd_n M := by omega
  have e64 : ¬ 64 = vd_n M := by omega
  have e9 : ¬ 9 = vd_n M := by omega
  have e196 : ¬ 196 = vd_n M := by omega
  simp (disch := first | assumption | (simp only [vd_MM, if_true, if_false, k63]; done) | omega | (simp only [vd_MM, if_true, if_false, k63]; first | assumption | omega)) only [vd_E167_0, vd_E167_0n, vd_E167_1, vd_E167_2, vd_E167_5, vd_E167_5n, vd_E167_6, vd_E167_7, vd_E167_7n, vd_E167_8, vd_E167_11, vd_E167_14, vd_E167_17, vd_E167_18, vd_E167_21, vd_E167_25, vd_E167_28, vd_E167_29, vd_E167_30, vd_E167_31, vd_E167_33, vd_E167_34, vd_E167_35, vd_E167_36, vd_E167_37, vd_E167_38, vd_E167_39, vd_E167_40, vd_E167_41, vd_E167_42, vd_E167_43, vd_E167_44, vd_E167_45, vd_E167_46, vd_E167_47, vd_E167_49, vd_E167_50, vd_E167_51, vd_E167_52, vd_E167_54, vd_E167_55, vd_E167_55n, vd_E167_57, vd_E167_58, vd_E167_62, vd_E167_64, vd_E167_67, vd_E167_67n, vd_E167_68, vd_E167_71, vd_E167_71n, vd_E167_72, vd_E167_73, vd_E167_76, vd_E167_77, vd_E167_78, vd_E167_79, vd_E167_82, vd_E167_82n, vd_E167_84, vd_E167_86, vd_E167_87, vd_E167_88, vd_E167_89, vd_E167_91, vd_E167_93, vd_E167_95, vd_E167_96, vd_E167_97, vd_E167_98, vd_E167_99, vd_E167_100, vd_E167_101, vd_E167_101b, vd_E167_102, vd_E167_105, vd_E167_108, vd_E167_108n, vd_E167_109, vd_E167_112, vd_I_toInt, if_true, vd_MM]
  refine vd_c167a n197 20 0 _ (by omega) ⟨?_, ?_, ?_, ?_, ?_, ?_, ?_, ?_, ?_, ?_, ?_, ?_, ?_, ?_, ?_⟩
  · simp only [vd_MM, e63, if_false, k63]
  · simp only [vd_MM, e63, if_false, r63_0]
  · simp only [vd_MM, e64, if_false, k64]
  · simp only [vd_MM, e64, if_false, l64]
  · simp only [vd_MM, e63, if_false, false_and, and_false, Nat.reduceEqDiff, i63_1]; rfl
  · simp only [vd_MM, if_true]
  · simp only [vd_MM, if_true]; rfl
  · simp only [vd_MM, e63, if_false, false_and, and_self, if_true]
  · simp only [vd_MM, e196, if_false, k196]
  · simp only [vd_MM, e196, if_false, l196]
  · simp only [vd_MM, e196, if_false]
  · simp only [vd_MM, e9, if_false, k9]
  · simp only [vd_MM, e9, if_false, l9]
  · simp only [vd_MM]; omega
  · simp only [vd_MM, Int.reduceToNat]; omega
end VDO3
