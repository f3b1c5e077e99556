/-! ===== loops of the constructors ===== -/
section VDQ
variable {d : Nat} {M : vd_M} {Q : vd_M → (Option Value ⊕ Nat) → Prop}
theorem vd_fill1 {o len : Nat} {x : Int32} (ho : 10 ≤ o) (hk : vd_k M o = 32) (hl : vd_l M o = len) (hlen : len ≤ 65536) (hQ : Q (vd_sa M o (fun b => if b < len then x else vd_i M o b)) (.inl none)) :
    ∀ m j, j + m = len → vd_wp d 286 5 [.ref o, .int x, .int (vd_I (j : Int)), .int (vd_I (len : Int))] [] (vd_sa M o (fun b => if b < j then x else vd_i M o b)) Q := by
  intro m
  induction m with
  | zero =>
    intro j hj
    have : j = len := by omega
    subst this
    rw [vd_E286_5]
    simp (disch := first | assumption | (simp only [vd_MM, if_true, if_false]; done) | omega | (simp only [vd_MM, if_true, if_false]; first | assumption | omega)) only [vd_E286_0, vd_E286_1, vd_E286_2, vd_E286_2n, vd_E286_3, vd_E286_4, vd_E286_6, vd_E286_7, vd_E286_10, vd_E286_10n, vd_E286_11, vd_E286_12, vd_E286_13, vd_E286_14, vd_E286_17, vd_E286_20, vd_I_toInt, Int.lt_irrefl, if_false]
    exact hQ
  | succ m ih =>
    intro j hj
    have ih := ih (j + 1) (by omega)
    rw [vd_E286_5]
    have hlt : (j : Int) < (len : Int) := by omega
    simp (disch := first | assumption | (simp only [vd_MM, if_true, if_false]; done) | omega | (simp only [vd_MM, if_true, if_false]; first | assumption | omega)) only [vd_E286_0, vd_E286_1, vd_E286_2, vd_E286_2n, vd_E286_3, vd_E286_4, vd_E286_6, vd_E286_7, vd_E286_10, vd_E286_10n, vd_E286_11, vd_E286_12, vd_E286_13, vd_E286_14, vd_E286_17, vd_E286_20, vd_I_toInt, hlt, if_true, vd_I_add, vd_I_sub, vd_I_mul, vd_I_neg]
    rw [vd_si_sa]
    have e : (fun b => if b = (j : Int).toNat then x else if b < j then x else vd_i M o b) = fun b => if b < j + 1 then x else vd_i M o b := by
      funext b
      rw [Int.toNat_natCast]
      by_cases h1 : b = j
      · rw [if_pos h1, if_pos (by omega)]
      · by_cases h2 : b < j
        · rw [if_neg h1, if_pos h2, if_pos (by omega)]
        · rw [if_neg h1, if_neg h2, if_neg (by omega)]
    rw [e]
    exact ih
theorem vd_fill {o len : Nat} {x : Int32} (ho : 10 ≤ o) (hk : vd_k M o = 32) (hl : vd_l M o = len) (hlen : len ≤ 65536) (hQ : Q (vd_sa M o (fun b => if b < len then x else vd_i M o b)) (.inl none)) : vd_wp d 286 0 [.ref o, .int x, vd_U, vd_U] [] M Q := by
  have h := vd_fill1 (d := d) ho hk hl hlen hQ len 0 (by omega)
  simp only [Nat.not_lt_zero, if_false, vd_sa_self] at h
  simp (disch := first | assumption | (simp only [vd_MM, if_true, if_false]; done) | omega | (simp only [vd_MM, if_true, if_false]; first | assumption | omega)) only [vd_E286_0, vd_E286_1, vd_E286_2, vd_E286_2n, vd_E286_3, vd_E286_4, vd_E286_6, vd_E286_7, vd_E286_10, vd_E286_10n, vd_E286_11, vd_E286_12, vd_E286_13, vd_E286_14, vd_E286_17, vd_E286_20]
  rw [hl]
  exact h
/-! the table of the check -/
theorem vd_crcIn {o : Nat} {x1 : Int32} (hQ : ∀ x, vd_wp d 1 233 [.ref o, .int x1, .int x, .int (vd_I 8)] [] M Q) : ∀ (m j : Nat) (x : Int32), j + m = 8 → vd_wp d 1 201 [.ref o, .int x1, .int x, .int (vd_I (j : Int))] [] M Q := by
  intro m
  induction m with
  | zero =>
    intro j x hj
    have : j = 8 := by omega
    subst this
    rw [vd_E1_201]
    simp (disch := first | assumption | (simp only [vd_MM, if_true, if_false]; done) | omega | (simp only [vd_MM, if_true, if_false]; first | assumption | omega)) only [vd_E1_0, vd_E1_0n, vd_E1_1, vd_E1_4, vd_E1_4n, vd_E1_5, vd_E1_7, vd_E1_9, vd_E1_9n, vd_E1_12, vd_E1_12n, vd_E1_13, vd_E1_14, vd_E1_17, vd_E1_17n, vd_E1_18, vd_E1_19, vd_E1_22, vd_E1_22n, vd_E1_23, vd_E1_25, vd_E1_28, vd_E1_28n, vd_E1_31, vd_E1_31n, vd_E1_32, vd_E1_34, vd_E1_37, vd_E1_37n, vd_E1_40, vd_E1_40n, vd_E1_41, vd_E1_44, vd_E1_46, vd_E1_46n, vd_E1_49, vd_E1_49n, vd_E1_50, vd_E1_53, vd_E1_55, vd_E1_55n, vd_E1_58, vd_E1_58n, vd_E1_59, vd_E1_62, vd_E1_63, vd_E1_63n, vd_E1_64, vd_E1_70, vd_E1_70n, vd_E1_73, vd_E1_73n, vd_E1_74, vd_E1_77, vd_E1_81, vd_E1_81n, vd_E1_84, vd_E1_84n, vd_E1_85, vd_E1_88, vd_E1_92, vd_E1_92n, vd_E1_95, vd_E1_95n, vd_E1_96, vd_E1_99, vd_E1_103, vd_E1_103n, vd_E1_106, vd_E1_106n, vd_E1_107, vd_E1_110, vd_E1_111, vd_E1_111n, vd_E1_112, vd_E1_118, vd_E1_118n, vd_E1_121, vd_E1_121n, vd_E1_122, vd_E1_125, vd_E1_129, vd_E1_129n, vd_E1_132, vd_E1_132n, vd_E1_133, vd_E1_136, vd_E1_137, vd_E1_137n, vd_E1_138, vd_E1_141, vd_E1_141n, vd_E1_142, vd_E1_145, vd_E1_145n, vd_E1_146, vd_E1_149, vd_E1_149n, vd_E1_150, vd_E1_156, vd_E1_156n, vd_E1_159, vd_E1_159n, vd_E1_160, vd_E1_163, vd_E1_164, vd_E1_164n, vd_E1_165, vd_E1_168, vd_E1_168n, vd_E1_169, vd_E1_175, vd_E1_175n, vd_E1_178, vd_E1_178n, vd_E1_179, vd_E1_182, vd_E1_188, vd_E1_189, vd_E1_191, vd_E1_194, vd_E1_197, vd_E1_198, vd_E1_199, vd_E1_200, vd_E1_202, vd_E1_204, vd_E1_207, vd_E1_208, vd_E1_209, vd_E1_210, vd_E1_211, vd_E1_214, vd_E1_215, vd_E1_216, vd_E1_217, vd_E1_219, vd_E1_220, vd_E1_223, vd_E1_224, vd_E1_225, vd_E1_226, vd_E1_227, vd_E1_230, vd_E1_234, vd_E1_237, vd_E1_238, vd_E1_239, vd_E1_240, vd_E1_243, vd_E1_246, vd_I_toInt]
    simp only [Int.cast_ofNat_Int, Int.lt_irrefl, if_false]
    exact hQ x
  | succ m ih =>
    intro j x hj
    have ih := fun x => ih (j + 1) x (by omega)
    rw [vd_E1_201]
    have hlt : (j : Int) < 8 := by omega
    simp (disch := first | assumption | (simp only [vd_MM, if_true, if_false]; done) | omega | (simp only [vd_MM, if_true, if_false]; first | assumption | omega)) only [vd_E1_0, vd_E1_0n, vd_E1_1, vd_E1_4, vd_E1_4n, vd_E1_5, vd_E1_7, vd_E1_9, vd_E1_9n, vd_E1_12, vd_E1_12n, vd_E1_13, vd_E1_14, vd_E1_17, vd_E1_17n, vd_E1_18, vd_E1_19, vd_E1_22, vd_E1_22n, vd_E1_23, vd_E1_25, vd_E1_28, vd_E1_28n, vd_E1_31, vd_E1_31n, vd_E1_32, vd_E1_34, vd_E1_37, vd_E1_37n, vd_E1_40, vd_E1_40n, vd_E1_41, vd_E1_44, vd_E1_46, vd_E1_46n, vd_E1_49, vd_E1_49n, vd_E1_50, vd_E1_53, vd_E1_55, vd_E1_55n, vd_E1_58, vd_E1_58n, vd_E1_59, vd_E1_62, vd_E1_63, vd_E1_63n, vd_E1_64, vd_E1_70, vd_E1_70n, vd_E1_73, vd_E1_73n, vd_E1_74, vd_E1_77, vd_E1_81, vd_E1_81n, vd_E1_84, vd_E1_84n, vd_E1_85, vd_E1_88, vd_E1_92, vd_E1_92n, vd_E1_95, vd_E1_95n, vd_E1_96, vd_E1_99, vd_E1_103, vd_E1_103n, vd_E1_106, vd_E1_106n, vd_E1_107, vd_E1_110, vd_E1_111, vd_E1_111n, vd_E1_112, vd_E1_118, vd_E1_118n, vd_E1_121, vd_E1_121n, vd_E1_122, vd_E1_125, vd_E1_129, vd_E1_129n, vd_E1_132, vd_E1_132n, vd_E1_133, vd_E1_136, vd_E1_137, vd_E1_137n, vd_E1_138, vd_E1_141, vd_E1_141n, vd_E1_142, vd_E1_145, vd_E1_145n, vd_E1_146, vd_E1_149, vd_E1_149n, vd_E1_150, vd_E1_156, vd_E1_156n, vd_E1_159, vd_E1_159n, vd_E1_160, vd_E1_163, vd_E1_164, vd_E1_164n, vd_E1_165, vd_E1_168, vd_E1_168n, vd_E1_169, vd_E1_175, vd_E1_175n, vd_E1_178, vd_E1_178n, vd_E1_179, vd_E1_182, vd_E1_188, vd_E1_189, vd_E1_191, vd_E1_194, vd_E1_197, vd_E1_198, vd_E1_199, vd_E1_200, vd_E1_202, vd_E1_204, vd_E1_207, vd_E1_208, vd_E1_209, vd_E1_210, vd_E1_211, vd_E1_214, vd_E1_215, vd_E1_216, vd_E1_217, vd_E1_219, vd_E1_220, vd_E1_223, vd_E1_224, vd_E1_225, vd_E1_226, vd_E1_227, vd_E1_230, vd_E1_234, vd_E1_237, vd_E1_238, vd_E1_239, vd_E1_240, vd_E1_243, vd_E1_246, vd_I_toInt, hlt, if_true, vd_I_add, vd_I_sub, vd_I_mul, vd_I_neg]
    split <;> exact ih _
theorem vd_crc {o c : Nat} (hk : vd_k M o = 0) (hr : vd_r M o 11 = some c) (hc : 10 ≤ c) (hkc : vd_k M c = 32) (hl : vd_l M c = 256) (hQ : ∀ f, Q (vd_sa M c f) (.inl none)) : ∀ (m j : Nat) (a2 a3 : Value) (f : Nat → Int32), j + m = 256 → vd_wp d 1 190 [.ref o, .int (vd_I (j : Int)), a2, a3] [] (vd_sa M c f) Q := by
  intro m
  induction m with
  | zero =>
    intro j a2 a3 f hj
    have : j = 256 := by omega
    subst this
    rw [vd_E1_190]
    simp (disch := first | assumption | (simp only [vd_MM, if_true, if_false]; done) | omega | (simp only [vd_MM, if_true, if_false]; first | assumption | omega)) only [vd_E1_0, vd_E1_0n, vd_E1_1, vd_E1_4, vd_E1_4n, vd_E1_5, vd_E1_7, vd_E1_9, vd_E1_9n, vd_E1_12, vd_E1_12n, vd_E1_13, vd_E1_14, vd_E1_17, vd_E1_17n, vd_E1_18, vd_E1_19, vd_E1_22, vd_E1_22n, vd_E1_23, vd_E1_25, vd_E1_28, vd_E1_28n, vd_E1_31, vd_E1_31n, vd_E1_32, vd_E1_34, vd_E1_37, vd_E1_37n, vd_E1_40, vd_E1_40n, vd_E1_41, vd_E1_44, vd_E1_46, vd_E1_46n, vd_E1_49, vd_E1_49n, vd_E1_50, vd_E1_53, vd_E1_55, vd_E1_55n, vd_E1_58, vd_E1_58n, vd_E1_59, vd_E1_62, vd_E1_63, vd_E1_63n, vd_E1_64, vd_E1_70, vd_E1_70n, vd_E1_73, vd_E1_73n, vd_E1_74, vd_E1_77, vd_E1_81, vd_E1_81n, vd_E1_84, vd_E1_84n, vd_E1_85, vd_E1_88, vd_E1_92, vd_E1_92n, vd_E1_95, vd_E1_95n, vd_E1_96, vd_E1_99, vd_E1_103, vd_E1_103n, vd_E1_106, vd_E1_106n, vd_E1_107, vd_E1_110, vd_E1_111, vd_E1_111n, vd_E1_112, vd_E1_118, vd_E1_118n, vd_E1_121, vd_E1_121n, vd_E1_122, vd_E1_125, vd_E1_129, vd_E1_129n, vd_E1_132, vd_E1_132n, vd_E1_133, vd_E1_136, vd_E1_137, vd_E1_137n, vd_E1_138, vd_E1_141, vd_E1_141n, vd_E1_142, vd_E1_145, vd_E1_145n, vd_E1_146, vd_E1_149, vd_E1_149n, vd_E1_150, vd_E1_156, vd_E1_156n, vd_E1_159, vd_E1_159n, vd_E1_160, vd_E1_163, vd_E1_164, vd_E1_164n, vd_E1_165, vd_E1_168, vd_E1_168n, vd_E1_169, vd_E1_175, vd_E1_175n, vd_E1_178, vd_E1_178n, vd_E1_179, vd_E1_182, vd_E1_188, vd_E1_189, vd_E1_191, vd_E1_194, vd_E1_197, vd_E1_198, vd_E1_199, vd_E1_200, vd_E1_202, vd_E1_204, vd_E1_207, vd_E1_208, vd_E1_209, vd_E1_210, vd_E1_211, vd_E1_214, vd_E1_215, vd_E1_216, vd_E1_217, vd_E1_219, vd_E1_220, vd_E1_223, vd_E1_224, vd_E1_225, vd_E1_226, vd_E1_227, vd_E1_230, vd_E1_233, vd_E1_233n, vd_E1_234, vd_E1_237, vd_E1_238, vd_E1_239, vd_E1_240, vd_E1_243, vd_E1_246, vd_I_toInt]
    simp only [Int.cast_ofNat_Int, Int.lt_irrefl, if_false]
    exact hQ f
  | succ m ih =>
    intro j a2 a3 f hj
    have ih := fun a2 a3 f => ih (j + 1) a2 a3 f (by omega)
    rw [vd_E1_190]
    have hlt : (j : Int) < 256 := by omega
    simp (disch := first | assumption | (simp only [vd_MM, if_true, if_false]; done) | omega | (simp only [vd_MM, if_true, if_false]; first | assumption | omega)) only [vd_E1_0, vd_E1_0n, vd_E1_1, vd_E1_4, vd_E1_4n, vd_E1_5, vd_E1_7, vd_E1_9, vd_E1_9n, vd_E1_12, vd_E1_12n, vd_E1_13, vd_E1_14, vd_E1_17, vd_E1_17n, vd_E1_18, vd_E1_19, vd_E1_22, vd_E1_22n, vd_E1_23, vd_E1_25, vd_E1_28, vd_E1_28n, vd_E1_31, vd_E1_31n, vd_E1_32, vd_E1_34, vd_E1_37, vd_E1_37n, vd_E1_40, vd_E1_40n, vd_E1_41, vd_E1_44, vd_E1_46, vd_E1_46n, vd_E1_49, vd_E1_49n, vd_E1_50, vd_E1_53, vd_E1_55, vd_E1_55n, vd_E1_58, vd_E1_58n, vd_E1_59, vd_E1_62, vd_E1_63, vd_E1_63n, vd_E1_64, vd_E1_70, vd_E1_70n, vd_E1_73, vd_E1_73n, vd_E1_74, vd_E1_77, vd_E1_81, vd_E1_81n, vd_E1_84, vd_E1_84n, vd_E1_85, vd_E1_88, vd_E1_92, vd_E1_92n, vd_E1_95, vd_E1_95n, vd_E1_96, vd_E1_99, vd_E1_103, vd_E1_103n, vd_E1_106, vd_E1_106n, vd_E1_107, vd_E1_110, vd_E1_111, vd_E1_111n, vd_E1_112, vd_E1_118, vd_E1_118n, vd_E1_121, vd_E1_121n, vd_E1_122, vd_E1_125, vd_E1_129, vd_E1_129n, vd_E1_132, vd_E1_132n, vd_E1_133, vd_E1_136, vd_E1_137, vd_E1_137n, vd_E1_138, vd_E1_141, vd_E1_141n, vd_E1_142, vd_E1_145, vd_E1_145n, vd_E1_146, vd_E1_149, vd_E1_149n, vd_E1_150, vd_E1_156, vd_E1_156n, vd_E1_159, vd_E1_159n, vd_E1_160, vd_E1_163, vd_E1_164, vd_E1_164n, vd_E1_165, vd_E1_168, vd_E1_168n, vd_E1_169, vd_E1_175, vd_E1_175n, vd_E1_178, vd_E1_178n, vd_E1_179, vd_E1_182, vd_E1_188, vd_E1_189, vd_E1_191, vd_E1_194, vd_E1_197, vd_E1_198, vd_E1_199, vd_E1_200, vd_E1_202, vd_E1_204, vd_E1_207, vd_E1_208, vd_E1_209, vd_E1_210, vd_E1_211, vd_E1_214, vd_E1_215, vd_E1_216, vd_E1_217, vd_E1_219, vd_E1_220, vd_E1_223, vd_E1_224, vd_E1_225, vd_E1_226, vd_E1_227, vd_E1_230, vd_E1_233, vd_E1_233n, vd_E1_234, vd_E1_237, vd_E1_238, vd_E1_239, vd_E1_240, vd_E1_243, vd_E1_246, vd_I_toInt, hlt, if_true, vd_I_add, vd_I_sub, vd_I_mul, vd_I_neg]
    refine vd_crcIn (fun x => ?_) 8 0 _ (by omega)
    rw [vd_E1_233]
    simp (disch := first | assumption | (simp only [vd_MM, if_true, if_false, hl]; done) | omega | (simp only [vd_MM, if_true, if_false, hl]; first | assumption | omega)) only [vd_E1_0, vd_E1_0n, vd_E1_1, vd_E1_4, vd_E1_4n, vd_E1_5, vd_E1_7, vd_E1_9, vd_E1_9n, vd_E1_12, vd_E1_12n, vd_E1_13, vd_E1_14, vd_E1_17, vd_E1_17n, vd_E1_18, vd_E1_19, vd_E1_22, vd_E1_22n, vd_E1_23, vd_E1_25, vd_E1_28, vd_E1_28n, vd_E1_31, vd_E1_31n, vd_E1_32, vd_E1_34, vd_E1_37, vd_E1_37n, vd_E1_40, vd_E1_40n, vd_E1_41, vd_E1_44, vd_E1_46, vd_E1_46n, vd_E1_49, vd_E1_49n, vd_E1_50, vd_E1_53, vd_E1_55, vd_E1_55n, vd_E1_58, vd_E1_58n, vd_E1_59, vd_E1_62, vd_E1_63, vd_E1_63n, vd_E1_64, vd_E1_70, vd_E1_70n, vd_E1_73, vd_E1_73n, vd_E1_74, vd_E1_77, vd_E1_81, vd_E1_81n, vd_E1_84, vd_E1_84n, vd_E1_85, vd_E1_88, vd_E1_92, vd_E1_92n, vd_E1_95, vd_E1_95n, vd_E1_96, vd_E1_99, vd_E1_103, vd_E1_103n, vd_E1_106, vd_E1_106n, vd_E1_107, vd_E1_110, vd_E1_111, vd_E1_111n, vd_E1_112, vd_E1_118, vd_E1_118n, vd_E1_121, vd_E1_121n, vd_E1_122, vd_E1_125, vd_E1_129, vd_E1_129n, vd_E1_132, vd_E1_132n, vd_E1_133, vd_E1_136, vd_E1_137, vd_E1_137n, vd_E1_138, vd_E1_141, vd_E1_141n, vd_E1_142, vd_E1_145, vd_E1_145n, vd_E1_146, vd_E1_149, vd_E1_149n, vd_E1_150, vd_E1_156, vd_E1_156n, vd_E1_159, vd_E1_159n, vd_E1_160, vd_E1_163, vd_E1_164, vd_E1_164n, vd_E1_165, vd_E1_168, vd_E1_168n, vd_E1_169, vd_E1_175, vd_E1_175n, vd_E1_178, vd_E1_178n, vd_E1_179, vd_E1_182, vd_E1_188, vd_E1_189, vd_E1_191, vd_E1_194, vd_E1_197, vd_E1_198, vd_E1_199, vd_E1_200, vd_E1_202, vd_E1_204, vd_E1_207, vd_E1_208, vd_E1_209, vd_E1_210, vd_E1_211, vd_E1_214, vd_E1_215, vd_E1_216, vd_E1_217, vd_E1_219, vd_E1_220, vd_E1_223, vd_E1_224, vd_E1_225, vd_E1_226, vd_E1_227, vd_E1_230, vd_E1_233, vd_E1_233n, vd_E1_234, vd_E1_237, vd_E1_238, vd_E1_239, vd_E1_240, vd_E1_243, vd_E1_246, vd_I_toInt, vd_MM, hr, vd_vr_some, vd_I_add, vd_I_sub, vd_I_mul, vd_I_neg]
    rw [vd_si_sa]
    exact ih _ _ _
/-! the waves -/
theorem vd_wave {z : Int} (h1 : 0 ≤ z) (h2 : z < 128) (hk : vd_k M 0 = 32) (hl : vd_l M 0 = 33) (hQ : ∀ x, Q M (.inl (some (.int x)))) : vd_wp d 11 0 [.int (vd_I z), vd_U] [] M Q := by
  simp (disch := first | assumption | (simp only [vd_MM, if_true, if_false]; done) | omega | (simp only [vd_MM, if_true, if_false]; first | assumption | omega)) only [vd_E11_0, vd_E11_1, vd_E11_3, vd_E11_6, vd_E11_9, vd_E11_10, vd_E11_11, vd_E11_14, vd_E11_15, vd_E11_17, vd_E11_19, vd_E11_22, vd_E11_25, vd_E11_27, vd_E11_28, vd_E11_29, vd_E11_30, vd_E11_31, vd_E11_34, vd_E11_37, vd_E11_38, vd_E11_39, vd_I_toInt, vd_I_add, vd_I_sub, vd_I_mul, vd_I_neg]
  have key : ∀ y : Int, 0 ≤ y → y ≤ 64 → vd_wp d 11 16 [.int (vd_I z), .int (vd_I y)] [] M Q := by
    intro y g1 g2
    rw [vd_E11_16]
    simp (disch := first | assumption | (simp only [vd_MM, if_true, if_false]; done) | omega | (simp only [vd_MM, if_true, if_false]; first | assumption | omega)) only [vd_E11_0, vd_E11_1, vd_E11_3, vd_E11_6, vd_E11_9, vd_E11_10, vd_E11_11, vd_E11_14, vd_E11_15, vd_E11_16, vd_E11_17, vd_E11_19, vd_E11_22, vd_E11_25, vd_E11_27, vd_E11_28, vd_E11_29, vd_E11_30, vd_E11_31, vd_E11_34, vd_E11_37, vd_E11_38, vd_E11_39, vd_I_toInt, vd_I_add, vd_I_sub, vd_I_mul, vd_I_neg]
    by_cases h : 32 < y
    · simp (disch := first | assumption | (simp only [vd_MM, if_true, if_false, hl]; done) | omega | (simp only [vd_MM, if_true, if_false, hl]; first | assumption | omega)) only [vd_E11_0, vd_E11_1, vd_E11_3, vd_E11_6, vd_E11_9, vd_E11_10, vd_E11_11, vd_E11_14, vd_E11_15, vd_E11_16, vd_E11_17, vd_E11_19, vd_E11_22, vd_E11_25, vd_E11_27, vd_E11_28, vd_E11_29, vd_E11_30, vd_E11_31, vd_E11_34, vd_E11_37, vd_E11_38, vd_E11_39, vd_I_toInt, vd_I_add, vd_I_sub, vd_I_mul, vd_I_neg, if_pos h]
      exact hQ _
    · simp (disch := first | assumption | (simp only [vd_MM, if_true, if_false, hl]; done) | omega | (simp only [vd_MM, if_true, if_false, hl]; first | assumption | omega)) only [vd_E11_0, vd_E11_1, vd_E11_3, vd_E11_6, vd_E11_9, vd_E11_10, vd_E11_11, vd_E11_14, vd_E11_15, vd_E11_16, vd_E11_17, vd_E11_19, vd_E11_22, vd_E11_25, vd_E11_27, vd_E11_28, vd_E11_29, vd_E11_30, vd_E11_31, vd_E11_34, vd_E11_37, vd_E11_38, vd_E11_39, vd_I_toInt, vd_I_add, vd_I_sub, vd_I_mul, vd_I_neg, if_neg h]
      exact hQ _
  by_cases h : 64 < z
  · simp (disch := first | assumption | (simp only [vd_MM, if_true, if_false]; done) | omega | (simp only [vd_MM, if_true, if_false]; first | assumption | omega)) only [vd_E11_0, vd_E11_1, vd_E11_3, vd_E11_6, vd_E11_9, vd_E11_10, vd_E11_11, vd_E11_14, vd_E11_15, vd_E11_17, vd_E11_19, vd_E11_22, vd_E11_25, vd_E11_27, vd_E11_28, vd_E11_29, vd_E11_30, vd_E11_31, vd_E11_34, vd_E11_37, vd_E11_38, vd_E11_39, vd_I_toInt, vd_I_add, vd_I_sub, vd_I_mul, vd_I_neg, if_pos h]
    exact key _ (by omega) (by omega)
  · simp (disch := first | assumption | (simp only [vd_MM, if_true, if_false]; done) | omega | (simp only [vd_MM, if_true, if_false]; first | assumption | omega)) only [vd_E11_0, vd_E11_1, vd_E11_3, vd_E11_6, vd_E11_9, vd_E11_10, vd_E11_11, vd_E11_14, vd_E11_15, vd_E11_17, vd_E11_19, vd_E11_22, vd_E11_25, vd_E11_27, vd_E11_28, vd_E11_29, vd_E11_30, vd_E11_31, vd_E11_34, vd_E11_37, vd_E11_38, vd_E11_39, vd_I_toInt, vd_I_add, vd_I_sub, vd_I_mul, vd_I_neg, if_neg h]
    exact key _ (by omega) (by omega)
end VDQ
