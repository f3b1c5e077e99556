/-! ===== cells that stay; all scans ===== -/
/-- below B nothing has changed but the references of X -/
def vd_ext (B X : Nat) (M M' : vd_M) : Prop := ∀ a, a < B → vd_k M' a = vd_k M a ∧ vd_l M' a = vd_l M a ∧ (∀ b, vd_i M' a b = vd_i M a b) ∧ (a ≠ X → ∀ b, vd_r M' a b = vd_r M a b)
theorem vd_ext.trans {B X : Nat} {M M' M'' : vd_M} (h : vd_ext B X M M') (g : vd_ext B X M' M'') : vd_ext B X M M'' := fun a ha => by
  obtain ⟨h1, h2, h3, h4⟩ := h a ha
  obtain ⟨g1, g2, g3, g4⟩ := g a ha
  exact ⟨g1.trans h1, g2.trans h2, fun b => (g3 b).trans (h3 b), fun hx b => (g4 hx b).trans (h4 hx b)⟩
theorem vd_ext.refl {B X : Nat} (M : vd_M) : vd_ext B X M M := fun _ _ => ⟨rfl, rfl, fun _ => rfl, fun _ _ => rfl⟩
theorem vd_ext.less {B B' X : Nat} {M M' : vd_M} (h : vd_ext B X M M') (hb : B' ≤ B) : vd_ext B' X M M' := fun a ha => h a (by omega)
theorem vd_ext.new {B X : Nat} {M M' : vd_M} (h : vd_ext B X M M') {k len sl : Nat} (hb : B ≤ vd_n M') : vd_ext B X M (vd_new M' k len sl) := h.trans fun a ha => by
  have : a ≠ vd_n M' := by omega
  simp only [vd_MM, this, if_false]
  exact ⟨trivial, trivial, fun _ => trivial, fun _ _ => trivial⟩
theorem vd_ext.sa {B X : Nat} {M M' : vd_M} (h : vd_ext B X M M') {o : Nat} {f : Nat → Int32} (hb : B ≤ o) : vd_ext B X M (vd_sa M' o f) := h.trans fun a ha => by
  have : a ≠ o := by omega
  simp only [vd_MM, this, if_false]
  exact ⟨trivial, trivial, fun _ => trivial, fun _ _ => trivial⟩
theorem vd_ext.si {B X : Nat} {M M' : vd_M} (h : vd_ext B X M M') {o i : Nat} {v : Int32} (hb : B ≤ o) : vd_ext B X M (vd_si M' o i v) := h.trans fun a ha => by
  have : a ≠ o := by omega
  simp only [vd_MM, this, false_and, if_false]
  exact ⟨trivial, trivial, fun _ => trivial, fun _ _ => trivial⟩
theorem vd_ext.sr {B X : Nat} {M M' : vd_M} (h : vd_ext B X M M') {o i : Nat} {v : Option Nat} (hb : B ≤ o ∨ o = X) : vd_ext B X M (vd_sr M' o i v) := h.trans fun a ha => by
  refine ⟨rfl, rfl, fun _ => rfl, fun hx b => ?_⟩
  have : a ≠ o := by omega
  simp only [vd_MM, this, false_and, if_false]
section VDQ5
variable {d : Nat} {M : vd_M} {Q : vd_M → (Option Value ⊕ Nat) → Prop}
theorem vd_scS {o sc sort s n : Nat} {a3 a4 a5 a6 a7 a8 a9 : Value} (hko : vd_k M o = 12) (hr : vd_r M o 119 = some sc) (hksc : vd_k M sc = 38) (hlsc : vd_l M sc = 12) (hsc : 10 ≤ sc) (hon : o < vd_n M) (hscn : sc < vd_n M) (hosc : o ≠ sc) (hsort : sort < 3) (hs : s < 4) (hn : 1 ≤ n) (hn2 : n ≤ 32) (hsh : vd_I 4 <<< (vd_I (s : Int) &&& 31) = vd_I (n : Int)) (h8 : vd_long a8 = false) (h7 : vd_long a7 = false) (h9 : vd_long a9 = false) (h5 : vd_long a5 = false) (h3 : vd_long a3 = false) (h4 : vd_long a4 = false) (h6 : vd_long a6 = false)
    (hQ : ∀ (M1 : vd_M) (a3 a4 a5 a6 a7 a8 a9 : Value), vd_ext (vd_n M) sc M M1 → vd_n M1 = vd_n M + 1 → vd_c M1 = vd_c M + 1 → vd_s M1 = vd_s M + n * n → vd_long a3 = false → vd_long a4 = false → vd_long a5 = false → vd_long a6 = false → vd_long a7 = false → vd_long a8 = false → vd_long a9 = false → vd_wp d 165 2 [.ref o, .int (vd_I (sort : Int)), .int (vd_I ((s : Int) + 1)), a3, a4, a5, a6, a7, a8, a9] [] M1 Q) :
    vd_wp d 165 2 [.ref o, .int (vd_I (sort : Int)), .int (vd_I (s : Int)), a3, a4, a5, a6, a7, a8, a9] [] M Q := by
  have hnn : n * n ≤ 32 * 32 := Nat.mul_le_mul hn2 hn2
  have hnz : (n : Int) * (n : Int) = ((n * n : Nat) : Int) := by simp
  have hlt : (s : Int) < 4 := by omega
  rw [vd_E165_2]
  simp (disch := first | assumption | (simp only [vd_MM, if_true, if_false]; done) | omega | (simp only [vd_MM, if_true, if_false]; first | assumption | omega)) only [vd_E165_0, vd_E165_1, vd_E165_3, vd_E165_4, vd_E165_7, vd_E165_8, vd_E165_9, vd_E165_10, vd_E165_11, vd_E165_12, vd_E165_13, vd_E165_14, vd_E165_16, vd_E165_16n, vd_E165_18, vd_E165_19, vd_E165_22, vd_E165_25, vd_E165_26, vd_E165_27, vd_E165_28, vd_E165_31, vd_E165_32, vd_E165_33, vd_E165_34, vd_E165_36, vd_E165_37, vd_E165_41, vd_E165_43, vd_E165_46, vd_E165_47, vd_E165_51, vd_E165_52, vd_E165_55, vd_E165_56, vd_E165_60, vd_E165_61, vd_E165_64, vd_E165_65, vd_E165_68, vd_E165_70, vd_E165_72, vd_E165_73, vd_E165_76, vd_E165_77, vd_E165_78, vd_E165_81, vd_E165_82, vd_E165_84, vd_E165_85, vd_E165_87, vd_E165_88, vd_E165_91, vd_E165_93, vd_E165_94, vd_E165_96, vd_E165_97, vd_E165_98, vd_E165_100, vd_E165_103, vd_E165_103n, vd_E165_105, vd_E165_107, vd_E165_110, vd_E165_112, vd_E165_113, vd_E165_114, vd_E165_116, vd_E165_117, vd_E165_118, vd_E165_121, vd_E165_124, vd_E165_127, vd_E165_130, vd_E165_133, vd_E165_136, vd_E165_136n, vd_E165_137, vd_E165_140, vd_E165_141, vd_E165_142, vd_E165_143, vd_E165_144, vd_E165_145, vd_E165_145n, vd_E165_147, vd_E165_148, vd_E165_151, vd_E165_154, vd_I_toInt, hlt, if_true, vd_I_add, vd_I_sub, vd_I_mul, vd_I_neg, hsh, hnz, Int.toNat_natCast]
  have go : ∀ most : Nat, most ≤ 160 → vd_wp d 165 34 [.ref o, .int (vd_I (sort : Int)), .int (vd_I (s : Int)), .int (vd_I (n : Int)), .ref (vd_n M), .int (vd_I 0), a6, a7, a8, a9] [.int (vd_I (most : Int))] (vd_new M 32 (n * n) (n * n)) Q := by
    intro most hmost
    rw [vd_E165_34 rfl]
    simp (disch := first | assumption | (simp only [vd_MM, if_true, if_false]; done) | omega | (simp only [vd_MM, if_true, if_false]; first | assumption | omega)) only [vd_E165_0, vd_E165_1, vd_E165_3, vd_E165_4, vd_E165_7, vd_E165_8, vd_E165_9, vd_E165_10, vd_E165_11, vd_E165_12, vd_E165_13, vd_E165_14, vd_E165_16, vd_E165_16n, vd_E165_18, vd_E165_19, vd_E165_21, vd_E165_22, vd_E165_25, vd_E165_26, vd_E165_27, vd_E165_28, vd_E165_31, vd_E165_32, vd_E165_33, vd_E165_34, vd_E165_36, vd_E165_37, vd_E165_41, vd_E165_43, vd_E165_46, vd_E165_47, vd_E165_51, vd_E165_52, vd_E165_55, vd_E165_56, vd_E165_60, vd_E165_61, vd_E165_64, vd_E165_65, vd_E165_68, vd_E165_70, vd_E165_72, vd_E165_73, vd_E165_76, vd_E165_77, vd_E165_78, vd_E165_81, vd_E165_82, vd_E165_84, vd_E165_85, vd_E165_87, vd_E165_88, vd_E165_91, vd_E165_93, vd_E165_94, vd_E165_96, vd_E165_97, vd_E165_98, vd_E165_100, vd_E165_103, vd_E165_103n, vd_E165_105, vd_E165_107, vd_E165_110, vd_E165_112, vd_E165_113, vd_E165_114, vd_E165_116, vd_E165_117, vd_E165_118, vd_E165_121, vd_E165_124, vd_E165_127, vd_E165_130, vd_E165_133, vd_E165_136, vd_E165_136n, vd_E165_137, vd_E165_140, vd_E165_141, vd_E165_142, vd_E165_143, vd_E165_144, vd_E165_145, vd_E165_145n, vd_E165_147, vd_E165_148, vd_E165_151, vd_E165_154, vd_I_add, vd_I_sub, vd_I_mul, vd_I_neg]
    rw [← vd_sa_self (vd_new M 32 (n * n) (n * n)) (vd_n M)]
    refine vd_scK (by omega) (by simp only [vd_MM, if_true]) (by simp only [vd_MM, if_true]) hn hn2 hsort hmost (fun f a5 a7 a8 a9 h5x h7x h8x h9x => ?_) most 0 0 _ a8 a9 (by omega) (Nat.zero_le _) h8 h9
    have e1 : sc ≠ vd_n M := by omega
    have e2 : o ≠ vd_n M := by omega
    rw [vd_E165_136]
    simp (disch := first | assumption | (simp only [vd_MM, if_true, if_false, e1, e2, hko]; done) | omega | (simp only [vd_MM, if_true, if_false, e1, e2, hko]; first | assumption | omega)) only [vd_E165_0, vd_E165_1, vd_E165_3, vd_E165_4, vd_E165_7, vd_E165_8, vd_E165_9, vd_E165_10, vd_E165_11, vd_E165_12, vd_E165_13, vd_E165_14, vd_E165_16, vd_E165_16n, vd_E165_18, vd_E165_19, vd_E165_21, vd_E165_22, vd_E165_25, vd_E165_26, vd_E165_27, vd_E165_28, vd_E165_31, vd_E165_32, vd_E165_33, vd_E165_34, vd_E165_36, vd_E165_37, vd_E165_41, vd_E165_43, vd_E165_46, vd_E165_47, vd_E165_51, vd_E165_52, vd_E165_55, vd_E165_56, vd_E165_60, vd_E165_61, vd_E165_64, vd_E165_65, vd_E165_68, vd_E165_70, vd_E165_72, vd_E165_73, vd_E165_76, vd_E165_77, vd_E165_78, vd_E165_81, vd_E165_82, vd_E165_84, vd_E165_85, vd_E165_87, vd_E165_88, vd_E165_91, vd_E165_93, vd_E165_94, vd_E165_96, vd_E165_97, vd_E165_98, vd_E165_100, vd_E165_103, vd_E165_103n, vd_E165_105, vd_E165_107, vd_E165_110, vd_E165_112, vd_E165_113, vd_E165_114, vd_E165_116, vd_E165_117, vd_E165_118, vd_E165_121, vd_E165_124, vd_E165_127, vd_E165_130, vd_E165_133, vd_E165_136, vd_E165_136n, vd_E165_137, vd_E165_140, vd_E165_141, vd_E165_142, vd_E165_143, vd_E165_144, vd_E165_145, vd_E165_145n, vd_E165_148, vd_E165_151, vd_E165_154, vd_I_add, vd_I_sub, vd_I_mul, vd_I_neg, vd_MM, e1, e2, hr, vd_vr_some, if_false]
    rw [vd_E165_147 hsc (by omega) ?_ (by omega) ?_ (by omega)]
    · simp (disch := first | assumption | (simp only [vd_MM, if_true, if_false]; done) | omega | (simp only [vd_MM, if_true, if_false]; first | assumption | omega)) only [vd_E165_0, vd_E165_1, vd_E165_3, vd_E165_4, vd_E165_7, vd_E165_8, vd_E165_9, vd_E165_10, vd_E165_11, vd_E165_12, vd_E165_13, vd_E165_14, vd_E165_16, vd_E165_16n, vd_E165_18, vd_E165_19, vd_E165_21, vd_E165_22, vd_E165_25, vd_E165_26, vd_E165_27, vd_E165_28, vd_E165_31, vd_E165_32, vd_E165_33, vd_E165_34, vd_E165_36, vd_E165_37, vd_E165_41, vd_E165_43, vd_E165_46, vd_E165_47, vd_E165_51, vd_E165_52, vd_E165_55, vd_E165_56, vd_E165_60, vd_E165_61, vd_E165_64, vd_E165_65, vd_E165_68, vd_E165_70, vd_E165_72, vd_E165_73, vd_E165_76, vd_E165_77, vd_E165_78, vd_E165_81, vd_E165_82, vd_E165_84, vd_E165_85, vd_E165_87, vd_E165_88, vd_E165_91, vd_E165_93, vd_E165_94, vd_E165_96, vd_E165_97, vd_E165_98, vd_E165_100, vd_E165_103, vd_E165_103n, vd_E165_105, vd_E165_107, vd_E165_110, vd_E165_112, vd_E165_113, vd_E165_114, vd_E165_116, vd_E165_117, vd_E165_118, vd_E165_121, vd_E165_124, vd_E165_127, vd_E165_130, vd_E165_133, vd_E165_136, vd_E165_136n, vd_E165_137, vd_E165_140, vd_E165_141, vd_E165_142, vd_E165_143, vd_E165_144, vd_E165_145, vd_E165_145n, vd_E165_147, vd_E165_148, vd_E165_151, vd_E165_154, vd_I_add, vd_I_sub, vd_I_mul, vd_I_neg]
      refine hQ _ _ _ _ _ _ _ _ ((((vd_ext.refl M).new (Nat.le_refl _)).sa (Nat.le_refl _)).sr (Or.inr rfl)) ?_ ?_ ?_ rfl rfl h5x rfl h7x h8x h9x
      · simp only [vd_MM]
      · simp only [vd_MM]
      · simp only [vd_MM]
    · exact Or.inr (Or.inr (Or.inl ⟨by simp only [vd_MM, e1, if_false, hksc], by simp only [vd_MM, if_true]⟩))
    · simp only [vd_MM, e1, if_false, hlsc]; omega
  rw [vd_E165_21]
  simp (disch := first | assumption | (simp only [vd_MM, if_true, if_false]; done) | omega | (simp only [vd_MM, if_true, if_false]; first | assumption | omega)) only [vd_E165_0, vd_E165_1, vd_E165_3, vd_E165_4, vd_E165_7, vd_E165_8, vd_E165_9, vd_E165_10, vd_E165_11, vd_E165_12, vd_E165_13, vd_E165_14, vd_E165_16, vd_E165_16n, vd_E165_18, vd_E165_19, vd_E165_21, vd_E165_22, vd_E165_25, vd_E165_26, vd_E165_27, vd_E165_28, vd_E165_31, vd_E165_32, vd_E165_33, vd_E165_36, vd_E165_37, vd_E165_41, vd_E165_43, vd_E165_46, vd_E165_47, vd_E165_51, vd_E165_52, vd_E165_55, vd_E165_56, vd_E165_60, vd_E165_61, vd_E165_64, vd_E165_65, vd_E165_68, vd_E165_70, vd_E165_72, vd_E165_73, vd_E165_76, vd_E165_77, vd_E165_78, vd_E165_81, vd_E165_82, vd_E165_84, vd_E165_85, vd_E165_87, vd_E165_88, vd_E165_91, vd_E165_93, vd_E165_94, vd_E165_96, vd_E165_97, vd_E165_98, vd_E165_100, vd_E165_103, vd_E165_103n, vd_E165_105, vd_E165_107, vd_E165_110, vd_E165_112, vd_E165_113, vd_E165_114, vd_E165_116, vd_E165_117, vd_E165_118, vd_E165_121, vd_E165_124, vd_E165_127, vd_E165_130, vd_E165_133, vd_E165_136, vd_E165_136n, vd_E165_137, vd_E165_140, vd_E165_141, vd_E165_142, vd_E165_143, vd_E165_144, vd_E165_145, vd_E165_145n, vd_E165_147, vd_E165_148, vd_E165_151, vd_E165_154, vd_I_toInt, vd_I_add, vd_I_sub, vd_I_mul, vd_I_neg]
  by_cases h0 : (sort : Int) = 0
  · rw [if_pos h0]
    exact go (2 * n) (by omega)
  · rw [if_neg h0]
    exact go (5 * n) (by omega)
end VDQ5
theorem vd_scans {d : Nat} {M : vd_M} {Q : vd_M → (Option Value ⊕ Nat) → Prop} {o sc sort : Nat} (hko : vd_k M o = 12) (hr : vd_r M o 119 = some sc) (hksc : vd_k M sc = 38) (hlsc : vd_l M sc = 12) (hsc : 10 ≤ sc) (hon : o < vd_n M) (hscn : sc < vd_n M) (hosc : o ≠ sc) (hsort : sort < 3)
    (hQ : ∀ M', vd_ext (vd_n M) sc M M' → vd_n M' = vd_n M + 4 → vd_c M' = vd_c M + 4 → vd_s M' = vd_s M + 1360 → Q M' (.inl none)) : vd_wp d 165 0 [.ref o, .int (vd_I (sort : Int)), vd_U, vd_U, vd_U, vd_U, vd_U, vd_U, vd_U, vd_U] [] M Q := by
  simp (disch := first | assumption | (simp only [vd_MM, if_true, if_false]; done) | omega | (simp only [vd_MM, if_true, if_false]; first | assumption | omega)) only [vd_E165_0, vd_E165_1, vd_E165_3, vd_E165_4, vd_E165_7, vd_E165_8, vd_E165_9, vd_E165_10, vd_E165_11, vd_E165_12, vd_E165_13, vd_E165_14, vd_E165_16, vd_E165_16n, vd_E165_18, vd_E165_19, vd_E165_21, vd_E165_22, vd_E165_25, vd_E165_26, vd_E165_27, vd_E165_28, vd_E165_31, vd_E165_32, vd_E165_33, vd_E165_34, vd_E165_36, vd_E165_37, vd_E165_41, vd_E165_43, vd_E165_46, vd_E165_47, vd_E165_51, vd_E165_52, vd_E165_55, vd_E165_56, vd_E165_60, vd_E165_61, vd_E165_64, vd_E165_65, vd_E165_68, vd_E165_70, vd_E165_72, vd_E165_73, vd_E165_76, vd_E165_77, vd_E165_78, vd_E165_81, vd_E165_82, vd_E165_84, vd_E165_85, vd_E165_87, vd_E165_88, vd_E165_91, vd_E165_93, vd_E165_94, vd_E165_96, vd_E165_97, vd_E165_98, vd_E165_100, vd_E165_103, vd_E165_103n, vd_E165_105, vd_E165_107, vd_E165_110, vd_E165_112, vd_E165_113, vd_E165_114, vd_E165_116, vd_E165_117, vd_E165_118, vd_E165_121, vd_E165_124, vd_E165_127, vd_E165_130, vd_E165_133, vd_E165_136, vd_E165_136n, vd_E165_137, vd_E165_140, vd_E165_141, vd_E165_142, vd_E165_143, vd_E165_144, vd_E165_145, vd_E165_145n, vd_E165_147, vd_E165_148, vd_E165_151, vd_E165_154]
  refine vd_scS (s := 0) (n := 4) hko hr hksc hlsc hsc hon hscn hosc hsort (by omega) (by omega) (by omega) (by decide) rfl rfl rfl rfl rfl rfl rfl ?_
  intro M1 a3 a4 a5 a6 a7 a8 a9 e1 n1 c1 s1 h3 h4 h5 h6 h7 h8 h9
  have E1 := e1
  refine vd_scS (s := 1) (n := 8) ((E1 o hon).1.trans hko) (((E1 o hon).2.2.2 hosc _).trans hr) ((E1 sc hscn).1.trans hksc) ((E1 sc hscn).2.1.trans hlsc) hsc (by omega) (by omega) hosc hsort (by omega) (by omega) (by omega) (by decide) h8 h7 h9 h5 h3 h4 h6 ?_
  intro M2 a3 a4 a5 a6 a7 a8 a9 e2 n2 c2 s2 h3 h4 h5 h6 h7 h8 h9
  have E2 := E1.trans (e2.less (B' := vd_n M) (by omega))
  refine vd_scS (s := 2) (n := 16) ((E2 o hon).1.trans hko) (((E2 o hon).2.2.2 hosc _).trans hr) ((E2 sc hscn).1.trans hksc) ((E2 sc hscn).2.1.trans hlsc) hsc (by omega) (by omega) hosc hsort (by omega) (by omega) (by omega) (by decide) h8 h7 h9 h5 h3 h4 h6 ?_
  intro M3 a3 a4 a5 a6 a7 a8 a9 e3 n3 c3 s3 h3 h4 h5 h6 h7 h8 h9
  have E3 := E2.trans (e3.less (B' := vd_n M) (by omega))
  refine vd_scS (s := 3) (n := 32) ((E3 o hon).1.trans hko) (((E3 o hon).2.2.2 hosc _).trans hr) ((E3 sc hscn).1.trans hksc) ((E3 sc hscn).2.1.trans hlsc) hsc (by omega) (by omega) hosc hsort (by omega) (by omega) (by omega) (by decide) h8 h7 h9 h5 h3 h4 h6 ?_
  intro M4 a3 a4 a5 a6 a7 a8 a9 e4 n4 c4 s4 h3 h4 h5 h6 h7 h8 h9
  have E4 := E3.trans (e4.less (B' := vd_n M) (by omega))
  rw [vd_E165_2]
  simp (disch := first | assumption | (simp only [vd_MM, if_true, if_false]; done) | omega | (simp only [vd_MM, if_true, if_false]; first | assumption | omega)) only [vd_E165_0, vd_E165_1, vd_E165_3, vd_E165_4, vd_E165_7, vd_E165_8, vd_E165_9, vd_E165_10, vd_E165_11, vd_E165_12, vd_E165_13, vd_E165_14, vd_E165_16, vd_E165_16n, vd_E165_18, vd_E165_19, vd_E165_21, vd_E165_22, vd_E165_25, vd_E165_26, vd_E165_27, vd_E165_28, vd_E165_31, vd_E165_32, vd_E165_33, vd_E165_34, vd_E165_36, vd_E165_37, vd_E165_41, vd_E165_43, vd_E165_46, vd_E165_47, vd_E165_51, vd_E165_52, vd_E165_55, vd_E165_56, vd_E165_60, vd_E165_61, vd_E165_64, vd_E165_65, vd_E165_68, vd_E165_70, vd_E165_72, vd_E165_73, vd_E165_76, vd_E165_77, vd_E165_78, vd_E165_81, vd_E165_82, vd_E165_84, vd_E165_85, vd_E165_87, vd_E165_88, vd_E165_91, vd_E165_93, vd_E165_94, vd_E165_96, vd_E165_97, vd_E165_98, vd_E165_100, vd_E165_103, vd_E165_103n, vd_E165_105, vd_E165_107, vd_E165_110, vd_E165_112, vd_E165_113, vd_E165_114, vd_E165_116, vd_E165_117, vd_E165_118, vd_E165_121, vd_E165_124, vd_E165_127, vd_E165_130, vd_E165_133, vd_E165_136, vd_E165_136n, vd_E165_137, vd_E165_140, vd_E165_141, vd_E165_142, vd_E165_143, vd_E165_144, vd_E165_145, vd_E165_145n, vd_E165_147, vd_E165_148, vd_E165_151, vd_E165_154, vd_I_toInt, Int.lt_irrefl]
  simp only [Int.cast_ofNat_Int, Int.reduceAdd, Int.lt_irrefl, if_false]
  exact hQ M4 E4 (by omega) (by omega) (by omega)
