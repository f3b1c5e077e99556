/-! ===== the reference's scans ===== -/
def vd_Fq (sort n q : Nat) : Nat := if sort = 0 then q % n + q / n else if sort = 1 then 4 * (q / n) + q % n else q / n + 4 * (q % n)
def vd_P165 (sort n key p : Nat) (q : Nat) : Bool := decide (vd_Fq sort n q < key) || (decide (vd_Fq sort n q = key) && decide (q < p))
section VDQ4
variable {d : Nat} {M : vd_M} {Q : vd_M → (Option Value ⊕ Nat) → Prop}
theorem vd_scX {o oc sort s n most key y : Nat} (ho : 10 ≤ oc) (hk : vd_k M oc = 32) (hl : vd_l M oc = n * n) (hn : 1 ≤ n) (hn2 : n ≤ 32) (hsort : sort < 3) (hy : y < n) (hkey : key ≤ 1000) (hmost : most ≤ 1000)
    (hQ : ∀ (at_ : Nat) (f : Nat → Int32), at_ ≤ vd_cnt (vd_P165 sort n key (y * n + n)) (n * n) → vd_wp d 165 124 [.ref o, .int (vd_I (sort : Int)), .int (vd_I (s : Int)), .int (vd_I (n : Int)), .ref oc, .int (vd_I (at_ : Int)), .int (vd_I (most : Int)), .int (vd_I (key : Int)), .int (vd_I (y : Int)), .int (vd_I (n : Int))] [] (vd_sa M oc f) Q) :
    ∀ (m x at_ : Nat) (f : Nat → Int32), x + m = n → at_ ≤ vd_cnt (vd_P165 sort n key (y * n + x)) (n * n) → vd_wp d 165 58 [.ref o, .int (vd_I (sort : Int)), .int (vd_I (s : Int)), .int (vd_I (n : Int)), .ref oc, .int (vd_I (at_ : Int)), .int (vd_I (most : Int)), .int (vd_I (key : Int)), .int (vd_I (y : Int)), .int (vd_I (x : Int))] [] (vd_sa M oc f) Q := by
  intro m
  have hnn : n * n ≤ 32 * 32 := Nat.mul_le_mul hn2 hn2
  have hcl := fun P => vd_cnt_le P (n * n)
  induction m with
  | zero =>
    intro x at_ f hx hat
    have : x = n := by omega
    subst this
    rw [vd_E165_58]
    simp (disch := first | assumption | (simp only [vd_MM, if_true, if_false]; done) | omega | (simp only [vd_MM, if_true, if_false]; first | assumption | omega)) only [vd_E165_0, vd_E165_1, vd_E165_3, vd_E165_4, vd_E165_7, vd_E165_8, vd_E165_9, vd_E165_10, vd_E165_11, vd_E165_12, vd_E165_13, vd_E165_14, vd_E165_16, vd_E165_16n, vd_E165_18, vd_E165_19, vd_E165_21, vd_E165_22, vd_E165_25, vd_E165_26, vd_E165_27, vd_E165_28, vd_E165_31, vd_E165_32, vd_E165_33, vd_E165_34, vd_E165_36, vd_E165_37, vd_E165_41, vd_E165_43, vd_E165_46, vd_E165_47, vd_E165_51, vd_E165_52, vd_E165_55, vd_E165_56, vd_E165_60, vd_E165_61, vd_E165_64, vd_E165_65, vd_E165_68, vd_E165_70, vd_E165_72, vd_E165_73, vd_E165_76, vd_E165_77, vd_E165_78, vd_E165_81, vd_E165_82, vd_E165_84, vd_E165_85, vd_E165_87, vd_E165_88, vd_E165_91, vd_E165_93, vd_E165_94, vd_E165_96, vd_E165_97, vd_E165_98, vd_E165_100, vd_E165_103, vd_E165_103n, vd_E165_105, vd_E165_107, vd_E165_110, vd_E165_112, vd_E165_113, vd_E165_114, vd_E165_116, vd_E165_117, vd_E165_118, vd_E165_121, vd_E165_127, vd_E165_130, vd_E165_133, vd_E165_136, vd_E165_136n, vd_E165_137, vd_E165_140, vd_E165_141, vd_E165_142, vd_E165_143, vd_E165_144, vd_E165_145, vd_E165_145n, vd_E165_147, vd_E165_148, vd_E165_151, vd_E165_154, vd_I_toInt, Int.lt_irrefl, if_false]
    exact hQ _ _ hat
  | succ m ih =>
    intro x at_ f hx hat
    have ih := fun at_ f => ih (x + 1) at_ f (by omega)
    have hlt : (x : Int) < n := by omega
    have hc1 := hcl (vd_P165 sort n key (y * n + x))
    have hmono : vd_cnt (vd_P165 sort n key (y * n + x)) (n * n) ≤ vd_cnt (vd_P165 sort n key (y * n + (x + 1))) (n * n) := vd_cnt_mono _ (fun q _ hq => by
      unfold vd_P165 at hq ⊢
      simp only [Bool.or_eq_true, Bool.and_eq_true, decide_eq_true_eq] at hq ⊢
      omega)
    have hq0 : (y * n + x) % n = x := by rw [Nat.mul_comm, Nat.mul_add_mod]; exact Nat.mod_eq_of_lt (by omega)
    have hq1 : (y * n + x) / n = y := by
      rw [Nat.mul_comm, Nat.mul_add_div (by omega), Nat.div_eq_of_lt (by omega)]; rfl
    have hqn : y * n + x < n * n := by
      have : (y + 1) * n ≤ n * n := Nat.mul_le_mul_right _ (by omega)
      have e : (y + 1) * n = y * n + n := Nat.succ_mul _ _
      omega
    have key2 : vd_wp d 165 98 [.ref o, .int (vd_I (sort : Int)), .int (vd_I (s : Int)), .int (vd_I (n : Int)), .ref oc, .int (vd_I (at_ : Int)), .int (vd_I (most : Int)), .int (vd_I (key : Int)), .int (vd_I (y : Int)), .int (vd_I (x : Int))] [.int (vd_I ((vd_Fq sort n (y * n + x) : Nat) : Int))] (vd_sa M oc f) Q := by
      have hF : vd_Fq sort n (y * n + x) ≤ 160 := by
        unfold vd_Fq
        rw [hq0, hq1]
        split
        · omega
        · split <;> omega
      rw [vd_E165_98]
      simp (disch := first | assumption | (simp only [vd_MM, if_true, if_false]; done) | omega | (simp only [vd_MM, if_true, if_false]; first | assumption | omega)) only [vd_E165_0, vd_E165_1, vd_E165_3, vd_E165_4, vd_E165_7, vd_E165_8, vd_E165_9, vd_E165_10, vd_E165_11, vd_E165_12, vd_E165_13, vd_E165_14, vd_E165_16, vd_E165_16n, vd_E165_18, vd_E165_19, vd_E165_21, vd_E165_22, vd_E165_25, vd_E165_26, vd_E165_27, vd_E165_28, vd_E165_31, vd_E165_32, vd_E165_33, vd_E165_34, vd_E165_36, vd_E165_37, vd_E165_41, vd_E165_43, vd_E165_46, vd_E165_47, vd_E165_51, vd_E165_52, vd_E165_55, vd_E165_56, vd_E165_60, vd_E165_61, vd_E165_64, vd_E165_65, vd_E165_68, vd_E165_70, vd_E165_72, vd_E165_73, vd_E165_76, vd_E165_77, vd_E165_78, vd_E165_81, vd_E165_82, vd_E165_84, vd_E165_85, vd_E165_87, vd_E165_88, vd_E165_91, vd_E165_93, vd_E165_94, vd_E165_96, vd_E165_97, vd_E165_98, vd_E165_100, vd_E165_105, vd_E165_107, vd_E165_110, vd_E165_112, vd_E165_113, vd_E165_114, vd_E165_116, vd_E165_117, vd_E165_118, vd_E165_121, vd_E165_124, vd_E165_127, vd_E165_130, vd_E165_133, vd_E165_136, vd_E165_136n, vd_E165_137, vd_E165_140, vd_E165_141, vd_E165_142, vd_E165_143, vd_E165_144, vd_E165_145, vd_E165_145n, vd_E165_147, vd_E165_148, vd_E165_151, vd_E165_154, vd_I_toInt]
      by_cases he : ((vd_Fq sort n (y * n + x) : Nat) : Int) = (key : Int)
      · have hP : vd_P165 sort n key (y * n + x) (y * n + x) = false := by
          unfold vd_P165
          simp only [Bool.or_eq_false_iff, Bool.and_eq_false_iff, decide_eq_false_iff_not]
          omega
        have hR : vd_P165 sort n key (y * n + (x + 1)) (y * n + x) = true := by
          unfold vd_P165
          simp only [Bool.or_eq_true, Bool.and_eq_true, decide_eq_true_eq]
          omega
        have hc2 := vd_cnt_lt' hP hqn
        have hc3 := vd_cnt_lt hP hR _ hqn (fun q _ hq => by
          unfold vd_P165 at hq ⊢
          simp only [Bool.or_eq_true, Bool.and_eq_true, decide_eq_true_eq] at hq ⊢
          omega)
        rw [if_pos he, vd_E165_103]
        simp (disch := first | assumption | (simp only [vd_MM, if_true, if_false, hl]; done) | omega | (simp only [vd_MM, if_true, if_false, hl]; first | assumption | omega)) only [vd_E165_0, vd_E165_1, vd_E165_3, vd_E165_4, vd_E165_7, vd_E165_8, vd_E165_9, vd_E165_10, vd_E165_11, vd_E165_12, vd_E165_13, vd_E165_14, vd_E165_16, vd_E165_16n, vd_E165_18, vd_E165_19, vd_E165_21, vd_E165_22, vd_E165_25, vd_E165_26, vd_E165_27, vd_E165_28, vd_E165_31, vd_E165_32, vd_E165_33, vd_E165_34, vd_E165_36, vd_E165_37, vd_E165_41, vd_E165_43, vd_E165_46, vd_E165_47, vd_E165_51, vd_E165_52, vd_E165_55, vd_E165_56, vd_E165_60, vd_E165_61, vd_E165_64, vd_E165_65, vd_E165_68, vd_E165_70, vd_E165_72, vd_E165_73, vd_E165_76, vd_E165_77, vd_E165_78, vd_E165_81, vd_E165_82, vd_E165_84, vd_E165_85, vd_E165_87, vd_E165_88, vd_E165_91, vd_E165_93, vd_E165_94, vd_E165_96, vd_E165_97, vd_E165_98, vd_E165_100, vd_E165_103, vd_E165_103n, vd_E165_105, vd_E165_107, vd_E165_110, vd_E165_112, vd_E165_113, vd_E165_114, vd_E165_116, vd_E165_117, vd_E165_118, vd_E165_121, vd_E165_124, vd_E165_127, vd_E165_130, vd_E165_133, vd_E165_136, vd_E165_136n, vd_E165_137, vd_E165_140, vd_E165_141, vd_E165_142, vd_E165_143, vd_E165_144, vd_E165_145, vd_E165_145n, vd_E165_147, vd_E165_148, vd_E165_151, vd_E165_154, vd_I_add, vd_I_sub, vd_I_mul, vd_I_neg]
        rw [vd_si_sa]
        exact ih (at_ + 1) _ (by omega)
      · rw [if_neg he]
        simp (disch := first | assumption | (simp only [vd_MM, if_true, if_false]; done) | omega | (simp only [vd_MM, if_true, if_false]; first | assumption | omega)) only [vd_E165_0, vd_E165_1, vd_E165_3, vd_E165_4, vd_E165_7, vd_E165_8, vd_E165_9, vd_E165_10, vd_E165_11, vd_E165_12, vd_E165_13, vd_E165_14, vd_E165_16, vd_E165_16n, vd_E165_18, vd_E165_19, vd_E165_21, vd_E165_22, vd_E165_25, vd_E165_26, vd_E165_27, vd_E165_28, vd_E165_31, vd_E165_32, vd_E165_33, vd_E165_34, vd_E165_36, vd_E165_37, vd_E165_41, vd_E165_43, vd_E165_46, vd_E165_47, vd_E165_51, vd_E165_52, vd_E165_55, vd_E165_56, vd_E165_60, vd_E165_61, vd_E165_64, vd_E165_65, vd_E165_68, vd_E165_70, vd_E165_72, vd_E165_73, vd_E165_76, vd_E165_77, vd_E165_78, vd_E165_81, vd_E165_82, vd_E165_84, vd_E165_85, vd_E165_87, vd_E165_88, vd_E165_91, vd_E165_93, vd_E165_94, vd_E165_96, vd_E165_97, vd_E165_98, vd_E165_100, vd_E165_103, vd_E165_103n, vd_E165_105, vd_E165_107, vd_E165_110, vd_E165_112, vd_E165_113, vd_E165_114, vd_E165_116, vd_E165_117, vd_E165_118, vd_E165_121, vd_E165_124, vd_E165_127, vd_E165_130, vd_E165_133, vd_E165_136, vd_E165_136n, vd_E165_137, vd_E165_140, vd_E165_141, vd_E165_142, vd_E165_143, vd_E165_144, vd_E165_145, vd_E165_145n, vd_E165_147, vd_E165_148, vd_E165_151, vd_E165_154, vd_I_add, vd_I_sub, vd_I_mul, vd_I_neg]
        exact ih _ _ (by omega)
    rw [vd_E165_58]
    simp (disch := first | assumption | (simp only [vd_MM, if_true, if_false]; done) | omega | (simp only [vd_MM, if_true, if_false]; first | assumption | omega)) only [vd_E165_0, vd_E165_1, vd_E165_3, vd_E165_4, vd_E165_7, vd_E165_8, vd_E165_9, vd_E165_10, vd_E165_11, vd_E165_12, vd_E165_13, vd_E165_14, vd_E165_16, vd_E165_16n, vd_E165_18, vd_E165_19, vd_E165_21, vd_E165_22, vd_E165_25, vd_E165_26, vd_E165_27, vd_E165_28, vd_E165_31, vd_E165_32, vd_E165_33, vd_E165_34, vd_E165_36, vd_E165_37, vd_E165_41, vd_E165_43, vd_E165_46, vd_E165_47, vd_E165_51, vd_E165_52, vd_E165_55, vd_E165_56, vd_E165_60, vd_E165_61, vd_E165_65, vd_E165_68, vd_E165_70, vd_E165_72, vd_E165_73, vd_E165_76, vd_E165_77, vd_E165_78, vd_E165_81, vd_E165_82, vd_E165_84, vd_E165_85, vd_E165_87, vd_E165_88, vd_E165_91, vd_E165_93, vd_E165_94, vd_E165_96, vd_E165_97, vd_E165_98, vd_E165_100, vd_E165_103, vd_E165_103n, vd_E165_105, vd_E165_107, vd_E165_110, vd_E165_112, vd_E165_113, vd_E165_114, vd_E165_116, vd_E165_117, vd_E165_118, vd_E165_121, vd_E165_124, vd_E165_127, vd_E165_130, vd_E165_133, vd_E165_136, vd_E165_136n, vd_E165_137, vd_E165_140, vd_E165_141, vd_E165_142, vd_E165_143, vd_E165_144, vd_E165_145, vd_E165_145n, vd_E165_147, vd_E165_148, vd_E165_151, vd_E165_154, vd_I_toInt, hlt, if_true, vd_I_add, vd_I_sub, vd_I_mul, vd_I_neg]
    rw [vd_E165_64]
    unfold vd_Fq at key2
    rw [hq0, hq1] at key2
    have h3 : sort = 0 ∨ sort = 1 ∨ sort = 2 := by omega
    rcases h3 with h3 | h3 | h3
    · subst h3
      simp (disch := first | assumption | (simp only [vd_MM, if_true, if_false]; done) | omega | (simp only [vd_MM, if_true, if_false]; first | assumption | omega)) only [vd_E165_0, vd_E165_1, vd_E165_3, vd_E165_4, vd_E165_7, vd_E165_8, vd_E165_9, vd_E165_10, vd_E165_11, vd_E165_12, vd_E165_13, vd_E165_14, vd_E165_16, vd_E165_16n, vd_E165_18, vd_E165_19, vd_E165_21, vd_E165_22, vd_E165_25, vd_E165_26, vd_E165_27, vd_E165_28, vd_E165_31, vd_E165_32, vd_E165_33, vd_E165_34, vd_E165_36, vd_E165_37, vd_E165_41, vd_E165_43, vd_E165_46, vd_E165_47, vd_E165_51, vd_E165_52, vd_E165_55, vd_E165_56, vd_E165_60, vd_E165_61, vd_E165_64, vd_E165_65, vd_E165_68, vd_E165_70, vd_E165_72, vd_E165_73, vd_E165_76, vd_E165_77, vd_E165_78, vd_E165_81, vd_E165_82, vd_E165_84, vd_E165_85, vd_E165_87, vd_E165_88, vd_E165_91, vd_E165_93, vd_E165_94, vd_E165_96, vd_E165_97, vd_E165_100, vd_E165_103, vd_E165_103n, vd_E165_105, vd_E165_107, vd_E165_110, vd_E165_112, vd_E165_113, vd_E165_114, vd_E165_116, vd_E165_117, vd_E165_118, vd_E165_121, vd_E165_124, vd_E165_127, vd_E165_130, vd_E165_133, vd_E165_136, vd_E165_136n, vd_E165_137, vd_E165_140, vd_E165_141, vd_E165_142, vd_E165_143, vd_E165_144, vd_E165_145, vd_E165_145n, vd_E165_147, vd_E165_148, vd_E165_151, vd_E165_154, vd_I_toInt, vd_I_add, vd_I_sub, vd_I_mul, vd_I_neg, Int.cast_ofNat_Int, if_true]
      simp only [if_true, Int.natCast_add] at key2
      exact key2
    · subst h3
      simp (disch := first | assumption | (simp only [vd_MM, if_true, if_false]; done) | omega | (simp only [vd_MM, if_true, if_false]; first | assumption | omega)) only [vd_E165_0, vd_E165_1, vd_E165_3, vd_E165_4, vd_E165_7, vd_E165_8, vd_E165_9, vd_E165_10, vd_E165_11, vd_E165_12, vd_E165_13, vd_E165_14, vd_E165_16, vd_E165_16n, vd_E165_18, vd_E165_19, vd_E165_21, vd_E165_22, vd_E165_25, vd_E165_26, vd_E165_27, vd_E165_28, vd_E165_31, vd_E165_32, vd_E165_33, vd_E165_34, vd_E165_36, vd_E165_37, vd_E165_41, vd_E165_43, vd_E165_46, vd_E165_47, vd_E165_51, vd_E165_52, vd_E165_55, vd_E165_56, vd_E165_60, vd_E165_61, vd_E165_64, vd_E165_65, vd_E165_68, vd_E165_70, vd_E165_72, vd_E165_73, vd_E165_76, vd_E165_77, vd_E165_78, vd_E165_81, vd_E165_82, vd_E165_84, vd_E165_85, vd_E165_87, vd_E165_88, vd_E165_91, vd_E165_93, vd_E165_94, vd_E165_96, vd_E165_97, vd_E165_100, vd_E165_103, vd_E165_103n, vd_E165_105, vd_E165_107, vd_E165_110, vd_E165_112, vd_E165_113, vd_E165_114, vd_E165_116, vd_E165_117, vd_E165_118, vd_E165_121, vd_E165_124, vd_E165_127, vd_E165_130, vd_E165_133, vd_E165_136, vd_E165_136n, vd_E165_137, vd_E165_140, vd_E165_141, vd_E165_142, vd_E165_143, vd_E165_144, vd_E165_145, vd_E165_145n, vd_E165_147, vd_E165_148, vd_E165_151, vd_E165_154, vd_I_toInt, vd_I_add, vd_I_sub, vd_I_mul, vd_I_neg, Int.cast_ofNat_Int, if_true, if_false, Int.reduceEq, reduceIte]
      simp only [if_true, Nat.reduceEqDiff, reduceIte, Int.natCast_add, Int.natCast_mul, Int.cast_ofNat_Int] at key2
      exact key2
    · subst h3
      simp (disch := first | assumption | (simp only [vd_MM, if_true, if_false]; done) | omega | (simp only [vd_MM, if_true, if_false]; first | assumption | omega)) only [vd_E165_0, vd_E165_1, vd_E165_3, vd_E165_4, vd_E165_7, vd_E165_8, vd_E165_9, vd_E165_10, vd_E165_11, vd_E165_12, vd_E165_13, vd_E165_14, vd_E165_16, vd_E165_16n, vd_E165_18, vd_E165_19, vd_E165_21, vd_E165_22, vd_E165_25, vd_E165_26, vd_E165_27, vd_E165_28, vd_E165_31, vd_E165_32, vd_E165_33, vd_E165_34, vd_E165_36, vd_E165_37, vd_E165_41, vd_E165_43, vd_E165_46, vd_E165_47, vd_E165_51, vd_E165_52, vd_E165_55, vd_E165_56, vd_E165_60, vd_E165_61, vd_E165_64, vd_E165_65, vd_E165_68, vd_E165_70, vd_E165_72, vd_E165_73, vd_E165_76, vd_E165_77, vd_E165_78, vd_E165_81, vd_E165_82, vd_E165_84, vd_E165_85, vd_E165_87, vd_E165_88, vd_E165_91, vd_E165_93, vd_E165_94, vd_E165_96, vd_E165_97, vd_E165_100, vd_E165_103, vd_E165_103n, vd_E165_105, vd_E165_107, vd_E165_110, vd_E165_112, vd_E165_113, vd_E165_114, vd_E165_116, vd_E165_117, vd_E165_118, vd_E165_121, vd_E165_124, vd_E165_127, vd_E165_130, vd_E165_133, vd_E165_136, vd_E165_136n, vd_E165_137, vd_E165_140, vd_E165_141, vd_E165_142, vd_E165_143, vd_E165_144, vd_E165_145, vd_E165_145n, vd_E165_147, vd_E165_148, vd_E165_151, vd_E165_154, vd_I_toInt, vd_I_add, vd_I_sub, vd_I_mul, vd_I_neg, Int.cast_ofNat_Int, if_true, if_false, Int.reduceEq, reduceIte]
      simp only [if_true, Nat.reduceEqDiff, reduceIte, Int.natCast_add, Int.natCast_mul, Int.cast_ofNat_Int] at key2
      exact key2
theorem vd_scY {o oc sort s n most key : Nat} (ho : 10 ≤ oc) (hk : vd_k M oc = 32) (hl : vd_l M oc = n * n) (hn : 1 ≤ n) (hn2 : n ≤ 32) (hsort : sort < 3) (hkey : key ≤ 1000) (hmost : most ≤ 1000)
    (hQ : ∀ (at_ : Nat) (f : Nat → Int32) (a9 : Value), at_ ≤ vd_cnt (vd_P165 sort n key (n * n)) (n * n) → vd_long a9 = false → vd_wp d 165 130 [.ref o, .int (vd_I (sort : Int)), .int (vd_I (s : Int)), .int (vd_I (n : Int)), .ref oc, .int (vd_I (at_ : Int)), .int (vd_I (most : Int)), .int (vd_I (key : Int)), .int (vd_I (n : Int)), a9] [] (vd_sa M oc f) Q) :
    ∀ (m y at_ : Nat) (f : Nat → Int32) (a9 : Value), y + m = n → at_ ≤ vd_cnt (vd_P165 sort n key (y * n)) (n * n) → vd_long a9 = false → vd_wp d 165 49 [.ref o, .int (vd_I (sort : Int)), .int (vd_I (s : Int)), .int (vd_I (n : Int)), .ref oc, .int (vd_I (at_ : Int)), .int (vd_I (most : Int)), .int (vd_I (key : Int)), .int (vd_I (y : Int)), a9] [] (vd_sa M oc f) Q := by
  intro m
  induction m with
  | zero =>
    intro y at_ f a9 hy hat h9
    have : y = n := by omega
    subst this
    rw [vd_E165_49]
    simp (disch := first | assumption | (simp only [vd_MM, if_true, if_false]; done) | omega | (simp only [vd_MM, if_true, if_false]; first | assumption | omega)) only [vd_E165_0, vd_E165_1, vd_E165_3, vd_E165_4, vd_E165_7, vd_E165_8, vd_E165_9, vd_E165_10, vd_E165_11, vd_E165_12, vd_E165_13, vd_E165_14, vd_E165_16, vd_E165_16n, vd_E165_18, vd_E165_19, vd_E165_21, vd_E165_22, vd_E165_25, vd_E165_26, vd_E165_27, vd_E165_28, vd_E165_31, vd_E165_32, vd_E165_33, vd_E165_34, vd_E165_36, vd_E165_37, vd_E165_41, vd_E165_43, vd_E165_46, vd_E165_47, vd_E165_51, vd_E165_52, vd_E165_55, vd_E165_56, vd_E165_60, vd_E165_61, vd_E165_64, vd_E165_65, vd_E165_68, vd_E165_70, vd_E165_72, vd_E165_73, vd_E165_76, vd_E165_77, vd_E165_78, vd_E165_81, vd_E165_82, vd_E165_84, vd_E165_85, vd_E165_87, vd_E165_88, vd_E165_91, vd_E165_93, vd_E165_94, vd_E165_96, vd_E165_97, vd_E165_98, vd_E165_100, vd_E165_103, vd_E165_103n, vd_E165_105, vd_E165_107, vd_E165_110, vd_E165_112, vd_E165_113, vd_E165_114, vd_E165_116, vd_E165_117, vd_E165_118, vd_E165_121, vd_E165_124, vd_E165_127, vd_E165_133, vd_E165_136, vd_E165_136n, vd_E165_137, vd_E165_140, vd_E165_141, vd_E165_142, vd_E165_143, vd_E165_144, vd_E165_145, vd_E165_145n, vd_E165_147, vd_E165_148, vd_E165_151, vd_E165_154, vd_I_toInt, Int.lt_irrefl, if_false]
    exact hQ _ _ _ hat h9
  | succ m ih =>
    intro y at_ f a9 hy hat h9
    have ih := fun at_ f a9 => ih (y + 1) at_ f a9 (by omega)
    have hlt : (y : Int) < n := by omega
    rw [vd_E165_49]
    simp (disch := first | assumption | (simp only [vd_MM, if_true, if_false]; done) | omega | (simp only [vd_MM, if_true, if_false]; first | assumption | omega)) only [vd_E165_0, vd_E165_1, vd_E165_3, vd_E165_4, vd_E165_7, vd_E165_8, vd_E165_9, vd_E165_10, vd_E165_11, vd_E165_12, vd_E165_13, vd_E165_14, vd_E165_16, vd_E165_16n, vd_E165_18, vd_E165_19, vd_E165_21, vd_E165_22, vd_E165_25, vd_E165_26, vd_E165_27, vd_E165_28, vd_E165_31, vd_E165_32, vd_E165_33, vd_E165_34, vd_E165_36, vd_E165_37, vd_E165_41, vd_E165_43, vd_E165_46, vd_E165_47, vd_E165_51, vd_E165_52, vd_E165_55, vd_E165_56, vd_E165_60, vd_E165_61, vd_E165_64, vd_E165_65, vd_E165_68, vd_E165_70, vd_E165_72, vd_E165_73, vd_E165_76, vd_E165_77, vd_E165_78, vd_E165_81, vd_E165_82, vd_E165_84, vd_E165_85, vd_E165_87, vd_E165_88, vd_E165_91, vd_E165_93, vd_E165_94, vd_E165_96, vd_E165_97, vd_E165_98, vd_E165_100, vd_E165_103, vd_E165_103n, vd_E165_105, vd_E165_107, vd_E165_110, vd_E165_112, vd_E165_113, vd_E165_114, vd_E165_116, vd_E165_117, vd_E165_118, vd_E165_121, vd_E165_124, vd_E165_127, vd_E165_130, vd_E165_133, vd_E165_136, vd_E165_136n, vd_E165_137, vd_E165_140, vd_E165_141, vd_E165_142, vd_E165_143, vd_E165_144, vd_E165_145, vd_E165_145n, vd_E165_147, vd_E165_148, vd_E165_151, vd_E165_154, vd_I_toInt, hlt, if_true, vd_I_add, vd_I_sub, vd_I_mul, vd_I_neg]
    refine vd_scX ho hk hl hn hn2 hsort (by omega) hkey hmost (fun at2 f2 hat2 => ?_) n 0 at_ f (by omega) hat
    rw [vd_E165_124 rfl]
    simp (disch := first | assumption | (simp only [vd_MM, if_true, if_false]; done) | omega | (simp only [vd_MM, if_true, if_false]; first | assumption | omega)) only [vd_E165_0, vd_E165_1, vd_E165_3, vd_E165_4, vd_E165_7, vd_E165_8, vd_E165_9, vd_E165_10, vd_E165_11, vd_E165_12, vd_E165_13, vd_E165_14, vd_E165_16, vd_E165_16n, vd_E165_18, vd_E165_19, vd_E165_21, vd_E165_22, vd_E165_25, vd_E165_26, vd_E165_27, vd_E165_28, vd_E165_31, vd_E165_32, vd_E165_33, vd_E165_34, vd_E165_36, vd_E165_37, vd_E165_41, vd_E165_43, vd_E165_46, vd_E165_47, vd_E165_51, vd_E165_52, vd_E165_55, vd_E165_56, vd_E165_60, vd_E165_61, vd_E165_64, vd_E165_65, vd_E165_68, vd_E165_70, vd_E165_72, vd_E165_73, vd_E165_76, vd_E165_77, vd_E165_78, vd_E165_81, vd_E165_82, vd_E165_84, vd_E165_85, vd_E165_87, vd_E165_88, vd_E165_91, vd_E165_93, vd_E165_94, vd_E165_96, vd_E165_97, vd_E165_98, vd_E165_100, vd_E165_103, vd_E165_103n, vd_E165_105, vd_E165_107, vd_E165_110, vd_E165_112, vd_E165_113, vd_E165_114, vd_E165_116, vd_E165_117, vd_E165_118, vd_E165_121, vd_E165_124, vd_E165_127, vd_E165_130, vd_E165_133, vd_E165_136, vd_E165_136n, vd_E165_137, vd_E165_140, vd_E165_141, vd_E165_142, vd_E165_143, vd_E165_144, vd_E165_145, vd_E165_145n, vd_E165_147, vd_E165_148, vd_E165_151, vd_E165_154, vd_I_add, vd_I_sub, vd_I_mul, vd_I_neg]
    refine ih at2 f2 _ ?_ rfl
    rw [Nat.succ_mul]
    exact hat2
theorem vd_scK {o oc sort s n most : Nat} (ho : 10 ≤ oc) (hk : vd_k M oc = 32) (hl : vd_l M oc = n * n) (hn : 1 ≤ n) (hn2 : n ≤ 32) (hsort : sort < 3) (hmost : most ≤ 160)
    (hQ : ∀ (f : Nat → Int32) (a5 a7 a8 a9 : Value), vd_long a5 = false → vd_long a7 = false → vd_long a8 = false → vd_long a9 = false → vd_wp d 165 136 [.ref o, .int (vd_I (sort : Int)), .int (vd_I (s : Int)), .int (vd_I (n : Int)), .ref oc, a5, .int (vd_I (most : Int)), a7, a8, a9] [] (vd_sa M oc f) Q) :
    ∀ (m key at_ : Nat) (f : Nat → Int32) (a8 a9 : Value), key + m = most → at_ ≤ vd_cnt (vd_P165 sort n key 0) (n * n) → vd_long a8 = false → vd_long a9 = false → vd_wp d 165 39 [.ref o, .int (vd_I (sort : Int)), .int (vd_I (s : Int)), .int (vd_I (n : Int)), .ref oc, .int (vd_I (at_ : Int)), .int (vd_I (most : Int)), .int (vd_I (key : Int)), a8, a9] [] (vd_sa M oc f) Q := by
  intro m
  induction m with
  | zero =>
    intro key at_ f a8 a9 hy hat h8 h9
    have : key = most := by omega
    subst this
    rw [vd_E165_39]
    simp (disch := first | assumption | (simp only [vd_MM, if_true, if_false]; done) | omega | (simp only [vd_MM, if_true, if_false]; first | assumption | omega)) only [vd_E165_0, vd_E165_1, vd_E165_3, vd_E165_4, vd_E165_7, vd_E165_8, vd_E165_9, vd_E165_10, vd_E165_11, vd_E165_12, vd_E165_13, vd_E165_14, vd_E165_16, vd_E165_16n, vd_E165_18, vd_E165_19, vd_E165_21, vd_E165_22, vd_E165_25, vd_E165_26, vd_E165_27, vd_E165_28, vd_E165_31, vd_E165_32, vd_E165_33, vd_E165_34, vd_E165_36, vd_E165_37, vd_E165_41, vd_E165_43, vd_E165_46, vd_E165_47, vd_E165_51, vd_E165_52, vd_E165_55, vd_E165_56, vd_E165_60, vd_E165_61, vd_E165_64, vd_E165_65, vd_E165_68, vd_E165_70, vd_E165_72, vd_E165_73, vd_E165_76, vd_E165_77, vd_E165_78, vd_E165_81, vd_E165_82, vd_E165_84, vd_E165_85, vd_E165_87, vd_E165_88, vd_E165_91, vd_E165_93, vd_E165_94, vd_E165_96, vd_E165_97, vd_E165_98, vd_E165_100, vd_E165_103, vd_E165_103n, vd_E165_105, vd_E165_107, vd_E165_110, vd_E165_112, vd_E165_113, vd_E165_114, vd_E165_116, vd_E165_117, vd_E165_118, vd_E165_121, vd_E165_124, vd_E165_127, vd_E165_130, vd_E165_133, vd_E165_137, vd_E165_140, vd_E165_141, vd_E165_142, vd_E165_143, vd_E165_144, vd_E165_145, vd_E165_145n, vd_E165_147, vd_E165_148, vd_E165_151, vd_E165_154, vd_I_toInt, Int.lt_irrefl, if_false]
    exact hQ _ _ _ _ _ rfl rfl h8 h9
  | succ m ih =>
    intro key at_ f a8 a9 hy hat h8 h9
    have ih := fun at_ f a8 a9 => ih (key + 1) at_ f a8 a9 (by omega)
    have hlt : (key : Int) < most := by omega
    rw [vd_E165_39]
    simp (disch := first | assumption | (simp only [vd_MM, if_true, if_false]; done) | omega | (simp only [vd_MM, if_true, if_false]; first | assumption | omega)) only [vd_E165_0, vd_E165_1, vd_E165_3, vd_E165_4, vd_E165_7, vd_E165_8, vd_E165_9, vd_E165_10, vd_E165_11, vd_E165_12, vd_E165_13, vd_E165_14, vd_E165_16, vd_E165_16n, vd_E165_18, vd_E165_19, vd_E165_21, vd_E165_22, vd_E165_25, vd_E165_26, vd_E165_27, vd_E165_28, vd_E165_31, vd_E165_32, vd_E165_33, vd_E165_34, vd_E165_36, vd_E165_37, vd_E165_41, vd_E165_43, vd_E165_46, vd_E165_47, vd_E165_51, vd_E165_52, vd_E165_55, vd_E165_56, vd_E165_60, vd_E165_61, vd_E165_64, vd_E165_65, vd_E165_68, vd_E165_70, vd_E165_72, vd_E165_73, vd_E165_76, vd_E165_77, vd_E165_78, vd_E165_81, vd_E165_82, vd_E165_84, vd_E165_85, vd_E165_87, vd_E165_88, vd_E165_91, vd_E165_93, vd_E165_94, vd_E165_96, vd_E165_97, vd_E165_98, vd_E165_100, vd_E165_103, vd_E165_103n, vd_E165_105, vd_E165_107, vd_E165_110, vd_E165_112, vd_E165_113, vd_E165_114, vd_E165_116, vd_E165_117, vd_E165_118, vd_E165_121, vd_E165_124, vd_E165_127, vd_E165_130, vd_E165_133, vd_E165_136, vd_E165_136n, vd_E165_137, vd_E165_140, vd_E165_141, vd_E165_142, vd_E165_143, vd_E165_144, vd_E165_145, vd_E165_145n, vd_E165_147, vd_E165_148, vd_E165_151, vd_E165_154, vd_I_toInt, hlt, if_true, vd_I_add, vd_I_sub, vd_I_mul, vd_I_neg]
    refine vd_scY ho hk hl hn hn2 hsort (by omega) (by omega) (fun at2 f2 a92 hat2 h92 => ?_) n 0 at_ f a9 (by omega) (by rw [Nat.zero_mul]; exact hat) h9
    rw [vd_E165_130 rfl]
    simp (disch := first | assumption | (simp only [vd_MM, if_true, if_false]; done) | omega | (simp only [vd_MM, if_true, if_false]; first | assumption | omega)) only [vd_E165_0, vd_E165_1, vd_E165_3, vd_E165_4, vd_E165_7, vd_E165_8, vd_E165_9, vd_E165_10, vd_E165_11, vd_E165_12, vd_E165_13, vd_E165_14, vd_E165_16, vd_E165_16n, vd_E165_18, vd_E165_19, vd_E165_21, vd_E165_22, vd_E165_25, vd_E165_26, vd_E165_27, vd_E165_28, vd_E165_31, vd_E165_32, vd_E165_33, vd_E165_34, vd_E165_36, vd_E165_37, vd_E165_41, vd_E165_43, vd_E165_46, vd_E165_47, vd_E165_51, vd_E165_52, vd_E165_55, vd_E165_56, vd_E165_60, vd_E165_61, vd_E165_64, vd_E165_65, vd_E165_68, vd_E165_70, vd_E165_72, vd_E165_73, vd_E165_76, vd_E165_77, vd_E165_78, vd_E165_81, vd_E165_82, vd_E165_84, vd_E165_85, vd_E165_87, vd_E165_88, vd_E165_91, vd_E165_93, vd_E165_94, vd_E165_96, vd_E165_97, vd_E165_98, vd_E165_100, vd_E165_103, vd_E165_103n, vd_E165_105, vd_E165_107, vd_E165_110, vd_E165_112, vd_E165_113, vd_E165_114, vd_E165_116, vd_E165_117, vd_E165_118, vd_E165_121, vd_E165_124, vd_E165_127, vd_E165_130, vd_E165_133, vd_E165_136, vd_E165_136n, vd_E165_137, vd_E165_140, vd_E165_141, vd_E165_142, vd_E165_143, vd_E165_144, vd_E165_145, vd_E165_145n, vd_E165_147, vd_E165_148, vd_E165_151, vd_E165_154, vd_I_add, vd_I_sub, vd_I_mul, vd_I_neg]
    refine ih at2 f2 _ _ ?_ rfl h92
    refine Nat.le_trans hat2 (vd_cnt_mono _ (fun q hq hp => ?_))
    unfold vd_P165 at hp ⊢
    simp only [Bool.or_eq_true, Bool.and_eq_true, decide_eq_true_eq] at hp ⊢
    omega
end VDQ4
