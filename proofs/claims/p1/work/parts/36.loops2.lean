/-! ===== counting; the scans ===== -/
def vd_cnt (P : Nat → Bool) : Nat → Nat
  | 0 => 0
  | n + 1 => vd_cnt P n + (if P n then 1 else 0)
theorem vd_cnt_le (P : Nat → Bool) : ∀ n, vd_cnt P n ≤ n
  | 0 => Nat.le_refl _
  | n + 1 => by
    have := vd_cnt_le P n
    unfold vd_cnt
    split <;> omega
theorem vd_cnt_mono {P R : Nat → Bool} : ∀ n, (∀ q, q < n → P q = true → R q = true) → vd_cnt P n ≤ vd_cnt R n
  | 0, _ => Nat.le_refl _
  | n + 1, h => by
    have h1 := vd_cnt_mono n (fun q hq => h q (by omega))
    have h2 := h n (by omega)
    unfold vd_cnt
    split
    · rw [if_pos (h2 (by assumption))]; omega
    · omega
theorem vd_cnt_lt {P R : Nat → Bool} {p : Nat} (hp : P p = false) (hr : R p = true) : ∀ n, p < n → (∀ q, q < n → P q = true → R q = true) → vd_cnt P n + 1 ≤ vd_cnt R n
  | 0, h, _ => by omega
  | n + 1, hn, h => by
    have h2 := h n (by omega)
    unfold vd_cnt
    by_cases e : p = n
    · subst e
      have h1 := vd_cnt_mono p (fun q hq => h q (by omega))
      rw [hp, hr]
      simp only [Bool.false_eq_true, if_false, if_true]
      omega
    · have h1 := vd_cnt_lt hp hr n (by omega) (fun q hq => h q (by omega))
      split
      · rw [if_pos (h2 (by assumption))]; omega
      · omega
theorem vd_cnt_lt' {P : Nat → Bool} {p n : Nat} (hp : P p = false) (hn : p < n) : vd_cnt P n + 1 ≤ n := by
  have h1 := vd_cnt_lt (P := P) (R := fun _ => true) hp rfl n hn (fun _ _ _ => rfl)
  have h2 := vd_cnt_le (fun _ => true) n
  omega
theorem vd_I_div {a b : Int} (h1 : 0 ≤ a) (h2 : a < 2147483648) (h3 : 0 < b) (h4 : b < 2147483648) : vd_I a / vd_I b = vd_I (a / b) := by
  have hq : 0 ≤ a / b ∧ a / b ≤ a := ⟨Int.ediv_nonneg h1 (by omega), Int.ediv_le_self b h1⟩
  apply Int32.toInt_inj.mp
  rw [Int32.toInt_div, vd_I_toInt (by omega) h2, vd_I_toInt (by omega) h4, vd_I_toInt (by omega) (by omega)]
  rw [Int.tdiv_eq_ediv_of_nonneg h1]
  exact Int.bmod_eq_of_le (by omega) (by omega)
theorem vd_I_rem {a b : Int} (h1 : 0 ≤ a) (h2 : a < 2147483648) (h3 : 0 < b) (h4 : b < 2147483648) : vd_I a - vd_I a / vd_I b * vd_I b = vd_I (a % b) := by
  rw [vd_I_div h1 h2 h3 h4, vd_I_mul, vd_I_sub]
  congr 1
  have := Int.emod_add_mul_ediv a b
  have e : a / b * b = b * (a / b) := Int.mul_comm _ _
  omega
theorem vd_I_ne0 {b : Int} (h3 : 0 < b) (h4 : b < 2147483648) : vd_I b ≠ 0 := by
  intro h
  have := congrArg Int32.toInt h
  rw [vd_I_toInt (by omega) h4] at this
  have : b = 0 := this
  omega
section VDQ2
variable {d : Nat} {M : vd_M} {Q : vd_M → (Option Value ⊕ Nat) → Prop}
/-- what has been met before key, y -/
def vd_P10 (side wx wy key y : Nat) (q : Nat) : Bool := decide (wx * (q % side) + wy * (q / side) < key) || (decide (wx * (q % side) + wy * (q / side) = key) && decide (q / side < y))
theorem vd_fsIn {o first side wx wy K key : Nat} {a8' : Value} (ho : 10 ≤ o) (hk : vd_k M o = 32) (hl : first + side * side ≤ vd_l M o) (hll : vd_l M o ≤ 65536) (hs : 1 ≤ side) (hs2 : side ≤ 32) (hwx : 1 ≤ wx) (hwx2 : wx ≤ 4) (hwy : wy ≤ 4) (hkey : key ≤ 1000)
    (hQ : ∀ (at_ : Nat) (f : Nat → Int32) (a8 : Value), at_ ≤ first + vd_cnt (vd_P10 side wx wy key side) (side * side) → vd_long a8 = false → vd_wp d 10 80 [.ref o, .int (vd_I first), .int (vd_I side), .int (vd_I wx), .int (vd_I wy), .int (vd_I (at_ : Int)), .int (vd_I (key : Int)), .int (vd_I (side : Int)), a8] [] (vd_sa M o f) Q) :
    ∀ (m y at_ : Nat) (f : Nat → Int32) (a8 : Value), y + m = side → at_ ≤ first + vd_cnt (vd_P10 side wx wy key y) (side * side) → vd_long a8 = false → vd_wp d 10 22 [.ref o, .int (vd_I first), .int (vd_I side), .int (vd_I wx), .int (vd_I wy), .int (vd_I (at_ : Int)), .int (vd_I (key : Int)), .int (vd_I (y : Int)), a8] [] (vd_sa M o f) Q := by
  intro m
  have hss : side * side ≤ 32 * 32 := Nat.mul_le_mul hs2 hs2
  have hcl := fun P => vd_cnt_le P (side * side)
  induction m with
  | zero =>
    intro y at_ f a8 hy hat h8
    have : y = side := by omega
    subst this
    rw [vd_E10_22]
    simp (disch := first | assumption | (simp only [vd_MM, if_true, if_false]; done) | omega | (simp only [vd_MM, if_true, if_false]; first | assumption | omega)) only [vd_E10_0, vd_E10_1, vd_E10_3, vd_E10_4, vd_E10_8, vd_E10_9, vd_E10_11, vd_E10_12, vd_E10_13, vd_E10_14, vd_E10_15, vd_E10_16, vd_E10_19, vd_E10_20, vd_E10_24, vd_E10_25, vd_E10_28, vd_E10_30, vd_E10_32, vd_E10_34, vd_E10_35, vd_E10_36, vd_E10_38, vd_E10_40, vd_E10_43, vd_E10_45, vd_E10_46, vd_E10_47, vd_E10_50, vd_E10_52, vd_E10_53, vd_E10_54, vd_E10_55, vd_E10_58, vd_E10_58n, vd_E10_59, vd_E10_61, vd_E10_63, vd_E10_64, vd_E10_65, vd_E10_67, vd_E10_68, vd_E10_69, vd_E10_70, vd_E10_71, vd_E10_74, vd_E10_77, vd_E10_83, vd_E10_86, vd_I_toInt, Int.lt_irrefl, if_false]
    exact hQ _ _ _ hat h8
  | succ m ih =>
    intro y at_ f a8 hy hat h8
    have ih := fun at_ f a8 => ih (y + 1) at_ f a8 (by omega)
    have hlt : (y : Int) < side := by omega
    have hwyy : wy * y ≤ 4 * 32 := Nat.mul_le_mul hwy (by omega)
    have hwyz : ((wy : Int) * (y : Int)) = ((wy * y : Nat) : Int) := by simp
    have hmono : vd_cnt (vd_P10 side wx wy key y) (side * side) ≤ vd_cnt (vd_P10 side wx wy key (y + 1)) (side * side) := vd_cnt_mono _ (fun q _ hq => by
      unfold vd_P10 at hq ⊢
      simp only [Bool.or_eq_true, Bool.and_eq_true, decide_eq_true_eq] at hq ⊢
      omega)
    have hc1 := hcl (vd_P10 side wx wy key y)
    rw [vd_E10_22]
    simp (disch := first | assumption | (simp only [vd_MM, if_true, if_false]; done) | omega | (simp only [vd_MM, if_true, if_false]; first | assumption | omega)) only [vd_E10_0, vd_E10_1, vd_E10_3, vd_E10_4, vd_E10_8, vd_E10_9, vd_E10_11, vd_E10_12, vd_E10_13, vd_E10_14, vd_E10_15, vd_E10_16, vd_E10_19, vd_E10_20, vd_E10_24, vd_E10_25, vd_E10_28, vd_E10_30, vd_E10_32, vd_E10_34, vd_E10_35, vd_E10_36, vd_E10_40, vd_E10_43, vd_E10_45, vd_E10_46, vd_E10_47, vd_E10_50, vd_E10_52, vd_E10_53, vd_E10_54, vd_E10_55, vd_E10_58, vd_E10_58n, vd_E10_59, vd_E10_61, vd_E10_63, vd_E10_64, vd_E10_65, vd_E10_67, vd_E10_68, vd_E10_69, vd_E10_70, vd_E10_71, vd_E10_74, vd_E10_77, vd_E10_80, vd_E10_83, vd_E10_86, vd_I_toInt, hlt, if_true, vd_I_add, vd_I_sub, vd_I_mul, vd_I_neg, hwyz]
    rw [vd_E10_38]
    by_cases hneg : (key : Int) - ((wy * y : Nat) : Int) < 0
    · simp (disch := first | assumption | (simp only [vd_MM, if_true, if_false]; done) | omega | (simp only [vd_MM, if_true, if_false]; first | assumption | omega)) only [vd_E10_0, vd_E10_1, vd_E10_3, vd_E10_4, vd_E10_8, vd_E10_9, vd_E10_11, vd_E10_12, vd_E10_13, vd_E10_14, vd_E10_15, vd_E10_16, vd_E10_19, vd_E10_20, vd_E10_24, vd_E10_25, vd_E10_28, vd_E10_30, vd_E10_32, vd_E10_34, vd_E10_35, vd_E10_36, vd_E10_38, vd_E10_40, vd_E10_43, vd_E10_45, vd_E10_46, vd_E10_47, vd_E10_50, vd_E10_52, vd_E10_53, vd_E10_54, vd_E10_55, vd_E10_58, vd_E10_58n, vd_E10_59, vd_E10_61, vd_E10_63, vd_E10_64, vd_E10_65, vd_E10_67, vd_E10_68, vd_E10_69, vd_E10_70, vd_E10_71, vd_E10_74, vd_E10_77, vd_E10_80, vd_E10_83, vd_E10_86, vd_I_toInt, hneg, if_true, vd_I_add, vd_I_sub, vd_I_mul, vd_I_neg]
      exact ih _ _ _ (by omega) rfl
    · obtain ⟨r, hr⟩ : ∃ r : Nat, (key : Int) - ((wy * y : Nat) : Int) = (r : Int) := ⟨key - wy * y, by omega⟩
      rw [hr] at hneg ⊢
      have hr2 : (r : Int) < 2147483648 := by omega
      have hne := vd_I_ne0 (b := (wx : Int)) (by omega) (by omega)
      have hrem := vd_I_rem (a := (r : Int)) (b := (wx : Int)) (by omega) hr2 (by omega) (by omega)
      have hdiv := vd_I_div (a := (r : Int)) (b := (wx : Int)) (by omega) hr2 (by omega) (by omega)
      have hm0 : 0 ≤ (r : Int) % (wx : Int) := Int.emod_nonneg _ (by omega)
      have hm1 : (r : Int) % (wx : Int) < (wx : Int) := Int.emod_lt_of_pos _ (by omega)
      have hd0 : 0 ≤ (r : Int) / (wx : Int) := Int.ediv_nonneg (by omega) (by omega)
      have hd1 : (r : Int) / (wx : Int) ≤ (r : Int) := Int.ediv_le_self _ (by omega)
      have hme := Int.emod_add_mul_ediv (r : Int) (wx : Int)
      simp (disch := first | assumption | (simp only [vd_MM, if_true, if_false]; done) | omega | (simp only [vd_MM, if_true, if_false]; first | assumption | omega)) only [vd_E10_0, vd_E10_1, vd_E10_3, vd_E10_4, vd_E10_8, vd_E10_9, vd_E10_11, vd_E10_12, vd_E10_13, vd_E10_14, vd_E10_15, vd_E10_16, vd_E10_19, vd_E10_20, vd_E10_24, vd_E10_25, vd_E10_28, vd_E10_30, vd_E10_32, vd_E10_34, vd_E10_35, vd_E10_36, vd_E10_38, vd_E10_40, vd_E10_43, vd_E10_45, vd_E10_46, vd_E10_47, vd_E10_50, vd_E10_52, vd_E10_53, vd_E10_54, vd_E10_55, vd_E10_58, vd_E10_58n, vd_E10_59, vd_E10_61, vd_E10_63, vd_E10_64, vd_E10_65, vd_E10_67, vd_E10_68, vd_E10_69, vd_E10_70, vd_E10_71, vd_E10_74, vd_E10_77, vd_E10_80, vd_E10_83, vd_E10_86, vd_I_toInt, hneg, if_false, hrem]
      by_cases hz : (r : Int) % (wx : Int) = 0
      · simp (disch := first | assumption | (simp only [vd_MM, if_true, if_false]; done) | omega | (simp only [vd_MM, if_true, if_false]; first | assumption | omega)) only [vd_E10_0, vd_E10_1, vd_E10_3, vd_E10_4, vd_E10_8, vd_E10_9, vd_E10_11, vd_E10_12, vd_E10_13, vd_E10_14, vd_E10_15, vd_E10_16, vd_E10_19, vd_E10_20, vd_E10_24, vd_E10_25, vd_E10_28, vd_E10_30, vd_E10_32, vd_E10_34, vd_E10_35, vd_E10_36, vd_E10_38, vd_E10_40, vd_E10_43, vd_E10_45, vd_E10_46, vd_E10_47, vd_E10_50, vd_E10_52, vd_E10_53, vd_E10_54, vd_E10_55, vd_E10_58, vd_E10_58n, vd_E10_59, vd_E10_61, vd_E10_63, vd_E10_64, vd_E10_65, vd_E10_67, vd_E10_68, vd_E10_69, vd_E10_70, vd_E10_71, vd_E10_74, vd_E10_77, vd_E10_80, vd_E10_83, vd_E10_86, vd_I_toInt, hz, if_true, hdiv]
        by_cases hlt2 : (r : Int) / (wx : Int) < (side : Int)
        · obtain ⟨x, hx⟩ : ∃ x : Nat, (r : Int) / (wx : Int) = (x : Int) := ⟨((r : Int) / (wx : Int)).toNat, by omega⟩
          rw [hx] at hlt2 hme
          have hwxx : ((wx : Int) * (x : Int)) = ((wx * x : Nat) : Int) := by simp
          rw [hwxx] at hme
          have hq0 : (y * side + x) % side = x := by rw [Nat.mul_comm, Nat.mul_add_mod]; exact Nat.mod_eq_of_lt (by omega)
          have hq1 : (y * side + x) / side = y := by
            rw [Nat.mul_comm, Nat.mul_add_div (by omega), Nat.div_eq_of_lt (by omega)]; rfl
          have hqn : y * side + x < side * side := by
            have : (y + 1) * side ≤ side * side := Nat.mul_le_mul_right _ (by omega)
            have e : (y + 1) * side = y * side + side := Nat.succ_mul _ _
            omega
          have hP : vd_P10 side wx wy key y (y * side + x) = false := by
            unfold vd_P10
            rw [hq0, hq1]
            simp only [Bool.or_eq_false_iff, Bool.and_eq_false_iff, decide_eq_false_iff_not]
            omega
          have hR : vd_P10 side wx wy key (y + 1) (y * side + x) = true := by
            unfold vd_P10
            rw [hq0, hq1]
            simp only [Bool.or_eq_true, Bool.and_eq_true, decide_eq_true_eq]
            omega
          have hc2 := vd_cnt_lt' hP hqn
          have hc3 := vd_cnt_lt hP hR _ hqn (fun q _ hq => by
            unfold vd_P10 at hq ⊢
            simp only [Bool.or_eq_true, Bool.and_eq_true, decide_eq_true_eq] at hq ⊢
            omega)
          simp (disch := first | assumption | (simp only [vd_MM, if_true, if_false]; done) | omega | (simp only [vd_MM, if_true, if_false]; first | assumption | omega)) only [vd_E10_0, vd_E10_1, vd_E10_3, vd_E10_4, vd_E10_8, vd_E10_9, vd_E10_11, vd_E10_12, vd_E10_13, vd_E10_14, vd_E10_15, vd_E10_16, vd_E10_19, vd_E10_20, vd_E10_24, vd_E10_25, vd_E10_28, vd_E10_30, vd_E10_32, vd_E10_34, vd_E10_35, vd_E10_36, vd_E10_38, vd_E10_40, vd_E10_43, vd_E10_45, vd_E10_46, vd_E10_47, vd_E10_50, vd_E10_52, vd_E10_53, vd_E10_54, vd_E10_55, vd_E10_58, vd_E10_58n, vd_E10_59, vd_E10_61, vd_E10_63, vd_E10_64, vd_E10_65, vd_E10_67, vd_E10_68, vd_E10_69, vd_E10_70, vd_E10_71, vd_E10_74, vd_E10_77, vd_E10_80, vd_E10_83, vd_E10_86, vd_I_toInt, hx, hdiv, hlt2, if_true, vd_I_add, vd_I_sub, vd_I_mul, vd_I_neg]
          rw [vd_si_sa]
          exact ih (at_ + 1) _ _ (by omega) rfl
        · simp (disch := first | assumption | (simp only [vd_MM, if_true, if_false]; done) | omega | (simp only [vd_MM, if_true, if_false]; first | assumption | omega)) only [vd_E10_0, vd_E10_1, vd_E10_3, vd_E10_4, vd_E10_8, vd_E10_9, vd_E10_11, vd_E10_12, vd_E10_13, vd_E10_14, vd_E10_15, vd_E10_16, vd_E10_19, vd_E10_20, vd_E10_24, vd_E10_25, vd_E10_28, vd_E10_30, vd_E10_32, vd_E10_34, vd_E10_35, vd_E10_36, vd_E10_38, vd_E10_40, vd_E10_43, vd_E10_45, vd_E10_46, vd_E10_47, vd_E10_50, vd_E10_52, vd_E10_53, vd_E10_54, vd_E10_55, vd_E10_58, vd_E10_58n, vd_E10_59, vd_E10_61, vd_E10_63, vd_E10_64, vd_E10_65, vd_E10_67, vd_E10_68, vd_E10_69, vd_E10_70, vd_E10_71, vd_E10_74, vd_E10_77, vd_E10_80, vd_E10_83, vd_E10_86, vd_I_toInt, hlt2, if_false, vd_I_add, vd_I_sub, vd_I_mul, vd_I_neg]
          exact ih _ _ _ (by omega) rfl
      · simp (disch := first | assumption | (simp only [vd_MM, if_true, if_false]; done) | omega | (simp only [vd_MM, if_true, if_false]; first | assumption | omega)) only [vd_E10_0, vd_E10_1, vd_E10_3, vd_E10_4, vd_E10_8, vd_E10_9, vd_E10_11, vd_E10_12, vd_E10_13, vd_E10_14, vd_E10_15, vd_E10_16, vd_E10_19, vd_E10_20, vd_E10_24, vd_E10_25, vd_E10_28, vd_E10_30, vd_E10_32, vd_E10_34, vd_E10_35, vd_E10_36, vd_E10_38, vd_E10_40, vd_E10_43, vd_E10_45, vd_E10_46, vd_E10_47, vd_E10_50, vd_E10_52, vd_E10_53, vd_E10_54, vd_E10_55, vd_E10_58, vd_E10_58n, vd_E10_59, vd_E10_61, vd_E10_63, vd_E10_64, vd_E10_65, vd_E10_67, vd_E10_68, vd_E10_69, vd_E10_70, vd_E10_71, vd_E10_74, vd_E10_77, vd_E10_80, vd_E10_83, vd_E10_86, vd_I_toInt, hz, if_false, vd_I_add, vd_I_sub, vd_I_mul, vd_I_neg]
        exact ih _ _ _ (by omega) rfl
theorem vd_fs {o first side wx wy : Nat} (ho : 10 ≤ o) (hk : vd_k M o = 32) (hl : first + side * side ≤ vd_l M o) (hll : vd_l M o ≤ 65536) (hs : 1 ≤ side) (hs2 : side ≤ 32) (hwx : 1 ≤ wx) (hwx2 : wx ≤ 4) (hwy : wy ≤ 4) (hQ : ∀ f, Q (vd_sa M o f) (.inl none)) :
    vd_wp d 10 0 [.ref o, .int (vd_I first), .int (vd_I side), .int (vd_I wx), .int (vd_I wy), vd_U, vd_U, vd_U, vd_U] [] M Q := by
  have hK : (wx + wy) * (side - 1) ≤ 8 * 31 := Nat.mul_le_mul (by omega) (by omega)
  have hcl := fun P => vd_cnt_le P (side * side)
  have hss : side * side ≤ 32 * 32 := Nat.mul_le_mul hs2 hs2
  have hKz : ((wx : Int) + (wy : Int)) * ((side : Int) - 1) = (((wx + wy) * (side - 1) : Nat) : Int) := by
    rw [Int.natCast_mul, Int.natCast_add, Int.natCast_sub hs]; rfl
  have out : ∀ (m key at_ : Nat) (f : Nat → Int32) (a7 a8 : Value), key + m = (wx + wy) * (side - 1) + 1 → at_ ≤ first + vd_cnt (vd_P10 side wx wy key 0) (side * side) → vd_long a7 = false → vd_long a8 = false → vd_wp d 10 6 [.ref o, .int (vd_I first), .int (vd_I side), .int (vd_I wx), .int (vd_I wy), .int (vd_I (at_ : Int)), .int (vd_I (key : Int)), a7, a8] [] (vd_sa M o f) Q := by
    intro m
    induction m with
    | zero =>
      intro key at_ f a7 a8 hm hat h7 h8
      rw [vd_E10_6]
      have hgt : (((wx + wy) * (side - 1) : Nat) : Int) < (key : Int) := by omega
      simp (disch := first | assumption | (simp only [vd_MM, if_true, if_false]; done) | omega | (simp only [vd_MM, if_true, if_false]; first | assumption | omega)) only [vd_E10_0, vd_E10_1, vd_E10_3, vd_E10_4, vd_E10_8, vd_E10_9, vd_E10_11, vd_E10_12, vd_E10_13, vd_E10_14, vd_E10_15, vd_E10_16, vd_E10_19, vd_E10_20, vd_E10_24, vd_E10_25, vd_E10_28, vd_E10_30, vd_E10_32, vd_E10_34, vd_E10_35, vd_E10_36, vd_E10_38, vd_E10_40, vd_E10_43, vd_E10_45, vd_E10_46, vd_E10_47, vd_E10_50, vd_E10_52, vd_E10_53, vd_E10_54, vd_E10_55, vd_E10_58, vd_E10_58n, vd_E10_59, vd_E10_61, vd_E10_63, vd_E10_64, vd_E10_65, vd_E10_67, vd_E10_68, vd_E10_69, vd_E10_70, vd_E10_71, vd_E10_74, vd_E10_77, vd_E10_80, vd_E10_83, vd_E10_86, vd_I_add, vd_I_sub, vd_I_mul, vd_I_neg, hKz, vd_I_toInt, hgt, if_true]
      exact hQ f
    | succ m ih =>
      intro key at_ f a7 a8 hm hat h7 h8
      rw [vd_E10_6]
      have hgt : ¬ (((wx + wy) * (side - 1) : Nat) : Int) < (key : Int) := by omega
      simp (disch := first | assumption | (simp only [vd_MM, if_true, if_false]; done) | omega | (simp only [vd_MM, if_true, if_false]; first | assumption | omega)) only [vd_E10_0, vd_E10_1, vd_E10_3, vd_E10_4, vd_E10_8, vd_E10_9, vd_E10_11, vd_E10_12, vd_E10_13, vd_E10_14, vd_E10_15, vd_E10_16, vd_E10_19, vd_E10_20, vd_E10_24, vd_E10_25, vd_E10_28, vd_E10_30, vd_E10_32, vd_E10_34, vd_E10_35, vd_E10_36, vd_E10_38, vd_E10_40, vd_E10_43, vd_E10_45, vd_E10_46, vd_E10_47, vd_E10_50, vd_E10_52, vd_E10_53, vd_E10_54, vd_E10_55, vd_E10_58, vd_E10_58n, vd_E10_59, vd_E10_61, vd_E10_63, vd_E10_64, vd_E10_65, vd_E10_67, vd_E10_68, vd_E10_69, vd_E10_70, vd_E10_71, vd_E10_74, vd_E10_77, vd_E10_80, vd_E10_83, vd_E10_86, vd_I_add, vd_I_sub, vd_I_mul, vd_I_neg, hKz, vd_I_toInt, hgt, if_false]
      refine vd_fsIn (a8' := .null) (K := 0) ho hk hl hll hs hs2 hwx hwx2 hwy (by omega) (fun at2 f2 a82 hat2 h82 => ?_) side 0 at_ f a8 (by omega) hat h8
      rw [vd_E10_80 rfl]
      simp (disch := first | assumption | (simp only [vd_MM, if_true, if_false]; done) | omega | (simp only [vd_MM, if_true, if_false]; first | assumption | omega)) only [vd_E10_0, vd_E10_1, vd_E10_3, vd_E10_4, vd_E10_8, vd_E10_9, vd_E10_11, vd_E10_12, vd_E10_13, vd_E10_14, vd_E10_15, vd_E10_16, vd_E10_19, vd_E10_20, vd_E10_24, vd_E10_25, vd_E10_28, vd_E10_30, vd_E10_32, vd_E10_34, vd_E10_35, vd_E10_36, vd_E10_38, vd_E10_40, vd_E10_43, vd_E10_45, vd_E10_46, vd_E10_47, vd_E10_50, vd_E10_52, vd_E10_53, vd_E10_54, vd_E10_55, vd_E10_58, vd_E10_58n, vd_E10_59, vd_E10_61, vd_E10_63, vd_E10_64, vd_E10_65, vd_E10_67, vd_E10_68, vd_E10_69, vd_E10_70, vd_E10_71, vd_E10_74, vd_E10_77, vd_E10_80, vd_E10_83, vd_E10_86, vd_I_add, vd_I_sub, vd_I_mul, vd_I_neg]
      refine ih (key + 1) at2 f2 _ _ (by omega) ?_ rfl h82
      refine Nat.le_trans hat2 (Nat.add_le_add_left (vd_cnt_mono _ (fun q hq hp => ?_)) _)
      unfold vd_P10 at hp ⊢
      simp only [Bool.or_eq_true, Bool.and_eq_true, decide_eq_true_eq] at hp ⊢
      omega
  have h := out ((wx + wy) * (side - 1) + 1) 0 first (vd_i M o) vd_U vd_U (by omega) (by omega) rfl rfl
  rw [vd_sa_self] at h
  simp (disch := first | assumption | (simp only [vd_MM, if_true, if_false]; done) | omega | (simp only [vd_MM, if_true, if_false]; first | assumption | omega)) only [vd_E10_0, vd_E10_1, vd_E10_3, vd_E10_4, vd_E10_8, vd_E10_9, vd_E10_11, vd_E10_12, vd_E10_13, vd_E10_14, vd_E10_15, vd_E10_16, vd_E10_19, vd_E10_20, vd_E10_24, vd_E10_25, vd_E10_28, vd_E10_30, vd_E10_32, vd_E10_34, vd_E10_35, vd_E10_36, vd_E10_38, vd_E10_40, vd_E10_43, vd_E10_45, vd_E10_46, vd_E10_47, vd_E10_50, vd_E10_52, vd_E10_53, vd_E10_54, vd_E10_55, vd_E10_58, vd_E10_58n, vd_E10_59, vd_E10_61, vd_E10_63, vd_E10_64, vd_E10_65, vd_E10_67, vd_E10_68, vd_E10_69, vd_E10_70, vd_E10_71, vd_E10_74, vd_E10_77, vd_E10_80, vd_E10_83, vd_E10_86]
  exact h
end VDQ2
