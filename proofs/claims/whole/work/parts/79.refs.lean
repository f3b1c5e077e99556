/-! ===== small words on neighbours; two steps of a ladder ===== -/
section VDRF
variable {M N : vd_M} {ow fa lo lf W H nb : Nat} {O : Nat → Nat → Option Nat} {B : Nat → Nat → Int} {X : Nat → Nat → Int} {mp : Nat → Nat → Int} {x y w h n : Nat} {f g : Nat → Nat → Int32}
theorem vd_P207 (hN : vd_SR N) (hA : vd_GA ow fa W H nb O B f) (h : vd_GB W H O B g) (w1 : W ≤ 24) (w2 : H ≤ 24) {a b v : Int} (hv : v = b * (W : Int) + a) (d : Nat) (Q : vd_M → (Option Value ⊕ Nat) → Prop) : vd_wp d 207 0 [.ref 63, .int (vd_I (vd_nu (vd_at W H O a b) v))] [] (vd_mf N g) Q = Q (vd_mf N g) (.inl (some (.int (vd_I (vd_eq1 B (vd_at W H O a b) 9 0))))) := by
  cases e : vd_at W H O a b with
  | none => simp (disch := omega) only [vd_S207_0 hN, vd_S207_4 hN, vd_S207_13 hN, vd_S207_24 hN, vd_S207_28 hN, vd_S207_29 hN, vd_S207_9 hN, vd_S207_20 hN, vd_nu, vd_eq1, vd_I_toInt, show (-1 : Int) < 0 by decide, if_true]
  | some k =>
    obtain ⟨i, j, rfl, rfl, hi, hj, hk⟩ := vd_at_some e
    have hkk := hA.2.2.2.1 i j k hk
    have hb := hA.2.2.2.2.2 k hkk
    have hb1 := hb.2.1
    have hb2 := hb.2.2.1
    have hb3 := hb.2.2.2.2.2.2
    have q := h.2.2 i j k hi hj hk
    have e8 := q.2.1.2.2.2
    have e9 := q.2.2.1.1
    have hx := vd_ix hi hj
    have hy : W * H ≤ 24 * 24 := Nat.mul_le_mul w1 w2
    rw [vd_ixN] at hv
    subst hv
    have i9 : (2 * ((W * j + i : Nat) : Int)).toNat = 2 * (W * j + i) := by omega
    have cn : ¬ (((W * j + i : Nat) : Int) < 0) := by omega
    by_cases c7 : B k 7 < 0
    · rw [if_pos c7] at e8
      by_cases c9 : B k 9 = 0
      · simp (disch := omega) only [vd_S207_0 hN, vd_S207_4 hN, vd_S207_13 hN, vd_S207_24 hN, vd_S207_28 hN, vd_S207_29 hN, vd_S207_9 hN, vd_S207_20 hN, vd_nu, vd_eq1, vd_I_toInt, cn, if_false, Int.toNat_natCast, vd_I_mul, i9, e8, e9, c9, eq_self, if_true, show ¬ ((1 : Int) = 0) by decide]
      · simp (disch := omega) only [vd_S207_0 hN, vd_S207_4 hN, vd_S207_13 hN, vd_S207_24 hN, vd_S207_28 hN, vd_S207_29 hN, vd_S207_9 hN, vd_S207_20 hN, vd_nu, vd_eq1, vd_I_toInt, cn, if_false, Int.toNat_natCast, vd_I_mul, i9, e8, e9, c9, show ¬ ((1 : Int) = 0) by decide]
    · rw [if_neg c7] at e8
      simp (disch := omega) only [vd_S207_0 hN, vd_S207_4 hN, vd_S207_13 hN, vd_S207_24 hN, vd_S207_28 hN, vd_S207_29 hN, vd_S207_9 hN, vd_S207_20 hN, vd_nu, vd_eq1, vd_I_toInt, cn, if_false, Int.toNat_natCast, e8, eq_self, if_true, show ¬ (B k 9 = 0) by omega]
theorem vd_P208 (hN : vd_SR N) (hA : vd_GA ow fa W H nb O B f) (h : vd_GB W H O B g) (w1 : W ≤ 24) (w2 : H ≤ 24) {a b v : Int} (hv : v = b * (W : Int) + a) (d : Nat) (Q : vd_M → (Option Value ⊕ Nat) → Prop) : vd_wp d 208 0 [.ref 63, .int (vd_I (vd_nu (vd_at W H O a b) v))] [] (vd_mf N g) Q = Q (vd_mf N g) (.inl (some (.int (vd_I (vd_eq1 B (vd_at W H O a b) 10 2))))) := by
  cases e : vd_at W H O a b with
  | none => simp (disch := omega) only [vd_S208_0 hN, vd_S208_4 hN, vd_S208_13 hN, vd_S208_26 hN, vd_S208_30 hN, vd_S208_31 hN, vd_S208_9 hN, vd_S208_22 hN, vd_nu, vd_eq1, vd_I_toInt, show (-1 : Int) < 0 by decide, if_true]
  | some k =>
    obtain ⟨i, j, rfl, rfl, hi, hj, hk⟩ := vd_at_some e
    have hkk := hA.2.2.2.1 i j k hk
    have hb := hA.2.2.2.2.2 k hkk
    have hb1 := hb.2.1
    have hb2 := hb.2.2.1
    have hb3 := hb.2.2.2.2.2.2
    have q := h.2.2 i j k hi hj hk
    have e8 := q.2.1.2.2.2
    have e9 := q.2.2.1.2.1
    have hx := vd_ix hi hj
    have hy : W * H ≤ 24 * 24 := Nat.mul_le_mul w1 w2
    rw [vd_ixN] at hv
    subst hv
    have i9 : (2 * ((W * j + i : Nat) : Int) + 1).toNat = 2 * (W * j + i) + 1 := by omega
    have cn : ¬ (((W * j + i : Nat) : Int) < 0) := by omega
    by_cases c7 : B k 7 < 0
    · rw [if_pos c7] at e8
      by_cases c9 : B k 10 = 2
      · simp (disch := omega) only [vd_S208_0 hN, vd_S208_4 hN, vd_S208_13 hN, vd_S208_26 hN, vd_S208_30 hN, vd_S208_31 hN, vd_S208_9 hN, vd_S208_22 hN, vd_nu, vd_eq1, vd_I_toInt, cn, if_false, Int.toNat_natCast, vd_I_mul, vd_I_add, i9, e8, e9, c9, eq_self, if_true, show ¬ ((1 : Int) = 0) by decide, show ¬ ((2 : Int) < 0) by decide]
      · have c9' : B k 10 = -1 := by omega
        simp (disch := omega) only [vd_S208_0 hN, vd_S208_4 hN, vd_S208_13 hN, vd_S208_26 hN, vd_S208_30 hN, vd_S208_31 hN, vd_S208_9 hN, vd_S208_22 hN, vd_nu, vd_eq1, vd_I_toInt, cn, if_false, Int.toNat_natCast, vd_I_mul, vd_I_add, i9, e8, e9, c9', if_true, show ¬ ((1 : Int) = 0) by decide, show (-1 : Int) < 0 by decide, show ¬ ((-1 : Int) = 2) by decide]
    · rw [if_neg c7] at e8
      simp (disch := omega) only [vd_S208_0 hN, vd_S208_4 hN, vd_S208_13 hN, vd_S208_26 hN, vd_S208_30 hN, vd_S208_31 hN, vd_S208_9 hN, vd_S208_22 hN, vd_nu, vd_eq1, vd_I_toInt, cn, if_false, Int.toNat_natCast, e8, eq_self, if_true, show ¬ (B k 10 = 2) by omega]
theorem vd_P210 (hN : vd_SR N) (hA : vd_GA ow fa W H nb O B f) (h : vd_GB W H O B g) (w1 : W ≤ 24) (w2 : H ≤ 24) {a b v : Int} (hv : v = b * (W : Int) + a) (d : Nat) (Q : vd_M → (Option Value ⊕ Nat) → Prop) : vd_wp d 210 0 [.ref 63, .int (vd_I (vd_nu (vd_at W H O a b) v))] [] (vd_mf N g) Q = Q (vd_mf N g) (.inl (some (.int (vd_I (vd_eq1 B (vd_at W H O a b) 16 1))))) := by
  cases e : vd_at W H O a b with
  | none => simp (disch := omega) only [vd_S210_0 hN, vd_S210_4 hN, vd_S210_13 hN, vd_S210_23 hN, vd_S210_27 hN, vd_S210_28 hN, vd_S210_9 hN, vd_S210_18 hN, vd_nu, vd_eq1, vd_I_toInt, show (-1 : Int) < 0 by decide, if_true]
  | some k =>
    obtain ⟨i, j, rfl, rfl, hi, hj, hk⟩ := vd_at_some e
    have hkk := hA.2.2.2.1 i j k hk
    have hb := hA.2.2.2.2.2 k hkk
    have hb1 := hb.2.1
    have hb2 := hb.2.2.2.2.1
    have hb3 := hb.2.2.2.2.2.2
    have q := h.2.2 i j k hi hj hk
    have e8 := q.2.1.2.2.2
    have e9 := q.2.2.2.2.1
    have hx := vd_ix hi hj
    have hy : W * H ≤ 24 * 24 := Nat.mul_le_mul w1 w2
    rw [vd_ixN] at hv
    subst hv
    have cn : ¬ (((W * j + i : Nat) : Int) < 0) := by omega
    by_cases c7 : B k 7 < 0
    · rw [if_pos c7] at e8
      by_cases c9 : B k 16 = 1
      · simp (disch := omega) only [vd_S210_0 hN, vd_S210_4 hN, vd_S210_13 hN, vd_S210_23 hN, vd_S210_27 hN, vd_S210_28 hN, vd_S210_9 hN, vd_S210_18 hN, vd_nu, vd_eq1, vd_I_toInt, cn, if_false, Int.toNat_natCast, e8, e9, c9, eq_self, if_true, show ¬ ((1 : Int) = 0) by decide]
      · simp (disch := omega) only [vd_S210_0 hN, vd_S210_4 hN, vd_S210_13 hN, vd_S210_23 hN, vd_S210_27 hN, vd_S210_28 hN, vd_S210_9 hN, vd_S210_18 hN, vd_nu, vd_eq1, vd_I_toInt, cn, if_false, Int.toNat_natCast, e8, e9, c9, show ¬ ((1 : Int) = 0) by decide]
    · rw [if_neg c7] at e8
      simp (disch := omega) only [vd_S210_0 hN, vd_S210_4 hN, vd_S210_13 hN, vd_S210_23 hN, vd_S210_27 hN, vd_S210_28 hN, vd_S210_9 hN, vd_S210_18 hN, vd_nu, vd_eq1, vd_I_toInt, cn, if_false, Int.toNat_natCast, e8, eq_self, if_true, show ¬ (B k 16 = 1) by omega]
/-- a ladder of two steps, and two readings of the reference's -/
theorem vd_lad2 (hM : vd_SC M ow fa lo lf) (hN : vd_SR N) {z : Int} (z0 : 0 ≤ z) (z1 : z + 2 ≤ 2941) (hn : n + 2 ≤ 8000000) (h : vd_RD n f g) : ∃ (f' g1 g' : Nat → Nat → Int32) (b c : Int), (∀ d Q, vd_wp (d + 1) 86 0 [.ref 34, .int (vd_I z), .int (vd_I 2), vd_U, vd_U] [] (vd_mf M f) Q = Q (vd_mf M f') (.inl (some (.int (vd_I (b + c)))))) ∧ (∀ d Q, vd_wp (d + 1) 202 0 [.ref 63, .int (vd_I z), vd_U] [] (vd_mf N g) Q = Q (vd_mf N g1) (.inl (some (.int (vd_I b))))) ∧ ((b = 0 ∧ c = 0 ∧ g' = g1) ∨ (b = 1 ∧ (c = 0 ∨ c = 1) ∧ (∀ d Q, vd_wp (d + 1) 202 0 [.ref 63, .int (vd_I (z + 1)), vd_U] [] (vd_mf N g1) Q = Q (vd_mf N g') (.inl (some (.int (vd_I c))))))) ∧ vd_RD (n + 2) f' g' ∧ vd_fD f f' ∧ vd_gD g g' ∧ vd_gD g g1 := by
  obtain ⟨k, rfl⟩ := Int.eq_ofNat_of_zero_le z0
  obtain ⟨f1, g1, b, q1, q2, q3, q4, q5, q6⟩ := vd_readC hM hN h (by omega) (show k < 2941 by omega)
  have hb : 0 ≤ 2 * (k : Int) + b ∧ 2 * (k : Int) + b < 5882 := by omega
  rcases q3 with rfl | rfl
  · refine ⟨vd_tF f1 k 0, vd_tG g1 k 0, vd_tG g1 k 0, 0, 0, fun d Q => ?_, q2, Or.inl ⟨rfl, rfl, rfl⟩, q4.mono (by omega), q5, q6, q6⟩
    rw [vd_S86_0 hM, vd_S86_5 hM]
    simp (disch := omega) only [vd_S86_0 hM, vd_S86_10 hM, vd_S86_16 hM, vd_S86_65 hM, vd_S86_24 hM, vd_S86_25 hM, vd_S86_28 hM, vd_S86_43 hM, vd_S86_46 hM, vd_I_toInt, show (0 : Int) < 2 by decide, if_true, eq_self, vd_I_add, Int.add_zero, Int.toNat_natCast, q1, vd_rs_v, vd_rs_n, vd_I_mul]
    simp (disch := omega) only [vd_S86_5 hM, vd_S86_0 hM, vd_S86_10 hM, vd_S86_16 hM, vd_S86_65 hM, vd_S86_24 hM, vd_S86_25 hM, vd_S86_28 hM, vd_S86_43 hM, vd_S86_46 hM, vd_I_toInt, show (0 : Int) < 2 by decide, if_true, show ¬ ((0 : Int) = 1) by decide, if_false]
    rfl
  · obtain ⟨f2, g2, c, r1, r2, r3, r4, r5, r6⟩ := vd_readC hM hN (k := k + 1) q4 (by omega) (by omega)
    have hc : 0 ≤ 2 * ((k + 1 : Nat) : Int) + c ∧ 2 * ((k + 1 : Nat) : Int) + c < 5882 := by omega
    have ek : (k : Int) + 1 = ((k + 1 : Nat) : Int) := by omega
    refine ⟨vd_tF f2 (k + 1) c, vd_tG g1 k 1, vd_tG g2 (k + 1) c, 1, c, fun d Q => ?_, q2, Or.inr ⟨rfl, r3, fun d Q => by rw [ek]; exact r2 d Q⟩, r4, q5.trans r5, q6.trans r6, q6⟩
    rw [vd_S86_0 hM, vd_S86_5 hM]
    simp (disch := omega) only [vd_S86_0 hM, vd_S86_10 hM, vd_S86_16 hM, vd_S86_65 hM, vd_S86_24 hM, vd_S86_25 hM, vd_S86_28 hM, vd_S86_43 hM, vd_S86_46 hM, vd_I_toInt, show (0 : Int) < 2 by decide, if_true, eq_self, vd_I_add, Int.add_zero, Int.toNat_natCast, q1, vd_rs_v, vd_rs_n, vd_I_mul, show (0 + 1 : Int) = 1 by decide]
    have et : vd_up (vd_up f1 36 (2 * (k : Int) + 1).toNat (f1 36 (2 * (k : Int) + 1).toNat + vd_I 1)) 34 3 (f1 34 3 + vd_I 1) = vd_tF f1 k 1 := rfl
    rw [et, vd_S86_5 hM]
    rcases r3 with rfl | rfl
    · simp (disch := omega) only [vd_S86_0 hM, vd_S86_10 hM, vd_S86_16 hM, vd_S86_65 hM, vd_S86_24 hM, vd_S86_25 hM, vd_S86_28 hM, vd_S86_43 hM, vd_S86_46 hM, vd_I_toInt, show (1 : Int) < 2 by decide, if_true, eq_self, vd_I_add, ek, Int.toNat_natCast, r1, vd_rs_v, vd_rs_n, vd_I_mul, Int.add_zero]
      simp (disch := omega) only [vd_S86_5 hM, vd_S86_0 hM, vd_S86_10 hM, vd_S86_16 hM, vd_S86_65 hM, vd_S86_24 hM, vd_S86_25 hM, vd_S86_28 hM, vd_S86_43 hM, vd_S86_46 hM, vd_I_toInt, show (1 : Int) < 2 by decide, if_true, show ¬ ((0 : Int) = 1) by decide, if_false]
      rfl
    · simp (disch := omega) only [vd_S86_0 hM, vd_S86_10 hM, vd_S86_16 hM, vd_S86_65 hM, vd_S86_24 hM, vd_S86_25 hM, vd_S86_28 hM, vd_S86_43 hM, vd_S86_46 hM, vd_I_toInt, show (1 : Int) < 2 by decide, if_true, eq_self, vd_I_add, ek, Int.toNat_natCast, r1, vd_rs_v, vd_rs_n, vd_I_mul, show (1 + 1 : Int) = 2 by decide]
      simp (disch := omega) only [vd_S86_5 hM, vd_S86_0 hM, vd_S86_10 hM, vd_S86_16 hM, vd_S86_65 hM, vd_S86_24 hM, vd_S86_25 hM, vd_S86_28 hM, vd_S86_43 hM, vd_S86_46 hM, vd_I_toInt, Int.lt_irrefl, if_false]
      rfl
end VDRF
