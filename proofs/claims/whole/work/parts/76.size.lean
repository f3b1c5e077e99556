/-! ===== the size of a block's transforms ===== -/
/-- the largest size -/
def vd_mx (w h : Nat) (tm : Int) : Int := min (min 3 (1 + vd_rk (min (w : Int) (h : Int)))) tm
/-- a neighbour's size -/
def vd_so (B : Nat → Nat → Int) (o : Option Nat) (m : Int) : Int := match o with
  | none => m
  | some k => if B k 5 = 1 ∧ B k 7 < 0 then m else B k 6
theorem vd_pw {w h : Nat} (hw : w = 1 ∨ w = 2 ∨ w = 4 ∨ w = 8) (hh : h = 1 ∨ h = 2 ∨ h = 4 ∨ h = 8) : (min w h = 1 ∨ min w h = 2 ∨ min w h = 4 ∨ min w h = 8) := by omega
theorem vd_mx_b (w h : Nat) {tm : Int} (t0 : 0 ≤ tm) : 0 ≤ vd_mx w h tm ∧ vd_mx w h tm ≤ 3 := by
  have := vd_rk_b (min (w : Int) (h : Int))
  unfold vd_mx
  omega
section VDSZ
variable {M N : vd_M} {ow fa lo lf W H nb : Nat} {O : Nat → Nat → Option Nat} {B : Nat → Nat → Int} {X : Nat → Nat → Int} {mp : Nat → Nat → Int} {x y w h n : Nat} {f g : Nat → Nat → Int32}
theorem vd_P85 (hM : vd_SC M ow fa lo lf) (h : vd_GA ow fa W H nb O B f) {o : Option Nat} {m : Int} (ho : ∀ k, o = some k → k < nb) (m0 : 0 ≤ m) (m1 : m ≤ 3) (d : Nat) (Q : vd_M → (Option Value ⊕ Nat) → Prop) : vd_wp d 85 0 [.ref 44, .int (vd_I (vd_pl o)), .int (vd_I m), vd_U] [] (vd_mf M f) Q = Q (vd_mf M f) (.inl (some (.int (vd_I (vd_so B o m))))) := by
  obtain ⟨_, ⟨_, _, _, _, nb1⟩, _, _, k3, k4⟩ := h
  cases o with
  | none => simp (disch := omega) only [vd_S85_0 hM, vd_S85_4 hM, vd_S85_6 hM, vd_S85_21 hM, vd_S85_36 hM, vd_S85_40 hM, vd_S85_41 hM, vd_S85_46 hM, vd_S85_50 hM, vd_S85_62 hM, vd_S85_16 hM, vd_S85_32 hM, vd_S85_61 hM, vd_pl, vd_so, vd_I_toInt, show (-1 : Int) < 0 by decide, if_true]
  | some k =>
    have hk := ho k rfl
    have e5 := k3 k 5 hk (by decide)
    have e6 := k3 k 6 hk (by decide)
    have e7 := k3 k 7 hk (by decide)
    have hb := (k4 k hk).2.1
    have i5 : (18 * (k : Int) + 5).toNat = 18 * k + 5 := by omega
    have i6 : (18 * (k : Int) + 6).toNat = 18 * k + 6 := by omega
    have i7 : (18 * (k : Int) + 7).toNat = 18 * k + 7 := by omega
    have cn : ¬ (18 * (k : Int) < 0) := by omega
    by_cases c5 : B k 5 = 1
    · by_cases c7 : B k 7 < 0
      · simp (disch := first | decide | omega) only [vd_S85_0 hM, vd_S85_4 hM, vd_S85_6 hM, vd_S85_21 hM, vd_S85_36 hM, vd_S85_40 hM, vd_S85_41 hM, vd_S85_46 hM, vd_S85_50 hM, vd_S85_62 hM, vd_S85_16 hM, vd_S85_32 hM, vd_S85_61 hM, vd_pl, vd_so, vd_I_toInt, cn, if_false, vd_I_add, i5, i7, e5, e7, c5, c7, eq_self, if_true, and_self, show ¬ ((1 : Int) = 0) by decide]
      · simp (disch := first | decide | omega) only [vd_S85_0 hM, vd_S85_4 hM, vd_S85_6 hM, vd_S85_21 hM, vd_S85_36 hM, vd_S85_40 hM, vd_S85_41 hM, vd_S85_46 hM, vd_S85_50 hM, vd_S85_62 hM, vd_S85_16 hM, vd_S85_32 hM, vd_S85_61 hM, vd_pl, vd_so, vd_I_toInt, cn, if_false, vd_I_add, i5, i6, i7, e5, e6, e7, c5, c7, eq_self, if_true, and_false]
    · simp (disch := first | decide | omega) only [vd_S85_0 hM, vd_S85_4 hM, vd_S85_6 hM, vd_S85_21 hM, vd_S85_36 hM, vd_S85_40 hM, vd_S85_41 hM, vd_S85_46 hM, vd_S85_50 hM, vd_S85_62 hM, vd_S85_16 hM, vd_S85_32 hM, vd_S85_61 hM, vd_pl, vd_so, vd_I_toInt, cn, if_false, vd_I_add, i5, i6, e5, e6, c5, eq_self, if_true, false_and]
theorem vd_P204 (hN : vd_SR N) (hA : vd_GA ow fa W H nb O B f) (h : vd_GB W H O B g) (w1 : W ≤ 24) (w2 : H ≤ 24) {a b v m : Int} (hv : v = b * (W : Int) + a) (hm : g 63 104 = vd_I m) (d : Nat) (Q : vd_M → (Option Value ⊕ Nat) → Prop) : vd_wp d 204 0 [.ref 63, .int (vd_I (vd_nu (vd_at W H O a b) v))] [] (vd_mf N g) Q = Q (vd_mf N g) (.inl (some (.int (vd_I (vd_so B (vd_at W H O a b) m))))) := by
  cases e : vd_at W H O a b with
  | none => simp (disch := omega) only [vd_S204_0 hN, vd_S204_4 hN, vd_S204_13 hN, vd_S204_22 hN, vd_S204_29 hN, vd_S204_35 hN, vd_S204_9 hN, vd_S204_18 hN, vd_S204_34 hN, vd_nu, vd_so, vd_I_toInt, show (-1 : Int) < 0 by decide, if_true, hm]
  | some k =>
    obtain ⟨i, j, rfl, rfl, hi, hj, hk⟩ := vd_at_some e
    have hkk := hA.2.2.2.1 i j k hk
    have hb := (hA.2.2.2.2.2 k hkk).2.1
    have q := h.2.2 i j k hi hj hk
    have e5 := q.1.2.2.2.2.2
    have e6 := q.2.1.1
    have e7 := q.2.1.2.2.2
    have hx := vd_ix hi hj
    have hy : W * H ≤ 24 * 24 := Nat.mul_le_mul w1 w2
    rw [vd_ixN] at hv
    subst hv
    have cn : ¬ (((W * j + i : Nat) : Int) < 0) := by omega
    by_cases c5 : B k 5 = 1
    · by_cases c7 : B k 7 < 0
      · rw [if_pos c7] at e7
        simp (disch := first | decide | omega) only [vd_S204_0 hN, vd_S204_4 hN, vd_S204_13 hN, vd_S204_22 hN, vd_S204_29 hN, vd_S204_35 hN, vd_S204_9 hN, vd_S204_18 hN, vd_S204_34 hN, vd_nu, vd_so, vd_I_toInt, cn, if_false, Int.toNat_natCast, e5, e7, c5, c7, and_self, if_true, show ¬ ((1 : Int) = 0) by decide, hm]
      · rw [if_neg c7] at e7
        simp (disch := first | decide | omega) only [vd_S204_0 hN, vd_S204_4 hN, vd_S204_13 hN, vd_S204_22 hN, vd_S204_29 hN, vd_S204_35 hN, vd_S204_9 hN, vd_S204_18 hN, vd_S204_34 hN, vd_nu, vd_so, vd_I_toInt, cn, if_false, Int.toNat_natCast, e5, e6, e7, c5, c7, and_false, eq_self, if_true, show ¬ ((1 : Int) = 0) by decide]
    · have c5' : B k 5 = 0 := by omega
      simp (disch := first | decide | omega) only [vd_S204_0 hN, vd_S204_4 hN, vd_S204_13 hN, vd_S204_22 hN, vd_S204_29 hN, vd_S204_35 hN, vd_S204_9 hN, vd_S204_18 hN, vd_S204_34 hN, vd_nu, vd_so, vd_I_toInt, cn, if_false, Int.toNat_natCast, e5, e6, c5', false_and, eq_self, if_true, show ¬ ((0 : Int) = 1) by decide]
/-- the reference's reckoning of the largest size -/
theorem vd_G203 (hN : vd_SR N) (hy : vd_by g x y w h) (hw : w = 1 ∨ w = 2 ∨ w = 4 ∨ w = 8) (hh : h = 1 ∨ h = 2 ∨ h = 4 ∨ h = 8) {tm : Int} (ht : g 63 44 = vd_I tm) (t0 : 0 ≤ tm) (t1 : tm ≤ 4) : ∃ a1 : Int32, ∀ d Q, vd_wp (d + 1) 203 0 [.ref 63, vd_U, vd_U, vd_U] [] (vd_mf N g) Q = vd_wp (d + 1) 203 67 [.ref 63, .int a1, vd_U, vd_U] [.int (vd_I (vd_mx w h tm)), .ref 63] (vd_mf N g) Q := by
  have b1 := hy.1
  have b2 := hy.2.1
  have hm := vd_pw hw hh
  have e1 : min (8 * (w : Int)) (8 * (h : Int)) = 8 * ((min w h : Nat) : Int) := by omega
  have e2 : min (w : Int) (h : Int) = ((min w h : Nat) : Int) := by omega
  unfold vd_mx
  rw [e2]
  generalize min w h = z at *
  have s0 : vd_I 4 <<< (vd_I 0 &&& 31) = vd_I 4 := by decide
  have s1 : vd_I 4 <<< (vd_I 1 &&& 31) = vd_I 8 := by decide
  have s2 : vd_I 4 <<< (vd_I 2 &&& 31) = vd_I 16 := by decide
  have s3 : vd_I 4 <<< (vd_I 3 &&& 31) = vd_I 32 := by decide
  have key : ∀ v : Int, (v = 4 ∨ v = 8 ∨ v = 16 ∨ v = 32) → ∀ d Q, vd_wp (d + 1) 203 36 [.ref 63, .int (vd_I v), vd_U, vd_U] [] (vd_mf N g) Q = vd_wp (d + 1) 203 67 [.ref 63, .int (vd_I v), vd_U, vd_U] [.int (vd_I (if v = 4 then 0 else if v = 8 then 1 else if v = 16 then 2 else 3)), .ref 63] (vd_mf N g) Q := fun v hv d Q => by
    rcases hv with rfl | rfl | rfl | rfl
    · simp (disch := omega) only [vd_S203_36 hN, vd_S203_42 hN, vd_I_toInt, eq_self, if_true]
    · simp (disch := omega) only [vd_S203_36 hN, vd_S203_46 hN, vd_S203_52 hN, vd_I_toInt, eq_self, if_true, show ¬ ((8 : Int) = 4) by decide, if_false]
    · simp (disch := omega) only [vd_S203_36 hN, vd_S203_46 hN, vd_S203_56 hN, vd_S203_62 hN, vd_I_toInt, eq_self, if_true, show ¬ ((16 : Int) = 4) by decide, show ¬ ((16 : Int) = 8) by decide, if_false]
    · simp (disch := omega) only [vd_S203_36 hN, vd_S203_46 hN, vd_S203_56 hN, vd_S203_66 hN, vd_I_toInt, show ¬ ((32 : Int) = 4) by decide, show ¬ ((32 : Int) = 8) by decide, show ¬ ((32 : Int) = 16) by decide, if_false]
  rcases (show tm = 0 ∨ tm = 1 ∨ tm = 2 ∨ tm = 3 ∨ tm = 4 by omega) with rfl | rfl | rfl | rfl | rfl <;> rcases hm with rfl | rfl | rfl | rfl
  · refine ⟨vd_I 4, fun d Q => ?_⟩
    simp (disch := first | decide | omega) only [vd_S203_0 hN, vd_S203_8 hN, vd_S203_11 hN, vd_S203_13 hN, vd_S203_16 hN, vd_S203_25 hN, vd_S203_32 hN, vd_S203_35 hN, b1, b2, ht, vd_P289, vd_rs_v, vd_rs_n, e1, s0, vd_I_toInt, show (0 : Int) < 4 by decide, if_true]
    exact Eq.trans (key 4 (by decide) d Q) rfl
  · refine ⟨vd_I 4, fun d Q => ?_⟩
    simp (disch := first | decide | omega) only [vd_S203_0 hN, vd_S203_8 hN, vd_S203_11 hN, vd_S203_13 hN, vd_S203_16 hN, vd_S203_25 hN, vd_S203_32 hN, vd_S203_35 hN, b1, b2, ht, vd_P289, vd_rs_v, vd_rs_n, e1, s0, vd_I_toInt, show (0 : Int) < 4 by decide, if_true]
    exact Eq.trans (key 4 (by decide) d Q) rfl
  · refine ⟨vd_I 4, fun d Q => ?_⟩
    simp (disch := first | decide | omega) only [vd_S203_0 hN, vd_S203_8 hN, vd_S203_11 hN, vd_S203_13 hN, vd_S203_16 hN, vd_S203_25 hN, vd_S203_32 hN, vd_S203_35 hN, b1, b2, ht, vd_P289, vd_rs_v, vd_rs_n, e1, s0, vd_I_toInt, show (0 : Int) < 4 by decide, if_true]
    exact Eq.trans (key 4 (by decide) d Q) rfl
  · refine ⟨vd_I 4, fun d Q => ?_⟩
    simp (disch := first | decide | omega) only [vd_S203_0 hN, vd_S203_8 hN, vd_S203_11 hN, vd_S203_13 hN, vd_S203_16 hN, vd_S203_25 hN, vd_S203_32 hN, vd_S203_35 hN, b1, b2, ht, vd_P289, vd_rs_v, vd_rs_n, e1, s0, vd_I_toInt, show (0 : Int) < 4 by decide, if_true]
    exact Eq.trans (key 4 (by decide) d Q) rfl
  · refine ⟨vd_I 8, fun d Q => ?_⟩
    simp (disch := first | decide | omega) only [vd_S203_0 hN, vd_S203_8 hN, vd_S203_11 hN, vd_S203_13 hN, vd_S203_16 hN, vd_S203_25 hN, vd_S203_32 hN, vd_S203_35 hN, b1, b2, ht, vd_P289, vd_rs_v, vd_rs_n, e1, s1, vd_I_toInt, show (1 : Int) < 4 by decide, if_true]
    exact Eq.trans (key 8 (by decide) d Q) rfl
  · refine ⟨vd_I 8, fun d Q => ?_⟩
    simp (disch := first | decide | omega) only [vd_S203_0 hN, vd_S203_8 hN, vd_S203_11 hN, vd_S203_13 hN, vd_S203_16 hN, vd_S203_25 hN, vd_S203_32 hN, vd_S203_35 hN, b1, b2, ht, vd_P289, vd_rs_v, vd_rs_n, e1, s1, vd_I_toInt, show (1 : Int) < 4 by decide, if_true]
    exact Eq.trans (key 8 (by decide) d Q) rfl
  · refine ⟨vd_I 8, fun d Q => ?_⟩
    simp (disch := first | decide | omega) only [vd_S203_0 hN, vd_S203_8 hN, vd_S203_11 hN, vd_S203_13 hN, vd_S203_16 hN, vd_S203_25 hN, vd_S203_32 hN, vd_S203_35 hN, b1, b2, ht, vd_P289, vd_rs_v, vd_rs_n, e1, s1, vd_I_toInt, show (1 : Int) < 4 by decide, if_true]
    exact Eq.trans (key 8 (by decide) d Q) rfl
  · refine ⟨vd_I 8, fun d Q => ?_⟩
    simp (disch := first | decide | omega) only [vd_S203_0 hN, vd_S203_8 hN, vd_S203_11 hN, vd_S203_13 hN, vd_S203_16 hN, vd_S203_25 hN, vd_S203_32 hN, vd_S203_35 hN, b1, b2, ht, vd_P289, vd_rs_v, vd_rs_n, e1, s1, vd_I_toInt, show (1 : Int) < 4 by decide, if_true]
    exact Eq.trans (key 8 (by decide) d Q) rfl
  · refine ⟨vd_I 8, fun d Q => ?_⟩
    simp (disch := first | decide | omega) only [vd_S203_0 hN, vd_S203_8 hN, vd_S203_11 hN, vd_S203_13 hN, vd_S203_16 hN, vd_S203_25 hN, vd_S203_32 hN, vd_S203_35 hN, b1, b2, ht, vd_P289, vd_rs_v, vd_rs_n, e1, s2, vd_I_toInt, show (2 : Int) < 4 by decide, if_true]
    exact Eq.trans (key 8 (by decide) d Q) rfl
  · refine ⟨vd_I 16, fun d Q => ?_⟩
    simp (disch := first | decide | omega) only [vd_S203_0 hN, vd_S203_8 hN, vd_S203_11 hN, vd_S203_13 hN, vd_S203_16 hN, vd_S203_25 hN, vd_S203_32 hN, vd_S203_35 hN, b1, b2, ht, vd_P289, vd_rs_v, vd_rs_n, e1, s2, vd_I_toInt, show (2 : Int) < 4 by decide, if_true]
    exact Eq.trans (key 16 (by decide) d Q) rfl
  · refine ⟨vd_I 16, fun d Q => ?_⟩
    simp (disch := first | decide | omega) only [vd_S203_0 hN, vd_S203_8 hN, vd_S203_11 hN, vd_S203_13 hN, vd_S203_16 hN, vd_S203_25 hN, vd_S203_32 hN, vd_S203_35 hN, b1, b2, ht, vd_P289, vd_rs_v, vd_rs_n, e1, s2, vd_I_toInt, show (2 : Int) < 4 by decide, if_true]
    exact Eq.trans (key 16 (by decide) d Q) rfl
  · refine ⟨vd_I 16, fun d Q => ?_⟩
    simp (disch := first | decide | omega) only [vd_S203_0 hN, vd_S203_8 hN, vd_S203_11 hN, vd_S203_13 hN, vd_S203_16 hN, vd_S203_25 hN, vd_S203_32 hN, vd_S203_35 hN, b1, b2, ht, vd_P289, vd_rs_v, vd_rs_n, e1, s2, vd_I_toInt, show (2 : Int) < 4 by decide, if_true]
    exact Eq.trans (key 16 (by decide) d Q) rfl
  · refine ⟨vd_I 8, fun d Q => ?_⟩
    simp (disch := first | decide | omega) only [vd_S203_0 hN, vd_S203_8 hN, vd_S203_11 hN, vd_S203_13 hN, vd_S203_16 hN, vd_S203_25 hN, vd_S203_32 hN, vd_S203_35 hN, b1, b2, ht, vd_P289, vd_rs_v, vd_rs_n, e1, s3, vd_I_toInt, show (3 : Int) < 4 by decide, if_true]
    exact Eq.trans (key 8 (by decide) d Q) rfl
  · refine ⟨vd_I 16, fun d Q => ?_⟩
    simp (disch := first | decide | omega) only [vd_S203_0 hN, vd_S203_8 hN, vd_S203_11 hN, vd_S203_13 hN, vd_S203_16 hN, vd_S203_25 hN, vd_S203_32 hN, vd_S203_35 hN, b1, b2, ht, vd_P289, vd_rs_v, vd_rs_n, e1, s3, vd_I_toInt, show (3 : Int) < 4 by decide, if_true]
    exact Eq.trans (key 16 (by decide) d Q) rfl
  · refine ⟨vd_I 32, fun d Q => ?_⟩
    simp (disch := first | decide | omega) only [vd_S203_0 hN, vd_S203_8 hN, vd_S203_11 hN, vd_S203_13 hN, vd_S203_16 hN, vd_S203_25 hN, vd_S203_32 hN, vd_S203_35 hN, b1, b2, ht, vd_P289, vd_rs_v, vd_rs_n, e1, s3, vd_I_toInt, show (3 : Int) < 4 by decide, if_true]
    exact Eq.trans (key 32 (by decide) d Q) rfl
  · refine ⟨vd_I 32, fun d Q => ?_⟩
    simp (disch := first | decide | omega) only [vd_S203_0 hN, vd_S203_8 hN, vd_S203_11 hN, vd_S203_13 hN, vd_S203_16 hN, vd_S203_25 hN, vd_S203_32 hN, vd_S203_35 hN, b1, b2, ht, vd_P289, vd_rs_v, vd_rs_n, e1, s3, vd_I_toInt, show (3 : Int) < 4 by decide, if_true]
    exact Eq.trans (key 32 (by decide) d Q) rfl
  · refine ⟨vd_I 8, fun d Q => ?_⟩
    simp (disch := first | decide | omega) only [vd_S203_0 hN, vd_S203_8 hN, vd_S203_11 hN, vd_S203_13 hN, vd_S203_16 hN, b1, b2, ht, vd_P289, vd_rs_v, vd_rs_n, e1, vd_I_toInt, show ¬ ((4 : Int) < 4) by decide, if_false]
    exact Eq.trans (key 8 (by decide) d Q) rfl
  · refine ⟨vd_I 16, fun d Q => ?_⟩
    simp (disch := first | decide | omega) only [vd_S203_0 hN, vd_S203_8 hN, vd_S203_11 hN, vd_S203_13 hN, vd_S203_16 hN, b1, b2, ht, vd_P289, vd_rs_v, vd_rs_n, e1, vd_I_toInt, show ¬ ((4 : Int) < 4) by decide, if_false]
    exact Eq.trans (key 16 (by decide) d Q) rfl
  · refine ⟨vd_I 32, fun d Q => ?_⟩
    simp (disch := first | decide | omega) only [vd_S203_0 hN, vd_S203_8 hN, vd_S203_11 hN, vd_S203_13 hN, vd_S203_16 hN, b1, b2, ht, vd_P289, vd_rs_v, vd_rs_n, e1, vd_I_toInt, show ¬ ((4 : Int) < 4) by decide, if_false]
    exact Eq.trans (key 32 (by decide) d Q) rfl
  · refine ⟨vd_I 32, fun d Q => ?_⟩
    simp (disch := first | decide | omega) only [vd_S203_0 hN, vd_S203_8 hN, vd_S203_11 hN, vd_S203_13 hN, vd_S203_16 hN, b1, b2, ht, vd_P289, vd_rs_v, vd_rs_n, e1, vd_I_toInt, show ¬ ((4 : Int) < 4) by decide, if_false]
    exact Eq.trans (key 32 (by decide) d Q) rfl
end VDSZ
