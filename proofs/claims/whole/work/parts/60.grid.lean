/-! ===== units and blocks: one abstract grid for both sides ===== -/
/-- the block of a unit, if the unit is inside and there -/
def vd_at (W H : Nat) (O : Nat → Nat → Option Nat) (a b : Int) : Option Nat := if 0 ≤ a ∧ 0 ≤ b ∧ a < (W : Int) ∧ b < (H : Int) then O a.toNat b.toNat else none
/-- where the facts of a block begin -/
def vd_pl (o : Option Nat) : Int := match o with
  | none => -1
  | some k => 18 * (k : Int)
def vd_th (o : Option Nat) : Int := match o with
  | none => 0
  | some _ => 1
theorem vd_pl_b {o : Option Nat} {n : Nat} (h : ∀ k, o = some k → k < n) : -1 ≤ vd_pl o ∧ vd_pl o ≤ 18 * (n : Int) := by
  cases o with
  | none => simp only [vd_pl]; omega
  | some k => have := h k rfl; simp only [vd_pl]; omega
/-- what a block's facts may be -/
def vd_BV (b : Nat → Int) : Prop := (0 ≤ b 0 ∧ b 0 < 24 ∧ 0 ≤ b 1 ∧ b 1 < 24 ∧ 1 ≤ b 2 ∧ b 2 ≤ 8 ∧ 1 ≤ b 3 ∧ b 3 ≤ 8) ∧ (0 ≤ b 4 ∧ b 4 ≤ 7 ∧ 0 ≤ b 5 ∧ b 5 ≤ 1 ∧ 0 ≤ b 6 ∧ b 6 ≤ 3 ∧ -1 ≤ b 7 ∧ b 7 ≤ 9 ∧ -1 ≤ b 8 ∧ b 8 ≤ 9) ∧ (-1 ≤ b 9 ∧ b 9 ≤ 2 ∧ (b 10 = -1 ∨ b 10 = 2) ∧ -1 ≤ b 11 ∧ b 11 ≤ 3) ∧ (∀ q, 12 ≤ q → q < 16 → -10000 ≤ b q ∧ b q ≤ 10000) ∧ (-1 ≤ b 16 ∧ b 16 ≤ 1 ∧ 0 ≤ b 17 ∧ b 17 ≤ 1) ∧ (b 7 < 0 → 0 ≤ b 9) ∧ (0 ≤ b 7 → b 9 = -1 ∧ b 10 = -1 ∧ b 11 = -1 ∧ b 16 = -1)
/-- the class's grid -/
def vd_GA (ow fa W H nb : Nat) (O : Nat → Nat → Option Nat) (B : Nat → Nat → Int) (f : Nat → Nat → Int32) : Prop :=
  (f 37 2 = vd_I (W : Int) ∧ f 37 3 = vd_I (H : Int)) ∧ (1 ≤ W ∧ W ≤ 24 ∧ 1 ≤ H ∧ H ≤ 24 ∧ nb ≤ 576) ∧ (∀ i j, i < W → j < H → f ow (24 * j + i) = vd_I (vd_pl (O i j))) ∧ (∀ i j k, O i j = some k → k < nb) ∧ (∀ k q, k < nb → q < 18 → f fa (18 * k + q) = vd_I (B k q)) ∧ (∀ k, k < nb → vd_BV (B k))
/-- the reference's -/
def vd_GB (W H : Nat) (O : Nat → Nat → Option Nat) (B : Nat → Nat → Int) (g : Nat → Nat → Int32) : Prop :=
  (g 63 26 = vd_I (W : Int) ∧ g 63 27 = vd_I (H : Int)) ∧ (∀ i j, i < W → j < H → g 88 (W * j + i) = vd_I (vd_th (O i j))) ∧ (∀ i j k, i < W → j < H → O i j = some k →
    (g 92 (W * j + i) = vd_I (B k 0) ∧ g 93 (W * j + i) = vd_I (B k 1) ∧ g 94 (W * j + i) = vd_I (B k 2) ∧ g 95 (W * j + i) = vd_I (B k 3) ∧ g 96 (W * j + i) = vd_I (B k 4) ∧ g 89 (W * j + i) = vd_I (B k 5)) ∧ (g 97 (W * j + i) = vd_I (B k 6) ∧ g 98 (W * j + i) = vd_I (B k 7) ∧ g 99 (W * j + i) = vd_I (B k 8) ∧ g 90 (W * j + i) = vd_I (if B k 7 < 0 then 1 else 0)) ∧ (g 102 (2 * (W * j + i)) = vd_I (B k 9) ∧ g 102 (2 * (W * j + i) + 1) = vd_I (B k 10) ∧ g 100 (W * j + i) = vd_I (B k 11)) ∧ (g 103 (2 * (W * j + i)) = vd_I (B k 12) ∧ g 104 (2 * (W * j + i)) = vd_I (B k 13) ∧ g 103 (2 * (W * j + i) + 1) = vd_I (B k 14) ∧ g 104 (2 * (W * j + i) + 1) = vd_I (B k 15)) ∧ (g 101 (W * j + i) = vd_I (B k 16) ∧ g 91 (W * j + i) = vd_I (B k 17)))
theorem vd_ix {W i j H : Nat} (hi : i < W) (hj : j < H) : W * j + i < W * H := by
  have h : W * (j + 1) ≤ W * H := Nat.mul_le_mul_left W hj
  rw [Nat.mul_add] at h
  omega
section VDGR
variable {M N : vd_M} {ow fa lo lf W H nb : Nat} {O : Nat → Nat → Option Nat} {B : Nat → Nat → Int} {f g : Nat → Nat → Int32} {d : Nat} {Q : vd_M → (Option Value ⊕ Nat) → Prop} {a b : Int}
theorem vd_P69 (hM : vd_SC M ow fa lo lf) (h : vd_GA ow fa W H nb O B f) (a0 : -2147483648 ≤ a) (a1 : a < 2147483648) (b0 : -2147483648 ≤ b) (b1 : b < 2147483648) : vd_wp d 69 0 [.ref 37, .int (vd_I a), .int (vd_I b)] [] (vd_mf M f) Q = Q (vd_mf M f) (.inl (some (.int (vd_I (if 0 ≤ a ∧ 0 ≤ b ∧ a < (W : Int) ∧ b < (H : Int) then 1 else 0))))) := by
  obtain ⟨⟨e1, e2⟩, ⟨w1, w2, w3, w4, _⟩, _⟩ := h
  simp (disch := first | assumption | decide | omega) only [vd_S69_0 hM, vd_S69_4 hM, vd_S69_8 hM, vd_S69_16 hM, vd_S69_24 hM, vd_S69_28 hM, vd_S69_29 hM, e1, e2, vd_I_toInt, vd_rok0, vd_rok1]
  by_cases c : 0 ≤ a ∧ 0 ≤ b ∧ a < (W : Int) ∧ b < (H : Int)
  · rw [if_pos c, if_neg (by omega), if_neg (by omega), if_pos c.2.2.1, if_pos c.2.2.2]
  · rw [if_neg c]
    repeat' split
    all_goals first
      | rfl
      | (exfalso; omega)
theorem vd_P68 (hM : vd_SC M ow fa lo lf) (h : vd_GA ow fa W H nb O B f) (a0 : -2147483648 ≤ a) (a1 : a < 2147483648) (b0 : -2147483648 ≤ b) (b1 : b < 2147483648) : vd_wp (d + 1) 68 0 [.ref 37, .int (vd_I a), .int (vd_I b)] [] (vd_mf M f) Q = Q (vd_mf M f) (.inl (some (.int (vd_I (vd_pl (vd_at W H O a b)))))) := by
  have h' := h
  obtain ⟨_, ⟨w1, w2, w3, w4, _⟩, k1, k2, _⟩ := h'
  unfold vd_at
  by_cases c : 0 ≤ a ∧ 0 ≤ b ∧ a < (W : Int) ∧ b < (H : Int)
  · have e := k1 a.toNat b.toNat (by omega) (by omega)
    have ei : (b * 24 + a).toNat = 24 * b.toNat + a.toNat := by omega
    simp (disch := first | assumption | omega) only [vd_S68_0 hM, vd_S68_9 hM, vd_S68_23 hM, vd_S68_24 hM, vd_S68_3 hM, vd_S68_19 hM, vd_S68_6 hM, vd_P69 hM h, vd_rs_v, vd_rs_n, if_pos c, vd_I_toInt, show ¬ ((1 : Int) = 0) by decide, if_false, vd_I_mul, vd_I_add, ei, e]
  · simp (disch := first | assumption | omega) only [vd_S68_0 hM, vd_S68_9 hM, vd_S68_23 hM, vd_S68_24 hM, vd_S68_3 hM, vd_S68_19 hM, vd_S68_6 hM, vd_P69 hM h, vd_rs_v, vd_rs_n, if_neg c, vd_I_toInt, eq_self, if_true, vd_pl]
theorem vd_P198 (hN : vd_SR N) (h : vd_GB W H O B g) (w1 : W ≤ 24) (w2 : H ≤ 24) (a0 : -2147483648 ≤ a) (a1 : a < 2147483648) (b0 : -2147483648 ≤ b) (b1 : b < 2147483648) : vd_wp d 198 0 [.ref 63, .int (vd_I a), .int (vd_I b)] [] (vd_mf N g) Q = Q (vd_mf N g) (.inl (some (.int (vd_I (vd_th (vd_at W H O a b)))))) := by
  obtain ⟨⟨e1, e2⟩, k1, _⟩ := h
  unfold vd_at
  by_cases c : 0 ≤ a ∧ 0 ≤ b ∧ a < (W : Int) ∧ b < (H : Int)
  · obtain ⟨i, rfl⟩ := Int.eq_ofNat_of_zero_le c.1
    obtain ⟨j, rfl⟩ := Int.eq_ofNat_of_zero_le c.2.1
    have hi : i < W := by omega
    have hj : j < H := by omega
    have e := k1 i j hi hj
    have hx := vd_ix hi hj
    have hy : W * H ≤ 24 * 24 := Nat.mul_le_mul w1 w2
    have ei : ((j : Int) * (W : Int) + (i : Int)) = ((W * j + i : Nat) : Int) := by
      rw [Nat.mul_comm]
      push_cast
      rfl
    rw [if_pos c]
    simp (disch := first | assumption | decide | omega) only [vd_S198_0 hN, vd_S198_4 hN, vd_S198_8 hN, vd_S198_16 hN, vd_S198_24 hN, vd_S198_40 hN, vd_S198_44 hN, vd_S198_45 hN, vd_S198_36 hN, e1, e2, vd_I_toInt, vd_I_mul, vd_I_add, ei, Int.toNat_natCast, e, show ¬ ((i : Int) < 0) by omega, show ¬ ((j : Int) < 0) by omega, c.2.2.1, c.2.2.2, if_true, if_false]
    cases O i j with
    | none => simp (disch := first | decide | omega) only [vd_th, vd_I_toInt, eq_self, if_true, vd_rok0]
    | some k => simp (disch := first | decide | omega) only [vd_th, vd_I_toInt, show ¬ ((1 : Int) = 0) by decide, if_false, vd_rok1]
  · rw [if_neg c]
    simp (disch := first | assumption | decide | omega) only [vd_S198_0 hN, vd_S198_4 hN, vd_S198_8 hN, vd_S198_16 hN, vd_S198_40 hN, vd_S198_44 hN, vd_S198_45 hN, vd_S198_36 hN, e1, e2, vd_I_toInt, vd_th, vd_rok0]
    repeat' split
    all_goals first
      | rfl
      | (exfalso; omega)
end VDGR
