/-! ===== how a square of units is divided: what is read ===== -/
def vd_nw (o : Option Nat) (B : Nat → Nat → Int) (q : Nat) (side : Int) : Int := match o with
  | none => 0
  | some k => if B k q < side then 1 else 0
theorem vd_nw_b (o : Option Nat) (B : Nat → Nat → Int) (q : Nat) (side : Int) : vd_nw o B q side = 0 ∨ vd_nw o B q side = 1 := by
  unfold vd_nw
  split
  · exact Or.inl rfl
  · split
    · exact Or.inr rfl
    · exact Or.inl rfl
section VDDQ
variable {M N : vd_M} {ow fa lo lf W H nb : Nat} {O : Nat → Nat → Option Nat} {B : Nat → Nat → Int} {f g : Nat → Nat → Int32}
def vd_nar (W H : Nat) (O : Nat → Nat → Option Nat) (B : Nat → Nat → Int) (x y side : Nat) : Int := vd_nw (vd_at W H O (x : Int) ((y : Int) - 1)) B 2 (side : Int) + 2 * vd_nw (vd_at W H O ((x : Int) - 1) (y : Int)) B 3 (side : Int)
theorem vd_P135 (hM : vd_SC M ow fa lo lf) (h : vd_GA ow fa W H nb O B f) {x y side : Nat} (hx : x < 24) (hy : y < 24) (hs : side ≤ 8) (d : Nat) (Q : vd_M → (Option Value ⊕ Nat) → Prop) : vd_wp (d + 2) 135 0 [.ref 44, .int (vd_I (x : Int)), .int (vd_I (y : Int)), .int (vd_I (side : Int)), vd_U, vd_U, vd_U] [] (vd_mf M f) Q = Q (vd_mf M f) (.inl (some (.int (vd_I (vd_nar W H O B x y side))))) := by
  have A := fun (d : Nat) (Q : vd_M → (Option Value ⊕ Nat) → Prop) => vd_P68 (d := d) (Q := Q) (a := (x : Int)) (b := (y : Int) - 1) hM h (by omega) (by omega) (by omega) (by omega)
  have L := fun (d : Nat) (Q : vd_M → (Option Value ⊕ Nat) → Prop) => vd_P68 (d := d) (Q := Q) (a := (x : Int) - 1) (b := (y : Int)) hM h (by omega) (by omega) (by omega) (by omega)
  obtain ⟨_, ⟨_, _, _, _, nb1⟩, _, k2, k3, k4⟩ := id h
  have ha : ∀ k, vd_at W H O (x : Int) ((y : Int) - 1) = some k → k < nb := fun k e => by
    unfold vd_at at e
    split at e
    · exact k2 _ _ _ e
    · exact absurd e (by simp)
  have hl : ∀ k, vd_at W H O ((x : Int) - 1) (y : Int) = some k → k < nb := fun k e => by
    unfold vd_at at e
    split at e
    · exact k2 _ _ _ e
    · exact absurd e (by simp)
  unfold vd_nar
  generalize vd_at W H O (x : Int) ((y : Int) - 1) = oa at *
  generalize vd_at W H O ((x : Int) - 1) (y : Int) = ol at *
  have pb := vd_pl_b ha
  have qb := vd_pl_b hl
  have head : vd_wp (d + 2) 135 0 [.ref 44, .int (vd_I (x : Int)), .int (vd_I (y : Int)), .int (vd_I (side : Int)), vd_U, vd_U, vd_U] [] (vd_mf M f) Q = vd_wp (d + 2) 135 52 [.ref 44, .int (vd_I (x : Int)), .int (vd_I (y : Int)), .int (vd_I (side : Int)), .int (vd_I (vd_pl oa)), .int (vd_I (vd_pl ol)), vd_U] [.int (vd_I (vd_nw oa B 2 (side : Int)))] (vd_mf M f) Q := by
    have h0 : vd_wp (d + 2) 135 0 [.ref 44, .int (vd_I (x : Int)), .int (vd_I (y : Int)), .int (vd_I (side : Int)), vd_U, vd_U, vd_U] [] (vd_mf M f) Q = vd_wp (d + 2) 135 24 [.ref 44, .int (vd_I (x : Int)), .int (vd_I (y : Int)), .int (vd_I (side : Int)), .int (vd_I (vd_pl oa)), vd_U, vd_U] [.int (vd_I (vd_pl ol))] (vd_mf M f) Q := by
      simp (disch := omega) only [vd_S135_0 hM, vd_I_sub, vd_S135_8 hM, A, vd_S135_11 hM, vd_S135_21 hM, L, vd_rs_v, vd_rs_n]
    rw [h0]
    cases oa with
    | none => simp (disch := omega) only [vd_S135_24 hM, vd_pl, vd_nw, vd_I_toInt, show (-1 : Int) < 0 by decide, if_true, vd_S135_51 hM]
    | some k =>
      have hk := ha k rfl
      have e2 := k3 k 2 hk (by decide)
      have hb := (k4 k hk).1
      have i2 : (18 * (k : Int) + 2).toNat = 18 * k + 2 := by omega
      have cn : ¬ (18 * (k : Int) < 0) := by omega
      by_cases c : B k 2 < (side : Int)
      · simp (disch := omega) only [vd_S135_24 hM, vd_pl, vd_nw, vd_I_toInt, cn, if_false, vd_S135_31 hM, vd_I_add, vd_S135_42 hM, i2, e2, c, if_true, vd_S135_47 hM]
      · simp (disch := omega) only [vd_S135_24 hM, vd_pl, vd_nw, vd_I_toInt, cn, if_false, vd_S135_31 hM, vd_I_add, vd_S135_42 hM, i2, e2, c, vd_S135_51 hM]
  rw [head]
  have na := vd_nw_b oa B 2 (side : Int)
  generalize vd_nw oa B 2 (side : Int) = na' at *
  cases ol with
  | none => simp (disch := omega) only [vd_S135_52 hM, vd_pl, vd_nw, vd_I_toInt, show (-1 : Int) < 0 by decide, if_true, vd_S135_82 hM, vd_S135_84 hM, Int.mul_zero, Int.add_zero]
  | some k =>
    have hk := hl k rfl
    have e3 := k3 k 3 hk (by decide)
    have hb := (k4 k hk).1
    have i3 : (18 * (k : Int) + 3).toNat = 18 * k + 3 := by omega
    have cn : ¬ (18 * (k : Int) < 0) := by omega
    by_cases c : B k 3 < (side : Int)
    · simp (disch := omega) only [vd_S135_52 hM, vd_pl, vd_nw, vd_I_toInt, cn, if_false, vd_S135_59 hM, vd_I_add, vd_S135_70 hM, i3, e3, c, if_true, vd_S135_75 hM, vd_S135_84 hM, Int.mul_one]
    · simp (disch := omega) only [vd_S135_52 hM, vd_pl, vd_nw, vd_I_toInt, cn, if_false, vd_S135_59 hM, vd_I_add, vd_S135_70 hM, i3, e3, c, vd_S135_82 hM, vd_S135_84 hM, Int.mul_zero, Int.add_zero]
/-- the reference counts narrower neighbours -/
theorem vd_G195n (hN : vd_SR N) (h : vd_GB W H O B g) (hB : ∀ i j k, O i j = some k → vd_BV (B k)) (w1 : W ≤ 24) (w2 : H ≤ 24) {x y side : Nat} (hx : x < W) (hy : y < H) (hs : side ≤ 8) (d : Nat) (Q : vd_M → (Option Value ⊕ Nat) → Prop) : vd_wp (d + 1) 195 40 [.ref 63, .int (vd_I (8 * (x : Int))), .int (vd_I (8 * (y : Int))), .int (vd_I (8 * (side : Int))), vd_U, vd_U, vd_U, vd_U, vd_U, vd_U, vd_U, vd_U, vd_U] [] (vd_mf N g) Q = vd_wp (d + 1) 195 135 [.ref 63, .int (vd_I (8 * (x : Int))), .int (vd_I (8 * (y : Int))), .int (vd_I (8 * (side : Int))), .int (vd_I (x : Int)), .int (vd_I (y : Int)), .int (vd_I (vd_nar W H O B x y side)), vd_U, vd_U, vd_U, vd_U, vd_U, vd_U] [] (vd_mf N g) Q := by
  have A := fun (d : Nat) (Q : vd_M → (Option Value ⊕ Nat) → Prop) => vd_P198 (d := d) (Q := Q) (a := (x : Int)) (b := (y : Int) - 1) hN h w1 w2 (by omega) (by omega) (by omega) (by omega)
  have L := fun (d : Nat) (Q : vd_M → (Option Value ⊕ Nat) → Prop) => vd_P198 (d := d) (Q := Q) (a := (x : Int) - 1) (b := (y : Int)) hN h w1 w2 (by omega) (by omega) (by omega) (by omega)
  obtain ⟨⟨g26, g27⟩, _, k3⟩ := id h
  have d8 : ∀ k : Nat, 8 * (k : Int) / 8 = (k : Int) := fun k => by omega
  have WH : W * H ≤ 576 := Nat.mul_le_mul w1 w2
  have head : vd_wp (d + 1) 195 40 [.ref 63, .int (vd_I (8 * (x : Int))), .int (vd_I (8 * (y : Int))), .int (vd_I (8 * (side : Int))), vd_U, vd_U, vd_U, vd_U, vd_U, vd_U, vd_U, vd_U, vd_U] [] (vd_mf N g) Q = vd_wp (d + 1) 195 95 [.ref 63, .int (vd_I (8 * (x : Int))), .int (vd_I (8 * (y : Int))), .int (vd_I (8 * (side : Int))), .int (vd_I (x : Int)), .int (vd_I (y : Int)), .int (vd_I (vd_nw (vd_at W H O (x : Int) ((y : Int) - 1)) B 2 (side : Int))), vd_U, vd_U, vd_U, vd_U, vd_U, vd_U] [] (vd_mf N g) Q := by
    have h0 : vd_wp (d + 1) 195 40 [.ref 63, .int (vd_I (8 * (x : Int))), .int (vd_I (8 * (y : Int))), .int (vd_I (8 * (side : Int))), vd_U, vd_U, vd_U, vd_U, vd_U, vd_U, vd_U, vd_U, vd_U] [] (vd_mf N g) Q = vd_wp (d + 1) 195 65 [.ref 63, .int (vd_I (8 * (x : Int))), .int (vd_I (8 * (y : Int))), .int (vd_I (8 * (side : Int))), .int (vd_I (x : Int)), .int (vd_I (y : Int)), .int (vd_I 0), vd_U, vd_U, vd_U, vd_U, vd_U, vd_U] [.int (vd_I (vd_th (vd_at W H O (x : Int) ((y : Int) - 1))))] (vd_mf N g) Q := by
      simp (disch := omega) only [vd_S195_40 hN, vd_I_div, d8, vd_I_sub, vd_S195_62 hN, A, vd_rs_v, vd_rs_n]
    rw [h0]
    by_cases cy : y = 0
    · have e : vd_at W H O (x : Int) ((y : Int) - 1) = none := by unfold vd_at; rw [if_neg (by omega)]
      rw [e]
      simp (disch := omega) only [vd_S195_65 hN, vd_th, vd_nw, vd_I_toInt, eq_self, if_true]
    · have e : vd_at W H O (x : Int) ((y : Int) - 1) = O x (y - 1) := by
        unfold vd_at
        rw [if_pos (by omega)]
        congr 1
        omega
      rw [e]
      cases eo : O x (y - 1) with
      | none => simp (disch := omega) only [vd_S195_65 hN, vd_th, vd_nw, vd_I_toInt, eq_self, if_true]
      | some k =>
        have v := (k3 x (y - 1) k hx (by omega) eo).1.2.2.1
        have hb := (hB _ _ _ eo).1
        have ix := vd_ix hx (show y - 1 < H by omega)
        have ey : (y : Int) - 1 = ((y - 1 : Nat) : Int) := by omega
        have ei : ((y - 1 : Nat) : Int) * (W : Int) + (x : Int) = ((W * (y - 1) + x : Nat) : Int) := by rw [Int.natCast_add, Int.natCast_mul, Int.mul_comm]
        have ni : ((W * (y - 1) + x : Nat) : Int).toNat = W * (y - 1) + x := Int.toNat_natCast _
        generalize W * (y - 1) + x = I at *
        by_cases c : B k 2 < (side : Int)
        · have c' : 8 * B k 2 < 8 * (side : Int) := by omega
          simp (disch := omega) only [vd_S195_65 hN, vd_th, vd_nw, vd_I_toInt, show ¬ ((1 : Int) = 0) by decide, if_false, vd_S195_68 hN, vd_I_sub, g26, ey, vd_I_mul, vd_I_add, ei, vd_S195_86 hN, ni, v, c', c, if_true, vd_S195_92 hN, show (0 + 1 : Int) = 1 from rfl]
        · have c' : ¬ (8 * B k 2 < 8 * (side : Int)) := by omega
          simp (disch := omega) only [vd_S195_65 hN, vd_th, vd_nw, vd_I_toInt, show ¬ ((1 : Int) = 0) by decide, if_false, vd_S195_68 hN, vd_I_sub, g26, ey, vd_I_mul, vd_I_add, ei, vd_S195_86 hN, ni, v, c', c]
  rw [head]
  unfold vd_nar
  have na := vd_nw_b (vd_at W H O (x : Int) ((y : Int) - 1)) B 2 (side : Int)
  generalize vd_nw (vd_at W H O (x : Int) ((y : Int) - 1)) B 2 (side : Int) = na' at *
  have h0 : vd_wp (d + 1) 195 95 [.ref 63, .int (vd_I (8 * (x : Int))), .int (vd_I (8 * (y : Int))), .int (vd_I (8 * (side : Int))), .int (vd_I (x : Int)), .int (vd_I (y : Int)), .int (vd_I na'), vd_U, vd_U, vd_U, vd_U, vd_U, vd_U] [] (vd_mf N g) Q = vd_wp (d + 1) 195 105 [.ref 63, .int (vd_I (8 * (x : Int))), .int (vd_I (8 * (y : Int))), .int (vd_I (8 * (side : Int))), .int (vd_I (x : Int)), .int (vd_I (y : Int)), .int (vd_I na'), vd_U, vd_U, vd_U, vd_U, vd_U, vd_U] [.int (vd_I (vd_th (vd_at W H O ((x : Int) - 1) (y : Int))))] (vd_mf N g) Q := by
    simp (disch := omega) only [vd_S195_95 hN, vd_I_sub, vd_S195_102 hN, L, vd_rs_v, vd_rs_n]
  rw [h0]
  by_cases cx : x = 0
  · have e : vd_at W H O ((x : Int) - 1) (y : Int) = none := by unfold vd_at; rw [if_neg (by omega)]
    rw [e]
    simp (disch := omega) only [vd_S195_105 hN, vd_th, vd_nw, vd_I_toInt, eq_self, if_true, Int.mul_zero, Int.add_zero]
  · have e : vd_at W H O ((x : Int) - 1) (y : Int) = O (x - 1) y := by
      unfold vd_at
      rw [if_pos (by omega)]
      congr 1
      omega
    rw [e]
    cases eo : O (x - 1) y with
    | none => simp (disch := omega) only [vd_S195_105 hN, vd_th, vd_nw, vd_I_toInt, eq_self, if_true, Int.mul_zero, Int.add_zero]
    | some k =>
      have v := (k3 (x - 1) y k (by omega) hy eo).1.2.2.2.1
      have hb := (hB _ _ _ eo).1
      have ix := vd_ix (show x - 1 < W by omega) hy
      have ei : (y : Int) * (W : Int) + (x : Int) - 1 = ((W * y + (x - 1) : Nat) : Int) := by rw [Int.natCast_add, Int.natCast_mul, Int.mul_comm]; omega
      have ni : ((W * y + (x - 1) : Nat) : Int).toNat = W * y + (x - 1) := Int.toNat_natCast _
      generalize W * y + (x - 1) = I at *
      by_cases c : B k 3 < (side : Int)
      · have c' : 8 * B k 3 < 8 * (side : Int) := by omega
        simp (disch := omega) only [vd_S195_105 hN, vd_th, vd_nw, vd_I_toInt, show ¬ ((1 : Int) = 0) by decide, if_false, vd_S195_108 hN, g26, vd_I_mul, vd_I_add, vd_I_sub, ei, vd_S195_126 hN, ni, v, c', c, if_true, vd_S195_132 hN, Int.mul_one]
      · have c' : ¬ (8 * B k 3 < 8 * (side : Int)) := by omega
        simp (disch := omega) only [vd_S195_105 hN, vd_th, vd_nw, vd_I_toInt, show ¬ ((1 : Int) = 0) by decide, if_false, vd_S195_108 hN, g26, vd_I_mul, vd_I_add, vd_I_sub, ei, vd_S195_126 hN, ni, v, c', c, Int.mul_zero, Int.add_zero]
end VDDQ
