/-! ===== neighbours ===== -/
theorem vd_at_some {W H : Nat} {O : Nat → Nat → Option Nat} {a b : Int} {k : Nat} (h : vd_at W H O a b = some k) : ∃ i j : Nat, a = (i : Int) ∧ b = (j : Int) ∧ i < W ∧ j < H ∧ O i j = some k := by
  unfold vd_at at h
  split at h
  · rename_i c
    exact ⟨a.toNat, b.toNat, by omega, by omega, by omega, by omega, h⟩
  · cases h
/-- the reference's number of a neighbour's unit -/
def vd_nu (o : Option Nat) (u : Int) : Int := match o with
  | none => -1
  | some _ => u
theorem vd_GB.keep {W H : Nat} {O : Nat → Nat → Option Nat} {B : Nat → Nat → Int} {g g' : Nat → Nat → Int32} (h : vd_GB W H O B g) (hg : ∀ c i, (88 ≤ c ∧ c ≤ 104) ∨ (c = 63 ∧ (i = 26 ∨ i = 27)) → g' c i = g c i) : vd_GB W H O B g' := by
  obtain ⟨⟨e1, e2⟩, k1, k2⟩ := h
  refine ⟨⟨?_, ?_⟩, fun i j hi hj => ?_, fun i j k hi hj hk => ?_⟩
  · rw [hg _ _ (by omega)]; exact e1
  · rw [hg _ _ (by omega)]; exact e2
  · rw [hg _ _ (by omega)]; exact k1 i j hi hj
  · obtain ⟨⟨a1, a2, a3, a4, a5, a6⟩, ⟨b1, b2, b3, b4⟩, ⟨c1, c2, c3⟩, ⟨d1, d2, d3, d4⟩, ⟨z1, z2⟩⟩ := k2 i j k hi hj hk
    refine ⟨⟨?_, ?_, ?_, ?_, ?_, ?_⟩, ⟨?_, ?_, ?_, ?_⟩, ⟨?_, ?_, ?_⟩, ⟨?_, ?_, ?_, ?_⟩, ⟨?_, ?_⟩⟩ <;> rw [hg _ _ (by omega)] <;> assumption
theorem vd_GA.keep {ow fa W H nb : Nat} {O : Nat → Nat → Option Nat} {B : Nat → Nat → Int} {f f' : Nat → Nat → Int32} (h : vd_GA ow fa W H nb O B f) (hf : ∀ c i, c = ow ∨ (c = fa ∧ i < 18 * nb) ∨ (c = 37 ∧ (i = 2 ∨ i = 3)) → f' c i = f c i) : vd_GA ow fa W H nb O B f' := by
  obtain ⟨⟨e1, e2⟩, w, k1, k2, k3, k4⟩ := h
  refine ⟨⟨?_, ?_⟩, w, fun i j hi hj => ?_, k2, fun k q hk hq => ?_, k4⟩
  · rw [hf _ _ (by omega)]; exact e1
  · rw [hf _ _ (by omega)]; exact e2
  · rw [hf _ _ (by omega)]; exact k1 i j hi hj
  · rw [hf _ _ (by omega)]; exact k3 k q hk hq
section VDNB
variable {M N : vd_M} {ow fa lo lf W H nb : Nat} {O : Nat → Nat → Option Nat} {B : Nat → Nat → Int} {f g : Nat → Nat → Int32} {d : Nat} {Q : vd_M → (Option Value ⊕ Nat) → Prop}
theorem vd_P197 (hN : vd_SR N) (h : vd_GB W H O B g) (w1 : W ≤ 24) (w2 : H ≤ 24) {x y : Nat} (hx : g 63 99 = vd_I (x : Int)) (hy : g 63 100 = vd_I (y : Int)) (x1 : x < 24) (y1 : y < 24) : vd_wp (d + 1) 197 0 [.ref 63] [] (vd_mf N g) Q = Q (vd_mf N (vd_up (vd_up g 63 101 (vd_I (vd_nu (vd_at W H O (x : Int) ((y : Int) - 1)) (((y : Int) - 1) * (W : Int) + (x : Int))))) 63 102 (vd_I (vd_nu (vd_at W H O ((x : Int) - 1) (y : Int)) ((y : Int) * (W : Int) + (x : Int) - 1))))) (.inl none) := by
  have hW := h.1.1
  have k1 := fun (Q : vd_M → (Option Value ⊕ Nat) → Prop) => vd_P198 (d := d) (Q := Q) hN h w1 w2 (a := (x : Int)) (b := (y : Int) - 1) (by omega) (by omega) (by omega) (by omega)
  have hG : ∀ v, vd_GB W H O B (vd_up g 63 101 v) := fun v => h.keep fun c i q => vd_up_ne (by omega)
  have k2 := fun (v : Int32) (Q : vd_M → (Option Value ⊕ Nat) → Prop) => vd_P198 (d := d) (Q := Q) hN (hG v) w1 w2 (a := (x : Int) - 1) (b := (y : Int)) (by omega) (by omega) (by omega) (by omega)
  cases e1 : vd_at W H O (x : Int) ((y : Int) - 1) with
  | none =>
    cases e2 : vd_at W H O ((x : Int) - 1) (y : Int) with
    | none =>
      rw [e1] at k1
      rw [e2] at k2
      simp (disch := omega) only [vd_S197_0 hN, vd_S197_18 hN, vd_S197_37 hN, vd_S197_38 hN, vd_S197_59 hN, vd_S197_78 hN, vd_S197_79 hN, vd_S197_12 hN, vd_S197_53 hN, vd_S197_15 hN, vd_S197_56 hN, vd_up_at, vd_ua_at, Nat.reduceEqDiff, Nat.reduceAdd, Nat.reduceMul, and_false, false_and, and_true, true_and, and_self, if_true, if_false, reduceIte, ne_eq, not_false_eq_true, not_true_eq_false, eq_self, hx, hy, hW, vd_I_sub, k1, k2, vd_rs_v, vd_rs_n, vd_th, vd_nu, vd_I_toInt, vd_I_mul, vd_I_add]
    | some k =>
      rw [e1] at k1
      rw [e2] at k2
      simp (disch := omega) only [vd_S197_0 hN, vd_S197_18 hN, vd_S197_37 hN, vd_S197_38 hN, vd_S197_59 hN, vd_S197_78 hN, vd_S197_79 hN, vd_S197_12 hN, vd_S197_53 hN, vd_S197_15 hN, vd_S197_56 hN, vd_up_at, vd_ua_at, Nat.reduceEqDiff, Nat.reduceAdd, Nat.reduceMul, and_false, false_and, and_true, true_and, and_self, if_true, if_false, reduceIte, ne_eq, not_false_eq_true, not_true_eq_false, eq_self, hx, hy, hW, vd_I_sub, k1, k2, vd_rs_v, vd_rs_n, vd_th, vd_nu, vd_I_toInt, show ¬ ((1 : Int) = 0) by decide, vd_I_mul, vd_I_add]
  | some k' =>
    cases e2 : vd_at W H O ((x : Int) - 1) (y : Int) with
    | none =>
      rw [e1] at k1
      rw [e2] at k2
      simp (disch := omega) only [vd_S197_0 hN, vd_S197_18 hN, vd_S197_37 hN, vd_S197_38 hN, vd_S197_59 hN, vd_S197_78 hN, vd_S197_79 hN, vd_S197_12 hN, vd_S197_53 hN, vd_S197_15 hN, vd_S197_56 hN, vd_up_at, vd_ua_at, Nat.reduceEqDiff, Nat.reduceAdd, Nat.reduceMul, and_false, false_and, and_true, true_and, and_self, if_true, if_false, reduceIte, ne_eq, not_false_eq_true, not_true_eq_false, eq_self, hx, hy, hW, vd_I_sub, k1, k2, vd_rs_v, vd_rs_n, vd_th, vd_nu, vd_I_toInt, show ¬ ((1 : Int) = 0) by decide, vd_I_mul, vd_I_add]
    | some k =>
      rw [e1] at k1
      rw [e2] at k2
      simp (disch := omega) only [vd_S197_0 hN, vd_S197_18 hN, vd_S197_37 hN, vd_S197_38 hN, vd_S197_59 hN, vd_S197_78 hN, vd_S197_79 hN, vd_S197_12 hN, vd_S197_53 hN, vd_S197_15 hN, vd_S197_56 hN, vd_up_at, vd_ua_at, Nat.reduceEqDiff, Nat.reduceAdd, Nat.reduceMul, and_false, false_and, and_true, true_and, and_self, if_true, if_false, reduceIte, ne_eq, not_false_eq_true, not_true_eq_false, eq_self, hx, hy, hW, vd_I_sub, k1, k2, vd_rs_v, vd_rs_n, vd_th, vd_nu, vd_I_toInt, show ¬ ((1 : Int) = 0) by decide, vd_I_mul, vd_I_add]
/-- a neighbour's flag, as the reference counts it -/
theorem vd_nbflag {W H : Nat} {O : Nat → Nat → Option Nat} (w1 : W ≤ 24) (w2 : H ≤ 24) {a b p v : Int} {o : Nat} {F : Nat → Int} (hp : p = vd_nu (vd_at W H O a b) v) (hv : v = b * (W : Int) + a) (hF : ∀ i j k, i < W → j < H → O i j = some k → g o (W * j + i) = vd_I (F k)) (hF1 : ∀ k, vd_at W H O a b = some k → F k = 0 ∨ F k = 1) : ∃ u : Nat, (p = -1 ∧ (match vd_at W H O a b with | none => 0 | some k => F k) = 0) ∨ (p = (u : Int) ∧ u < 576 ∧ g o u = vd_I (match vd_at W H O a b with | none => 0 | some k => F k) ∧ ((match vd_at W H O a b with | none => 0 | some k => F k) = 0 ∨ (match vd_at W H O a b with | none => 0 | some k => F k) = 1)) := by
  cases e : vd_at W H O a b with
  | none =>
    rw [e] at hp
    exact ⟨0, Or.inl ⟨hp, rfl⟩⟩
  | some k =>
    rw [e] at hp
    obtain ⟨i, j, rfl, rfl, hi, hj, hk⟩ := vd_at_some e
    have hx := vd_ix hi hj
    have hy : W * H ≤ 24 * 24 := Nat.mul_le_mul w1 w2
    refine ⟨W * j + i, Or.inr ⟨?_, by omega, hF i j k hi hj hk, hF1 k e⟩⟩
    rw [hp]
    show v = _
    rw [hv, vd_ixN]
end VDNB
