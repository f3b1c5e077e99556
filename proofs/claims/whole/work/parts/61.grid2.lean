/-! ===== facts of blocks: small methods ===== -/
/-- one if a block is there and its fact q is v -/
def vd_eq1 (B : Nat → Nat → Int) (o : Option Nat) (q : Nat) (v : Int) : Int := match o with
  | none => 0
  | some k => if B k q = v then 1 else 0
theorem vd_eq1_b (B : Nat → Nat → Int) (o : Option Nat) (q : Nat) (v : Int) : 0 ≤ vd_eq1 B o q v ∧ vd_eq1 B o q v ≤ 1 := by
  cases o with
  | none => simp only [vd_eq1]; omega
  | some k => simp only [vd_eq1]; split <;> omega
section VDGS
variable {M N : vd_M} {ow fa lo lf : Nat} {B : Nat → Nat → Int} {f g : Nat → Nat → Int32} {d nb : Nat} {Q : vd_M → (Option Value ⊕ Nat) → Prop} {v : Int}
theorem vd_P73 (hM : vd_SC M ow fa lo lf) {oa ol : Option Nat} {q : Nat} (ha : f 44 9 = vd_I (vd_pl oa)) (hl : f 44 10 = vd_I (vd_pl ol)) (ka : ∀ k, oa = some k → k < nb) (kl : ∀ k, ol = some k → k < nb) (hnb : nb ≤ 576) (hB : ∀ k q, k < nb → q < 18 → f fa (18 * k + q) = vd_I (B k q)) (hr : ∀ k q, k < nb → q < 18 → -100000 ≤ B k q ∧ B k q ≤ 100000) (hq : q < 18) (v0 : -100000 ≤ v) (v1 : v ≤ 100000) : vd_wp d 73 0 [.ref 44, .int (vd_I (q : Int)), .int (vd_I v), vd_U] [] (vd_mf M f) Q = Q (vd_mf M f) (.inl (some (.int (vd_I (vd_eq1 B oa q v + vd_eq1 B ol q v))))) := by
  have one : ∀ {x : Nat} , x < nb → (18 * (x : Int) + (q : Int)).toNat = 18 * x + q := fun {x} _ => by omega
  cases oa with
  | none =>
    cases ol with
    | none => simp (disch := omega) only [vd_S73_0 hM, vd_S73_7 hM, vd_S73_25 hM, vd_S73_29 hM, vd_S73_30 hM, vd_S73_38 hM, vd_S73_56 hM, vd_S73_62 hM, vd_S73_63 hM, vd_S73_20 hM, vd_S73_51 hM, ha, hl, vd_pl, vd_eq1, vd_I_toInt, show (-1 : Int) < 0 by decide, if_true, Int.add_zero]
    | some y =>
      have hy := kl y rfl
      have e := hB y q hy hq
      have r := hr y q hy hq
      simp (disch := omega) only [vd_S73_0 hM, vd_S73_7 hM, vd_S73_25 hM, vd_S73_29 hM, vd_S73_30 hM, vd_S73_38 hM, vd_S73_56 hM, vd_S73_62 hM, vd_S73_63 hM, vd_S73_20 hM, vd_S73_51 hM, ha, hl, vd_pl, vd_eq1, vd_I_toInt, show (-1 : Int) < 0 by decide, if_true, show ¬ (18 * (y : Int) < 0) by omega, if_false, vd_I_add, one hy, e]
      by_cases c : B y q = v
      · simp only [c, if_true]
      · simp only [c, if_false, Int.add_zero]
  | some x =>
    have hx := ka x rfl
    have e1 := hB x q hx hq
    have r1 := hr x q hx hq
    cases ol with
    | none =>
      simp (disch := omega) only [vd_S73_0 hM, vd_S73_7 hM, vd_S73_25 hM, vd_S73_29 hM, vd_S73_30 hM, vd_S73_38 hM, vd_S73_56 hM, vd_S73_62 hM, vd_S73_63 hM, vd_S73_20 hM, vd_S73_51 hM, ha, hl, vd_pl, vd_eq1, vd_I_toInt, show (-1 : Int) < 0 by decide, if_true, show ¬ (18 * (x : Int) < 0) by omega, if_false, vd_I_add, one hx, e1]
      by_cases c : B x q = v
      · simp only [c, if_true, Int.add_zero]
      · simp only [c, if_false, Int.add_zero]
    | some y =>
      have hy := kl y rfl
      have e := hB y q hy hq
      have r := hr y q hy hq
      simp (disch := omega) only [vd_S73_0 hM, vd_S73_7 hM, vd_S73_25 hM, vd_S73_29 hM, vd_S73_30 hM, vd_S73_38 hM, vd_S73_56 hM, vd_S73_62 hM, vd_S73_63 hM, vd_S73_20 hM, vd_S73_51 hM, ha, hl, vd_pl, vd_eq1, vd_I_toInt, show ¬ (18 * (x : Int) < 0) by omega, show ¬ (18 * (y : Int) < 0) by omega, if_false, vd_I_add, one hx, e1, one hy, e]
      by_cases c1 : B x q = v
      · by_cases c : B y q = v
        · simp (disch := omega) only [c1, c, if_true, vd_I_add]
        · simp (disch := omega) only [c1, c, if_true, if_false, Int.add_zero]
      · by_cases c : B y q = v
        · simp (disch := omega) only [c1, c, if_true, if_false, vd_I_add]
        · simp (disch := omega) only [c1, c, if_false, Int.add_zero]
theorem vd_P83 (hM : vd_SC M ow fa lo lf) {k q : Nat} (hh : f 44 8 = vd_I (18 * (k : Int))) (hk : k < 576) (hq : q < 18) : vd_wp d 83 0 [.ref 44, .int (vd_I (q : Int))] [] (vd_mf M f) Q = Q (vd_mf M f) (.inl (some (.int (f fa (18 * k + q))))) := by
  have e : (18 * (k : Int) + (q : Int)).toNat = 18 * k + q := by omega
  simp (disch := omega) only [vd_S83_0 hM, vd_S83_13 hM, hh, vd_I_add, e]
theorem vd_P74 (hM : vd_SC M ow fa lo lf) {k q : Nat} {x : Int32} (hh : f 44 8 = vd_I (18 * (k : Int))) (hk : k < 576) (hq : q < 18) : vd_wp d 74 0 [.ref 44, .int (vd_I (q : Int)), .int x] [] (vd_mf M f) Q = Q (vd_mf M (vd_up f fa (18 * k + q) x)) (.inl none) := by
  have e : (18 * (k : Int) + (q : Int)).toNat = 18 * k + q := by omega
  simp (disch := omega) only [vd_S74_0 hM, vd_S74_14 hM, hh, vd_I_add, e]
end VDGS
