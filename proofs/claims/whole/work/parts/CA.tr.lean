/-! ===== transforms: the reference ===== -/
def vd_gL : List Int := [64, 90, 90, 90, 89, 88, 87, 85, 83, 82, 80, 78, 75, 73, 70, 67, 64, 61, 57, 54, 50, 46, 43, 38, 36, 31, 25, 22, 18, 13, 9, 4, 0]
def vd_sL : List Int := [29, 55, 74, 84, 74, 74, 0, -74, 84, -29, -74, 55, 55, -84, 74, -29]
def vd_g2 (k : Nat) : Int := if 32 < k then -(vd_gL.getD (64 - k) 0) else vd_gL.getD k 0
def vd_gg (j : Nat) : Int := vd_g2 (if 64 < j % 128 then 128 - j % 128 else j % 128)
/-- the transform's table: cosines, sines -/
def vd_Tc (n k p : Nat) : Int := if k = 0 then 64 else vd_gg ((2 * p + 1) * k * (32 / n))
def vd_Ts (k p : Nat) : Int := vd_sL.getD (4 * k + p) 0
theorem vd_g2_b : ∀ k : Nat, k < 65 → -128 ≤ vd_g2 k ∧ vd_g2 k ≤ 128 := by decide +kernel
theorem vd_gg_b (j : Nat) : -128 ≤ vd_gg j ∧ vd_gg j ≤ 128 := by
  have h : j % 128 < 128 := Nat.mod_lt _ (by decide)
  unfold vd_gg
  split
  · exact vd_g2_b _ (by omega)
  · exact vd_g2_b _ (by omega)
theorem vd_Tc_b (n k p : Nat) : -128 ≤ vd_Tc n k p ∧ vd_Tc n k p ≤ 128 := by
  unfold vd_Tc
  split
  · decide
  · exact vd_gg_b _
theorem vd_sL_b (m : Nat) : -128 ≤ vd_sL.getD m 0 ∧ vd_sL.getD m 0 ≤ 128 := by
  by_cases h : m < 16
  · have : ∀ m, m < 16 → -128 ≤ vd_sL.getD m 0 ∧ vd_sL.getD m 0 ≤ 128 := by decide +kernel
    exact this m h
  · have : vd_sL.getD m 0 = 0 := by
      rw [List.getD_eq_getElem?_getD, List.getElem?_eq_none (show vd_sL.length ≤ m from Nat.le_of_not_lt h)]
      rfl
    omega
theorem vd_Ts_b (k p : Nat) : -128 ≤ vd_Ts k p ∧ vd_Ts k p ≤ 128 := vd_sL_b _
/-- the reference's tables of waves -/
def vd_stR (g : Nat → Nat → Int32) : Prop := (∀ j, j < 33 → g 5 j = vd_I (vd_gL.getD j 0)) ∧ (∀ j, j < 16 → g 6 j = vd_I (vd_sL.getD j 0))
section VDTR
variable {N : vd_M} {g : Nat → Nat → Int32} {n : Nat} {T : Nat → Nat → Int} {C : Nat → Int}
theorem vd_P263 (hN : vd_SR N) (hs : vd_stR g) {j : Nat} (hj : j < 100000) (d : Nat) (Q : vd_M → (Option Value ⊕ Nat) → Prop) : vd_wp d 263 0 [.int (vd_I (j : Int)), vd_U] [] (vd_mf N g) Q = Q (vd_mf N g) (.inl (some (.int (vd_I (vd_gg j))))) := by
  have hm : j % 128 < 128 := Nat.mod_lt _ (by decide)
  have er : vd_I (j : Int) - vd_I (j : Int) / vd_I 128 * vd_I 128 = vd_I ((j % 128 : Nat) : Int) := by
    rw [vd_I_rem (by omega) (by omega) (by omega) (by omega), Int.natCast_emod]
    rfl
  have fin : ∀ (k : Nat) (x0 : Int32), k < 65 → vd_wp d 263 18 [.int x0, .int (vd_I (k : Int))] [] (vd_mf N g) Q = Q (vd_mf N g) (.inl (some (.int (vd_I (vd_g2 k))))) := fun k x0 hk => by
    by_cases c : 32 < k
    · have c' : (32 : Int) < (k : Int) := by omega
      have e : vd_g2 k = -(vd_gL.getD (64 - k) 0) := by unfold vd_g2; rw [if_pos c]
      have n1 : (64 - (k : Int)).toNat = 64 - k := by omega
      have hg := hs.1 (64 - k) (by omega)
      rw [e]
      simp (disch := omega) only [vd_S263_18 hN, vd_S263_24 hN, vd_S263_31 hN, vd_S263_41 hN, vd_I_toInt, c', if_true, vd_I_sub, n1, hg, vd_I_neg]
    · have c' : ¬ ((32 : Int) < (k : Int)) := by omega
      have e : vd_g2 k = vd_gL.getD k 0 := by unfold vd_g2; rw [if_neg c]
      have hg := hs.1 k (by omega)
      rw [e]
      simp (disch := omega) only [vd_S263_18 hN, vd_S263_36 hN, vd_S263_40 hN, vd_S263_41 hN, vd_I_toInt, c', if_false, Int.toNat_natCast, hg]
  by_cases c : 64 < j % 128
  · have c' : (64 : Int) < ((j % 128 : Nat) : Int) := by omega
    have e : vd_gg j = vd_g2 (128 - j % 128) := by unfold vd_gg; rw [if_pos c]
    have e2 : 128 - ((j % 128 : Nat) : Int) = ((128 - j % 128 : Nat) : Int) := by omega
    have F := fin (128 - j % 128) (vd_I (j : Int)) (by omega)
    rw [e, ← F]
    simp (disch := omega) only [vd_S263_0 hN, vd_S263_12 hN, er, vd_I_toInt, c', if_true, vd_I_sub, e2]
  · have c' : ¬ ((64 : Int) < ((j % 128 : Nat) : Int)) := by omega
    have e : vd_gg j = vd_g2 (j % 128) := by unfold vd_gg; rw [if_neg c]
    have F := fin (j % 128) (vd_I (j : Int)) (by omega)
    rw [e, ← F]
    simp (disch := omega) only [vd_S263_0 hN, er, vd_I_toInt, c', if_false]
/-- which table: sines or cosines -/
def vd_Tt (sn : Int) (n : Nat) : Nat → Nat → Int := if sn = 1 then vd_Ts else vd_Tc n
theorem vd_Tt_b (sn : Int) (n k p : Nat) : -128 ≤ vd_Tt sn n k p ∧ vd_Tt sn n k p ≤ 128 := by
  unfold vd_Tt
  split
  · exact vd_Ts_b k p
  · exact vd_Tc_b n k p
def vd_nn4 (n : Nat) : Prop := n = 4 ∨ n = 8 ∨ n = 16 ∨ n = 32
theorem vd_P262 (hN : vd_SR N) (hs : vd_stR g) (hn : vd_nn4 n) {sn : Int} (h123 : g 63 123 = vd_I sn) (hsn : (sn = 1 ∧ n = 4) ∨ sn = 0) {k p : Nat} (hk : k < n) (hp : p < n) (d : Nat) (Q : vd_M → (Option Value ⊕ Nat) → Prop) : vd_wp (d + 1) 262 0 [.ref 63, .int (vd_I (k : Int)), .int (vd_I (p : Int)), .int (vd_I (n : Int))] [] (vd_mf N g) Q = Q (vd_mf N g) (.inl (some (.int (vd_I (vd_Tt sn n k p))))) := by
  have n32 : 4 ≤ n ∧ n ≤ 32 := by unfold vd_nn4 at hn; omega
  rcases hsn with ⟨c, c4⟩ | c
  · have e : vd_Tt sn n k p = vd_sL.getD (4 * k + p) 0 := by unfold vd_Tt; rw [if_pos c]; rfl
    have hg := hs.2 (4 * k + p) (by omega)
    have n1 : (4 * (k : Int) + (p : Int)).toNat = 4 * k + p := by omega
    rw [e]
    simp (disch := omega) only [vd_S262_0 hN, vd_S262_7 hN, vd_S262_15 hN, h123, c, vd_I_toInt, show ¬ ((1 : Int) = 0) by decide, if_false, vd_I_mul, vd_I_add, n1, hg]
  · have e0 : vd_Tt sn n = vd_Tc n := by unfold vd_Tt; rw [if_neg (by omega)]
    rw [e0]
    by_cases ck : k = 0
    · have ck' : ((k : Nat) : Int) = 0 := by omega
      have e : vd_Tc n k p = 64 := by unfold vd_Tc; rw [if_pos ck]
      rw [e]
      simp (disch := omega) only [vd_S262_0 hN, vd_S262_17 hN, vd_S262_21 hN, vd_S262_41 hN, h123, c, ck', vd_I_toInt, eq_self, if_true]
    · have ck' : ¬ (((k : Nat) : Int) = 0) := by omega
      have e : vd_Tc n k p = vd_gg ((2 * p + 1) * k * (32 / n)) := by unfold vd_Tc; rw [if_neg ck]
      have kb : (2 * p + 1) * k ≤ 63 * 31 := Nat.mul_le_mul (by omega) (by omega)
      have qb : 32 / n ≤ 8 := by unfold vd_nn4 at hn; rcases hn with e | e | e | e <;> rw [e] <;> decide
      have kb2 : (2 * p + 1) * k * (32 / n) ≤ 63 * 31 * 8 := Nat.mul_le_mul kb qb
      have P := vd_P263 (g := g) hN hs (j := (2 * p + 1) * k * (32 / n)) (by omega)
      have ed : (32 : Int) / (n : Int) = ((32 / n : Nat) : Int) := rfl
      have ei : (2 * (p : Int) + 1) * (k : Int) * ((32 / n : Nat) : Int) = (((2 * p + 1) * k * (32 / n) : Nat) : Int) := by
        rw [Int.natCast_mul, Int.natCast_mul, Int.natCast_add, Int.natCast_mul]
        rfl
      rw [e]
      simp (disch := omega) only [vd_S262_0 hN, vd_S262_17 hN, vd_S262_26 hN, vd_S262_36 hN, vd_S262_38 hN, vd_S262_41 hN, h123, c, ck', vd_I_toInt, eq_self, if_true, if_false, vd_I_mul, vd_I_add, vd_I_div, ed, ei, P, vd_rs_v, vd_rs_n]
/-- what the reference's transform rests on -/
def vd_TQ (sn : Int) (g : Nat → Nat → Int32) : Prop := vd_stR g ∧ g 63 123 = vd_I sn
theorem vd_TQ.keep {sn : Int} {g g' : Nat → Nat → Int32} (h : vd_TQ sn g) (hg : ∀ c i, c = 5 ∨ c = 6 ∨ c = 63 → g' c i = g c i) : vd_TQ sn g' := ⟨⟨fun j a => by rw [hg _ _ (by omega)]; exact h.1.1 j a, fun j a => by rw [hg _ _ (by omega)]; exact h.1.2 j a⟩, by rw [hg _ _ (by omega)]; exact h.2⟩
theorem vd_r12 (hN : vd_SR N) {v : Int} (v0 : -1000000000 ≤ v) (v1 : v ≤ 1000000000) (g : Nat → Nat → Int32) (d : Nat) (Q : vd_M → (Option Value ⊕ Nat) → Prop) : vd_wp d 231 0 [.int (vd_I v), .int (vd_I 12)] [] (vd_mf N g) Q = Q (vd_mf N g) (.inl (some (.int (vd_I ((2048 + v) / 4096))))) := by
  have e : vd_I 1 <<< ((vd_I 12 - vd_I 1) &&& 31) = vd_I 2048 := by decide
  simp (disch := omega) only [vd_S231_0 hN, e, vd_I_add, vd_shr12, Int.add_comm v 2048]
theorem vd_L261k (hN : vd_SR N) {sn : Int} (hT : vd_TQ sn g) (hn : vd_nn4 n) (hsn : (sn = 1 ∧ n = 4) ∨ sn = 0) (hCb : ∀ p, -32768 ≤ C p ∧ C p ≤ 32767) (hC : ∀ p, p < n * n → g 123 p = vd_I (C p)) {x y : Nat} (hx : x < n) (hy : y < n) (x1 : Int32) (d : Nat) (Q : vd_M → (Option Value ⊕ Nat) → Prop) : ∀ (m j : Nat), j + m = n → vd_wp (d + 2) 261 47 [.ref 63, .int x1, .int (vd_I (n : Int)), .int (vd_I (x : Int)), .int (vd_I (y : Int)), .int (vd_I (vd_sum (fun k => vd_Tt sn n k y * C (k * n + x)) j)), .int (vd_I (j : Int))] [] (vd_mf N g) Q = vd_wp (d + 2) 261 99 [.ref 63, .int x1, .int (vd_I (n : Int)), .int (vd_I (x : Int)), .int (vd_I (y : Int)), .int (vd_I (vd_sum (fun k => vd_Tt sn n k y * C (k * n + x)) n)), .int (vd_I (n : Int))] [] (vd_mf N g) Q := by
  have n32 : 4 ≤ n ∧ n ≤ 32 := by unfold vd_nn4 at hn; omega
  have nq : n * n ≤ 1024 := Nat.mul_le_mul n32.2 n32.2
  intro m
  induction m with
  | zero =>
    intro j hj
    have e : j = n := by omega
    subst e
    rw [vd_S261_47 hN]
    simp (disch := omega) only [Int.lt_irrefl, if_false]
  | succ m ih =>
    intro j hj
    have c1 : (j : Int) < (n : Int) := by omega
    have e1 : (j : Int) + 1 = ((j + 1 : Nat) : Int) := by omega
    have kn := vd_kn (n := n) (k := j) (c := x) (by omega) hx
    have e2 : vd_sum (fun k => vd_Tt sn n k y * C (k * n + x)) j + vd_Tt sn n j y * C (j * n + x) = vd_sum (fun k => vd_Tt sn n k y * C (k * n + x)) (j + 1) := rfl
    have cv := hC _ kn
    have cb := hCb (j * n + x)
    have P := vd_P262 hN hT.1 hn hT.2 hsn (k := j) (p := y) (by omega) hy
    rw [← ih (j + 1) (by omega), vd_S261_47 hN]
    by_cases cz : C (j * n + x) = 0
    · rw [← e2, cz, Int.mul_zero, Int.add_zero]
      simp (disch := omega) only [vd_S261_53 hN, vd_S261_63 hN, vd_S261_93 hN, vd_I_toInt, c1, if_true, vd_I_mul, vd_I_add, vd_ixK, Int.toNat_natCast, cv, cz, eq_self, e1]
    · simp (disch := omega) only [vd_S261_53 hN, vd_S261_63 hN, vd_S261_67 hN, vd_S261_75 hN, vd_S261_78 hN, vd_S261_88 hN, vd_S261_93 hN, P, vd_I_toInt, c1, if_true, if_false, vd_I_mul, vd_I_add, vd_ixK, Int.toNat_natCast, cv, cz, e1, e2, vd_rs_v, vd_rs_n]
theorem vd_L261y (hN : vd_SR N) {sn : Int} (hn : vd_nn4 n) (hsn : (sn = 1 ∧ n = 4) ∨ sn = 0) (hCb : ∀ p, -32768 ≤ C p ∧ C p ≤ 32767) {x : Nat} (hx : x < n) (x1 : Int32) : ∀ (m y : Nat) (g : Nat → Nat → Int32) (a5 a6 : Value), y + m = n → vd_TQ sn g → (∀ p, p < n * n → g 123 p = vd_I (C p)) → ∃ (g' : Nat → Nat → Int32) (b5 b6 : Value), (∀ d Q, vd_wp (d + 2) 261 35 [.ref 63, .int x1, .int (vd_I (n : Int)), .int (vd_I (x : Int)), .int (vd_I (y : Int)), a5, a6] [] (vd_mf N g) Q = vd_wp (d + 2) 261 132 [.ref 63, .int x1, .int (vd_I (n : Int)), .int (vd_I (x : Int)), .int (vd_I (n : Int)), b5, b6] [] (vd_mf N g') Q) ∧ (∀ y', y ≤ y' → y' < n → g' 125 (y' * n + x) = vd_I (vd_hf (vd_Tt sn n) C n y' x)) ∧ (∀ k q, (k = 125 → ∀ y', y ≤ y' → y' < n → q ≠ y' * n + x) → g' k q = g k q) := by
  have n32 : 4 ≤ n ∧ n ≤ 32 := by unfold vd_nn4 at hn; omega
  have nq : n * n ≤ 1024 := Nat.mul_le_mul n32.2 n32.2
  intro m
  induction m with
  | zero =>
    intro y g a5 a6 hy hT hC
    have e : y = n := by omega
    subst e
    refine ⟨g, a5, a6, fun d Q => ?_, fun y' a b => by omega, fun _ _ _ => rfl⟩
    rw [vd_S261_35 hN]
    simp (disch := omega) only [Int.lt_irrefl, if_false]
  | succ m ih =>
    intro y g a5 a6 hy hT hC
    have yn : y < n := by omega
    have c1 : (y : Int) < (n : Int) := by omega
    have e1 : (y : Int) + 1 = ((y + 1 : Nat) : Int) := by omega
    have kn := vd_kn (n := n) (k := y) (c := x) yn hx
    have lk := fun d (Q : vd_M → (Option Value ⊕ Nat) → Prop) => vd_L261k hN hT hn hsn hCb hC hx yn x1 d Q n 0 (by omega)
    have s0 : vd_sum (fun k => vd_Tt sn n k y * C (k * n + x)) 0 = 0 := rfl
    have z0 : ((0 : Nat) : Int) = 0 := rfl
    simp only [s0, z0] at lk
    have sb := vd_sum_c (F := fun k => vd_Tt sn n k y * C (k * n + x)) (fun t => vd_mulc (vd_Tt_b _ _ _ _).1 (vd_Tt_b _ _ _ _).2 (hCb _).1 (hCb _).2) n
    have eh : vd_hf (vd_Tt sn n) C n y x = vd_wn ((64 + vd_sum (fun k => vd_Tt sn n k y * C (k * n + x)) n) / 128) (-32768) 32767 := rfl
    have sb2 : -140000000 ≤ vd_sum (fun k => vd_Tt sn n k y * C (k * n + x)) n ∧ vd_sum (fun k => vd_Tt sn n k y * C (k * n + x)) n ≤ 140000000 := by omega
    clear sb
    generalize vd_sum (fun k => vd_Tt sn n k y * C (k * n + x)) n = S at *
    have P231 := vd_r7 hN (v := S) (by omega) (by omega)
    have P194 := fun (f : Nat → Nat → Int32) (d : Nat) (Q : vd_M → (Option Value ⊕ Nat) → Prop) => vd_P194 (a := (64 + S) / 128) (b := -32768) (c := 32767) (f := f) (d := d) (Q := Q) hN (by omega) (by omega) (by omega) (by omega) (by omega) (by omega)
    rw [← eh] at P194
    obtain ⟨g2, b5, b6, p1, p2, p3⟩ := ih (y + 1) (vd_up g 125 (y * n + x) (vd_I (vd_hf (vd_Tt sn n) C n y x))) (.int (vd_I S)) (.int (vd_I (n : Int))) (by omega) (hT.keep fun c i q => vd_up_ne (by omega)) (fun p hp => by rw [vd_up_ne (by omega)]; exact hC p hp)
    refine ⟨g2, b5, b6, fun d Q => ?_, fun q a b => ?_, fun k q hq => ?_⟩
    · rw [← p1 d Q, vd_S261_35 hN]
      simp (disch := omega) only [vd_S261_41 hN, lk, vd_S261_99 hN, vd_S261_113 hN, vd_S261_116 hN, vd_S261_122 hN, vd_S261_125 hN, vd_I_toInt, c1, if_true, vd_I_mul, vd_I_add, vd_ixK, Int.toNat_natCast, P231, P194, e1, vd_rs_v, vd_rs_n]
    · by_cases cq : q = y
      · subst cq
        rw [p3 _ _ (fun _ y' a b e => by
          have := (vd_knd (n := n) (k := y') hx).1
          rw [← e, (vd_knd hx).1] at this
          omega), vd_up_eq]
      · exact p2 q (by omega) b
    · rw [p3 k q (fun e y' a b => hq e y' (by omega) b), vd_up_ne (fun e => hq e.1 y (Nat.le_refl _) yn e.2)]
theorem vd_L261x (hN : vd_SR N) {sn : Int} (hn : vd_nn4 n) (hsn : (sn = 1 ∧ n = 4) ∨ sn = 0) (hCb : ∀ p, -32768 ≤ C p ∧ C p ≤ 32767) (x1 : Int32) : ∀ (m x : Nat) (g : Nat → Nat → Int32) (a4 a5 a6 : Value), x + m = n → vd_TQ sn g → (∀ p, p < n * n → g 123 p = vd_I (C p)) → ∃ (g' : Nat → Nat → Int32) (b4 b5 b6 : Value), (∀ d Q, vd_wp (d + 2) 261 27 [.ref 63, .int x1, .int (vd_I (n : Int)), .int (vd_I (x : Int)), a4, a5, a6] [] (vd_mf N g) Q = vd_wp (d + 2) 261 140 [.ref 63, .int x1, .int (vd_I (n : Int)), .int (vd_I 0), b4, b5, b6] [] (vd_mf N g') Q) ∧ (∀ y' x', y' < n → x ≤ x' → x' < n → g' 125 (y' * n + x') = vd_I (vd_hf (vd_Tt sn n) C n y' x')) ∧ (∀ k q, (k = 125 → ∀ y' x', y' < n → x ≤ x' → x' < n → q ≠ y' * n + x') → g' k q = g k q) := by
  intro m
  induction m with
  | zero =>
    intro x g a4 a5 a6 hx hT hC
    have e : x = n := by omega
    subst e
    refine ⟨g, a4, a5, a6, fun d Q => ?_, fun y' x' _ a b => by omega, fun _ _ _ => rfl⟩
    rw [vd_S261_27 hN]
    simp (disch := omega) only [Int.lt_irrefl, if_false, vd_S261_138 hN]
  | succ m ih =>
    intro x g a4 a5 a6 hx hT hC
    have n32 : 4 ≤ n ∧ n ≤ 32 := by unfold vd_nn4 at hn; omega
    have c1 : (x : Int) < (n : Int) := by omega
    have e1 : (x : Int) + 1 = ((x + 1 : Nat) : Int) := by omega
    obtain ⟨g1, b5, b6, p1, p2, p3⟩ := vd_L261y hN hn hsn hCb (show x < n by omega) x1 n 0 g a5 a6 (by omega) hT hC
    have z0 : ((0 : Nat) : Int) = 0 := rfl
    rw [z0] at p1
    have ne : ∀ k q, k ≠ 125 → g1 k q = g k q := fun k q a => p3 k q (fun e => absurd e a)
    obtain ⟨g2, d4, d5, d6, q1, q2, q3⟩ := ih (x + 1) g1 (.int (vd_I (n : Int))) b5 b6 (by omega) (hT.keep fun c i q => ne _ _ (by omega)) (fun p hp => by rw [ne _ _ (by decide)]; exact hC p hp)
    refine ⟨g2, d4, d5, d6, fun d Q => ?_, fun y' x' hy a b => ?_, fun k q hq => ?_⟩
    · rw [← q1 d Q, vd_S261_27 hN]
      simp (disch := omega) only [vd_S261_32 hN, p1, vd_S261_132 hN, vd_I_toInt, c1, if_true, vd_I_add, e1]
    · by_cases cc : x' = x
      · subst cc
        rw [q3 _ _ (fun _ r2 c2 hr2 a2 b2 e => by
          have := (vd_knd (n := n) (k := r2) (c := c2) (by omega)).2
          rw [← e, (vd_knd (by omega)).2] at this
          omega)]
        exact p2 y' (Nat.zero_le _) hy
      · exact q2 y' x' hy (by omega) b
    · rw [q3 k q (fun e r' c' hr a b => hq e r' c' hr (by omega) b), p3 k q (fun e r' _ hr => hq e r' x hr (Nat.le_refl _) (by omega))]
end VDTR
