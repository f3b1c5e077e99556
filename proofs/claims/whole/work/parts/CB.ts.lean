/-! ===== transforms: the reference, rows ===== -/
section VDTS
variable {N : vd_M} {n : Nat} {C : Nat → Int}
theorem vd_L261m (hN : vd_SR N) {g : Nat → Nat → Int32} {sn : Int} (hT : vd_TQ sn g) (hn : vd_nn4 n) (hsn : (sn = 1 ∧ n = 4) ∨ sn = 0) {x y : Nat} (hx : x < n) (hy : y < n) (hH : ∀ k, k < n → g 125 (y * n + k) = vd_I (vd_hf (vd_Tt sn n) C n y k)) (x1 : Int32) (d : Nat) (Q : vd_M → (Option Value ⊕ Nat) → Prop) : ∀ (m j : Nat), j + m = n → vd_wp (d + 2) 261 160 [.ref 63, .int x1, .int (vd_I (n : Int)), .int (vd_I (y : Int)), .int (vd_I (x : Int)), .int (vd_I (vd_sum (fun k => vd_Tt sn n k x * vd_hf (vd_Tt sn n) C n y k) j)), .int (vd_I (j : Int))] [] (vd_mf N g) Q = vd_wp (d + 2) 261 198 [.ref 63, .int x1, .int (vd_I (n : Int)), .int (vd_I (y : Int)), .int (vd_I (x : Int)), .int (vd_I (vd_sum (fun k => vd_Tt sn n k x * vd_hf (vd_Tt sn n) C n y k) n)), .int (vd_I (n : Int))] [] (vd_mf N g) Q := by
  have n32 : 4 ≤ n ∧ n ≤ 32 := by unfold vd_nn4 at hn; omega
  have nq : n * n ≤ 1024 := Nat.mul_le_mul n32.2 n32.2
  intro m
  induction m with
  | zero =>
    intro j hj
    have e : j = n := by omega
    subst e
    rw [vd_S261_160 hN]
    simp (disch := omega) only [Int.lt_irrefl, if_false]
  | succ m ih =>
    intro j hj
    have c1 : (j : Int) < (n : Int) := by omega
    have e1 : (j : Int) + 1 = ((j + 1 : Nat) : Int) := by omega
    have kn := vd_kn (n := n) (k := y) (c := j) hy (by omega)
    have e2 : vd_sum (fun k => vd_Tt sn n k x * vd_hf (vd_Tt sn n) C n y k) j + vd_Tt sn n j x * vd_hf (vd_Tt sn n) C n y j = vd_sum (fun k => vd_Tt sn n k x * vd_hf (vd_Tt sn n) C n y k) (j + 1) := rfl
    have cv := hH j (by omega)
    have P := vd_P262 hN hT.1 hn hT.2 hsn (k := j) (p := x) (by omega) hx
    rw [← ih (j + 1) (by omega), vd_S261_160 hN]
    simp (disch := omega) only [vd_S261_166 hN, vd_S261_174 hN, vd_S261_177 hN, vd_S261_187 hN, P, vd_I_toInt, c1, if_true, vd_I_mul, vd_I_add, vd_ixK, Int.toNat_natCast, cv, e1, e2, vd_rs_v, vd_rs_n]
theorem vd_L261u (hN : vd_SR N) {sn : Int} (hn : vd_nn4 n) (hsn : (sn = 1 ∧ n = 4) ∨ sn = 0) {y : Nat} (hy : y < n) (x1 : Int32) : ∀ (m x : Nat) (g : Nat → Nat → Int32) (a5 a6 : Value), x + m = n → vd_TQ sn g → (∀ k, k < n → g 125 (y * n + k) = vd_I (vd_hf (vd_Tt sn n) C n y k)) → ∃ (g' : Nat → Nat → Int32) (b5 b6 : Value), (∀ d Q, vd_wp (d + 2) 261 148 [.ref 63, .int x1, .int (vd_I (n : Int)), .int (vd_I (y : Int)), .int (vd_I (x : Int)), a5, a6] [] (vd_mf N g) Q = vd_wp (d + 2) 261 222 [.ref 63, .int x1, .int (vd_I (n : Int)), .int (vd_I (y : Int)), .int (vd_I (n : Int)), b5, b6] [] (vd_mf N g') Q) ∧ (∀ x', x ≤ x' → x' < n → g' 123 (y * n + x') = vd_I (vd_ou (vd_Tt sn n) C n y x')) ∧ (∀ k q, (k = 123 → ∀ x', x ≤ x' → x' < n → q ≠ y * n + x') → g' k q = g k q) := by
  have n32 : 4 ≤ n ∧ n ≤ 32 := by unfold vd_nn4 at hn; omega
  have nq : n * n ≤ 1024 := Nat.mul_le_mul n32.2 n32.2
  intro m
  induction m with
  | zero =>
    intro x g a5 a6 hx hT hH
    have e : x = n := by omega
    subst e
    refine ⟨g, a5, a6, fun d Q => ?_, fun y' a b => by omega, fun _ _ _ => rfl⟩
    rw [vd_S261_148 hN]
    simp (disch := omega) only [Int.lt_irrefl, if_false]
  | succ m ih =>
    intro x g a5 a6 hx hT hH
    have xn : x < n := by omega
    have c1 : (x : Int) < (n : Int) := by omega
    have e1 : (x : Int) + 1 = ((x + 1 : Nat) : Int) := by omega
    have kn := vd_kn (n := n) (k := y) (c := x) hy xn
    have lk := fun d (Q : vd_M → (Option Value ⊕ Nat) → Prop) => vd_L261m hN hT hn hsn xn hy hH x1 d Q n 0 (by omega)
    have s0 : vd_sum (fun k => vd_Tt sn n k x * vd_hf (vd_Tt sn n) C n y k) 0 = 0 := rfl
    have z0 : ((0 : Nat) : Int) = 0 := rfl
    simp only [s0, z0] at lk
    have sb := vd_sum_c (F := fun k => vd_Tt sn n k x * vd_hf (vd_Tt sn n) C n y k) (fun t => vd_mulc (vd_Tt_b _ _ _ _).1 (vd_Tt_b _ _ _ _).2 (vd_hf_b _ _ _ _ _).1 (vd_hf_b _ _ _ _ _).2) n
    have eh : vd_ou (vd_Tt sn n) C n y x = (2048 + vd_sum (fun k => vd_Tt sn n k x * vd_hf (vd_Tt sn n) C n y k) n) / 4096 := rfl
    have sb2 : -140000000 ≤ vd_sum (fun k => vd_Tt sn n k x * vd_hf (vd_Tt sn n) C n y k) n ∧ vd_sum (fun k => vd_Tt sn n k x * vd_hf (vd_Tt sn n) C n y k) n ≤ 140000000 := by omega
    clear sb
    obtain ⟨g2, b5, b6, p1, p2, p3⟩ := ih (x + 1) (vd_up g 123 (y * n + x) (vd_I (vd_ou (vd_Tt sn n) C n y x))) (.int (vd_I (vd_sum (fun k => vd_Tt sn n k x * vd_hf (vd_Tt sn n) C n y k) n))) (.int (vd_I (n : Int))) (by omega) (hT.keep fun c i q => vd_up_ne (by omega)) (fun k hk => by rw [vd_up_ne (by omega)]; exact hH k hk)
    rw [eh] at p1 p3
    generalize vd_sum (fun k => vd_Tt sn n k x * vd_hf (vd_Tt sn n) C n y k) n = S at *
    have P231 := vd_r12 hN (v := S) (by omega) (by omega)
    refine ⟨g2, b5, b6, fun d Q => ?_, fun q a b => ?_, fun k q hq => ?_⟩
    · rw [← p1 d Q, vd_S261_148 hN]
      simp (disch := omega) only [vd_S261_154 hN, lk, vd_S261_198 hN, vd_S261_212 hN, vd_S261_215 hN, vd_I_toInt, c1, if_true, vd_I_mul, vd_I_add, vd_ixK, Int.toNat_natCast, P231, e1, vd_rs_v, vd_rs_n]
    · by_cases cq : q = x
      · subst cq
        rw [p3 _ _ (fun _ x' a b e => by
          have := (vd_knd (n := n) (k := y) (c := x') (by omega)).2
          rw [← e, (vd_knd (by omega)).2] at this
          omega), vd_up_eq, eh]
      · exact p2 q (by omega) b
    · rw [p3 k q (fun e x' a b => hq e x' (by omega) b), vd_up_ne (fun e => hq e.1 x (Nat.le_refl _) xn e.2)]
theorem vd_L261v (hN : vd_SR N) {sn : Int} (hn : vd_nn4 n) (hsn : (sn = 1 ∧ n = 4) ∨ sn = 0) (x1 : Int32) : ∀ (m y : Nat) (g : Nat → Nat → Int32) (a4 a5 a6 : Value), y + m = n → vd_TQ sn g → (∀ r k, r < n → k < n → g 125 (r * n + k) = vd_I (vd_hf (vd_Tt sn n) C n r k)) → ∃ (g' : Nat → Nat → Int32), (∀ d Q, vd_wp (d + 2) 261 140 [.ref 63, .int x1, .int (vd_I (n : Int)), .int (vd_I (y : Int)), a4, a5, a6] [] (vd_mf N g) Q = Q (vd_mf N g') (.inl none)) ∧ (∀ r c, y ≤ r → r < n → c < n → g' 123 (r * n + c) = vd_I (vd_ou (vd_Tt sn n) C n r c)) ∧ (∀ k q, k ≠ 123 → g' k q = g k q) ∧ (∀ q, (∀ r c, y ≤ r → r < n → c < n → q ≠ r * n + c) → g' 123 q = g 123 q) := by
  intro m
  induction m with
  | zero =>
    intro y g a4 a5 a6 hy hT hH
    have e : y = n := by omega
    subst e
    refine ⟨g, fun d Q => ?_, fun r' c' a b => by omega, fun _ _ _ => rfl, fun _ _ => rfl⟩
    rw [vd_S261_140 hN]
    simp (disch := omega) only [Int.lt_irrefl, if_false, vd_S261_228 hN]
  | succ m ih =>
    intro y g a4 a5 a6 hy hT hH
    have n32 : 4 ≤ n ∧ n ≤ 32 := by unfold vd_nn4 at hn; omega
    have yn : y < n := by omega
    have c1 : (y : Int) < (n : Int) := by omega
    have e1 : (y : Int) + 1 = ((y + 1 : Nat) : Int) := by omega
    obtain ⟨g1, b5, b6, p1, p2, p3⟩ := vd_L261u hN hn hsn yn x1 n 0 g a5 a6 (by omega) hT (fun k hk => hH y k yn hk)
    have z0 : ((0 : Nat) : Int) = 0 := rfl
    rw [z0] at p1
    have ne : ∀ k q, k ≠ 123 → g1 k q = g k q := fun k q a => p3 k q (fun e => absurd e a)
    obtain ⟨g2, q1, q2, q3, q4⟩ := ih (y + 1) g1 (.int (vd_I (n : Int))) b5 b6 (by omega) (hT.keep fun c i q => ne _ _ (by omega)) (fun r k a b => by rw [ne _ _ (by decide)]; exact hH r k a b)
    refine ⟨g2, fun d Q => ?_, fun r c a b hc => ?_, fun k q hq => by rw [q3 k q hq, ne k q hq], fun q hq => ?_⟩
    · rw [← q1 d Q, vd_S261_140 hN]
      simp (disch := omega) only [vd_S261_145 hN, p1, vd_S261_222 hN, vd_I_toInt, c1, if_true, vd_I_add, e1]
    · by_cases cc : r = y
      · subst cc
        rw [q4 _ (fun r2 c2 a2 b2 hc2 e => by
          have := (vd_knd (n := n) (k := r2) (c := c2) hc2).1
          rw [← e, (vd_knd hc).1] at this
          omega)]
        exact p2 c (Nat.zero_le _) hc
      · exact q2 r c (by omega) b hc
    · rw [q4 q (fun r' c' a b hc => hq r' c' (by omega) b hc), p3 123 q (fun _ c' _ hc => hq y c' (Nat.le_refl _) yn hc)]
/-- square -/
theorem vd_P261 (hN : vd_SR N) {g : Nat → Nat → Int32} {pl o : Nat} (hst : vd_stR g) (hn : vd_nn4 n) (hpl : pl < 3) (ho : o < 2) (h111 : g 63 111 = vd_I (o : Int)) (hCb : ∀ p, -32768 ≤ C p ∧ C p ≤ 32767) (hC : ∀ p, p < n * n → g 123 p = vd_I (C p)) : ∃ (g' : Nat → Nat → Int32), (∀ d Q, vd_wp (d + 2) 261 0 [.ref 63, .int (vd_I (pl : Int)), .int (vd_I (n : Int)), vd_U, vd_U, vd_U, vd_U] [] (vd_mf N g) Q = Q (vd_mf N g') (.inl none)) ∧ (∀ r c, r < n → c < n → g' 123 (r * n + c) = vd_I (vd_ou (vd_Tt (if pl = 0 ∧ o = 0 ∧ n = 4 then 1 else 0) n) C n r c)) ∧ (∀ k q, k ≠ 123 → k ≠ 125 → ¬ (k = 63 ∧ q = 123) → g' k q = g k q) := by
  have n32 : 4 ≤ n ∧ n ≤ 32 := by unfold vd_nn4 at hn; omega
  obtain ⟨sn, hsn⟩ : ∃ sn : Int, (if pl = 0 ∧ o = 0 ∧ n = 4 then (1 : Int) else 0) = sn := ⟨_, rfl⟩
  have hs1 : (sn = 1 ∧ n = 4) ∨ sn = 0 := by
    rw [← hsn]
    split
    · rename_i h
      exact Or.inl ⟨rfl, h.2.2⟩
    · exact Or.inr rfl
  rw [hsn]
  have U : ∀ c i, ¬ (c = 63 ∧ i = 123) → vd_up g 63 123 (vd_I sn) c i = g c i := fun c i a => vd_up_ne a
  have hT : vd_TQ sn (vd_up g 63 123 (vd_I sn)) := ⟨⟨fun j a => by rw [U _ _ (by omega)]; exact hst.1 j a, fun j a => by rw [U _ _ (by omega)]; exact hst.2 j a⟩, vd_up_eq _ _ _ _⟩
  obtain ⟨g1, b4, b5, b6, p1, p2, p3⟩ := vd_L261x hN hn hs1 hCb (vd_I (pl : Int)) n 0 (vd_up g 63 123 (vd_I sn)) vd_U vd_U vd_U (by omega) hT (fun p hp => by rw [U _ _ (by omega)]; exact hC p hp)
  have ne : ∀ k q, k ≠ 125 → g1 k q = vd_up g 63 123 (vd_I sn) k q := fun k q a => p3 k q (fun e => absurd e a)
  obtain ⟨g2, q1, q2, q3, q4⟩ := vd_L261v (C := C) hN hn hs1 (vd_I (pl : Int)) n 0 g1 b4 b5 b6 (by omega) (hT.keep fun c i q => ne _ _ (by omega)) (fun r k a b => p2 r k a (Nat.zero_le _) b)
  have z0 : ((0 : Nat) : Int) = 0 := rfl
  rw [z0] at p1 q1
  refine ⟨g2, fun d Q => ?_, fun r c a b => q2 r c (Nat.zero_le _) a b, fun k q a b e => by rw [q3 k q a, ne k q b, U k q e]⟩
  rw [← q1 d Q, ← p1 d Q]
  have fk1 : vd_fok .boolean (vd_I 1) = true := by decide
  have fk0 : vd_fok .boolean (vd_I 0) = true := by decide
  by_cases c : pl = 0
  · have c' : (vd_I ((pl : Nat) : Int)).toInt = 0 := by rw [vd_I_toInt (by omega) (by omega)]; omega
    by_cases co : o = 0
    · have h111' : g 63 111 = vd_I 0 := by rw [h111, co]; rfl
      by_cases cn : n = 4
      · have cn' : (n : Int) = 4 := by omega
        have es : sn = 1 := by rw [← hsn, if_pos ⟨c, co, cn⟩]
        rw [es]
        simp (disch := first | assumption | omega) only [vd_S261_0 hN, vd_S261_5 hN, vd_S261_12 hN, vd_S261_17 hN, vd_S261_22 hN, c', h111', cn', vd_I_toInt, eq_self, if_true]
      · have cn' : ¬ ((n : Int) = 4) := by omega
        have es : sn = 0 := by rw [← hsn, if_neg (by omega)]
        rw [es]
        simp (disch := first | assumption | omega) only [vd_S261_0 hN, vd_S261_5 hN, vd_S261_12 hN, vd_S261_21 hN, vd_S261_22 hN, c', h111', cn', vd_I_toInt, eq_self, if_true, if_false]
    · have h111' : g 63 111 = vd_I 1 := by rw [h111, show o = 1 by omega]; rfl
      have es : sn = 0 := by rw [← hsn, if_neg (by omega)]
      rw [es]
      simp (disch := first | assumption | omega) only [vd_S261_0 hN, vd_S261_5 hN, vd_S261_21 hN, vd_S261_22 hN, c', h111', vd_I_toInt, show ¬ ((1 : Int) = 0) by decide, eq_self, if_true, if_false]
  · have c' : ¬ ((vd_I ((pl : Nat) : Int)).toInt = 0) := by rw [vd_I_toInt (by omega) (by omega)]; omega
    have es : sn = 0 := by rw [← hsn, if_neg (by omega)]
    rw [es]
    simp (disch := first | assumption | omega) only [vd_S261_0 hN, vd_S261_21 hN, vd_S261_22 hN, c', if_false]
end VDTS
