/-! ===== transforms: the class ===== -/
theorem vd_sum_c {F : Nat → Int} (h : ∀ t, -4200000 ≤ F t ∧ F t ≤ 4200000) : ∀ n : Nat, -4200000 * (n : Int) ≤ vd_sum F n ∧ vd_sum F n ≤ 4200000 * (n : Int) := by
  intro n
  induction n with
  | zero => simp only [vd_sum]; omega
  | succ n ih =>
    have := h n
    simp only [vd_sum]
    omega
theorem vd_sum_z {F : Nat → Int} {m : Nat} : ∀ k : Nat, (∀ t, m ≤ t → t < m + k → F t = 0) → vd_sum F (m + k) = vd_sum F m := by
  intro k
  induction k with
  | zero => intro _; rfl
  | succ k ih =>
    intro h
    have e : vd_sum F (m + (k + 1)) = vd_sum F (m + k) + F (m + k) := rfl
    rw [e, ih (fun t a b => h t a (by omega)), h (m + k) (by omega) (by omega), Int.add_zero]
theorem vd_sum_ext {F G : Nat → Int} : ∀ n : Nat, (∀ t, t < n → F t = G t) → vd_sum F n = vd_sum G n := by
  intro n
  induction n with
  | zero => intro _; rfl
  | succ n ih =>
    intro h
    show vd_sum F n + F n = vd_sum G n + G n
    rw [ih fun t a => h t (by omega), h n (by omega)]
theorem vd_mulc {a b : Int} (a0 : -128 ≤ a) (a1 : a ≤ 128) (b0 : -32768 ≤ b) (b1 : b ≤ 32767) : -4200000 ≤ a * b ∧ a * b ≤ 4200000 := by
  by_cases h : 0 ≤ b
  · have h1 : a * b ≤ 128 * b := Int.mul_le_mul_of_nonneg_right a1 h
    have h2 : -128 * b ≤ a * b := Int.mul_le_mul_of_nonneg_right a0 h
    omega
  · have h1 : a * (-b) ≤ 128 * (-b) := Int.mul_le_mul_of_nonneg_right a1 (by omega)
    have h2 : -128 * (-b) ≤ a * (-b) := Int.mul_le_mul_of_nonneg_right a0 (by omega)
    rw [Int.mul_neg a b] at h1 h2
    omega
/-- behind the columns -/
def vd_hf (T : Nat → Nat → Int) (C : Nat → Int) (n r c : Nat) : Int := vd_wn ((64 + vd_sum (fun k => T k r * C (k * n + c)) n) / 128) (-32768) 32767
/-- behind the rows -/
def vd_ou (T : Nat → Nat → Int) (C : Nat → Int) (n r c : Nat) : Int := (2048 + vd_sum (fun k => T k c * vd_hf T C n r k) n) / 4096
theorem vd_hf_b (T : Nat → Nat → Int) (C : Nat → Int) (n r c : Nat) : -32768 ≤ vd_hf T C n r c ∧ vd_hf T C n r c ≤ 32767 := vd_wn_b (by decide)
theorem vd_kn {n k c : Nat} (hk : k < n) (hc : c < n) : k * n + c < n * n := by
  have : (k + 1) * n ≤ n * n := Nat.mul_le_mul_right n hk
  rw [Nat.add_mul, Nat.one_mul] at this
  omega
theorem vd_knd {n k c : Nat} (hc : c < n) : (k * n + c) / n = k ∧ (k * n + c) % n = c := by
  have h0 : 0 < n := by omega
  constructor
  · rw [Nat.mul_comm, Nat.mul_add_div h0, Nat.div_eq_of_lt hc, Nat.add_zero]
  · rw [Nat.mul_comm, Nat.mul_add_mod, Nat.mod_eq_of_lt hc]
/-- columns behind the last one with a number come to nothing -/
theorem vd_hf_z {T : Nat → Nat → Int} {C : Nat → Int} {n : Nat} {lr lc : Int} (h : vd_NL n C lr lc) {r c : Nat} (hc : c < n) (hl : lc < (c : Int)) : vd_hf T C n r c = 0 := by
  have z : ∀ k, k < n → C (k * n + c) = 0 := fun k hk => by
    by_cases e : C (k * n + c) = 0
    · exact e
    · have := h.2.2 _ (vd_kn hk hc) e
      rw [(vd_knd hc).2] at this
      omega
  have e : vd_sum (fun k => T k r * C (k * n + c)) n = 0 := by
    have := vd_sum_z (F := fun k => T k r * C (k * n + c)) (m := 0) n (fun t _ b => by
      show T t r * C (t * n + c) = 0
      rw [z t (by omega), Int.mul_zero])
    rw [Nat.zero_add] at this
    exact this
  unfold vd_hf
  rw [e]
  decide
section VDTF
variable {M : vd_M} {ow fa lo lf o1 ac st n : Nat} {T : Nat → Nat → Int} {C : Nat → Int} {ln cn : Nat}
/-- where a transform's table stands -/
def vd_TT (M : vd_M) (o1 ac st n : Nat) (T : Nat → Nat → Int) (f : Nat → Nat → Int32) : Prop := (vd_k M o1 = 32 ∧ vd_l M o1 < 5000) ∧ (∀ k p, k < n → p < n → k * st * ac + p < vd_l M o1 ∧ f o1 (k * st * ac + p) = vd_I (T k p)) ∧ (∀ k p, -128 ≤ T k p ∧ T k p ≤ 128) ∧ (o1 ≠ 49 ∧ o1 ≠ 50)
theorem vd_TT.keep {f f' : Nat → Nat → Int32} (h : vd_TT M o1 ac st n T f) (hf : ∀ i, f' o1 i = f o1 i) : vd_TT M o1 ac st n T f' := ⟨h.1, fun k p a b => by rw [hf]; exact h.2.1 k p a b, h.2.2⟩
theorem vd_ixT {k st ac p : Nat} : (k : Int) * (st : Int) * (ac : Int) + (p : Int) = ((k * st * ac + p : Nat) : Int) := by rw [Int.natCast_add, Int.natCast_mul, Int.natCast_mul]
theorem vd_ixK {k n c : Nat} : (k : Int) * (n : Int) + (c : Int) = ((k * n + c : Nat) : Int) := by rw [Int.natCast_add, Int.natCast_mul]
theorem vd_L134k (hM : vd_SC M ow fa lo lf) {f : Nat → Nat → Int32} (hT : vd_TT M o1 ac st n T f) (hn : 1 ≤ n ∧ n ≤ 32) (h15 : f 45 15 = vd_I (ln : Int)) (hln : ln < n) (hC : ∀ p, p < n * n → f 49 p = vd_I (C p)) {r c : Nat} (hr : r < n) (hc : c < n) (d : Nat) (Q : vd_M → (Option Value ⊕ Nat) → Prop) : ∀ (m j : Nat), j + m = ln + 1 → vd_wp d 134 37 [.ref 45, .ref o1, .int (vd_I (ac : Int)), .int (vd_I (st : Int)), .int (vd_I (n : Int)), .int (vd_I (c : Int)), .int (vd_I (r : Int)), .int (vd_I (64 + vd_sum (fun k => T k r * C (k * n + c)) j)), .int (vd_I (j : Int))] [] (vd_mf M f) Q = vd_wp d 134 82 [.ref 45, .ref o1, .int (vd_I (ac : Int)), .int (vd_I (st : Int)), .int (vd_I (n : Int)), .int (vd_I (c : Int)), .int (vd_I (r : Int)), .int (vd_I (64 + vd_sum (fun k => T k r * C (k * n + c)) (ln + 1))), .int (vd_I ((ln + 1 : Nat) : Int))] [] (vd_mf M f) Q := by
  have nq : n * n ≤ 1024 := Nat.mul_le_mul hn.2 hn.2
  obtain ⟨⟨tk, tl⟩, tv, tb, _⟩ := hT
  intro m
  induction m with
  | zero =>
    intro j hj
    have e : j = ln + 1 := by omega
    subst e
    have c1 : (ln : Int) < ((ln + 1 : Nat) : Int) := by omega
    rw [vd_S134_37 hM, h15]
    simp (disch := omega) only [vd_I_toInt, c1, if_true]
  | succ m ih =>
    intro j hj
    have c1 : ¬ ((ln : Int) < (j : Int)) := by omega
    have e1 : (j : Int) + 1 = ((j + 1 : Nat) : Int) := by omega
    have kn := vd_kn (n := n) (k := j) (c := c) (by omega) hc
    obtain ⟨t1, t2⟩ := tv j r (by omega) hr
    have e2 : 64 + vd_sum (fun k => T k r * C (k * n + c)) j + T j r * C (j * n + c) = 64 + vd_sum (fun k => T k r * C (k * n + c)) (j + 1) := Int.add_assoc _ _ _
    have cv := hC _ kn
    rw [← ih (j + 1) (by omega), vd_S134_37 hM, h15]
    simp (disch := first | assumption | omega) only [vd_S134_46 hM, vd_S134_58 hM, vd_S134_71 hM, vd_I_toInt, c1, if_false, vd_I_mul, vd_I_add, vd_ixT, vd_ixK, Int.toNat_natCast, t2, cv, e1, e2]
theorem vd_L134r (hM : vd_SC M ow fa lo lf) {lr lc : Int} (hL : vd_NL n C lr lc) (hlr : lr = (ln : Int)) (hn : 1 ≤ n ∧ n ≤ 32) {c : Nat} (hc : c < n) : ∀ (m r : Nat) (f : Nat → Nat → Int32) (a7 a8 : Value), r + m = n → vd_TT M o1 ac st n T f → f 45 15 = vd_I (ln : Int) → (∀ p, p < n * n → f 49 p = vd_I (C p)) → ∃ (f' : Nat → Nat → Int32) (b7 b8 : Value), (∀ d Q, vd_wp (d + 1) 134 23 [.ref 45, .ref o1, .int (vd_I (ac : Int)), .int (vd_I (st : Int)), .int (vd_I (n : Int)), .int (vd_I (c : Int)), .int (vd_I (r : Int)), a7, a8] [] (vd_mf M f) Q = vd_wp (d + 1) 134 115 [.ref 45, .ref o1, .int (vd_I (ac : Int)), .int (vd_I (st : Int)), .int (vd_I (n : Int)), .int (vd_I (c : Int)), .int (vd_I (n : Int)), b7, b8] [] (vd_mf M f') Q) ∧ (∀ r', r ≤ r' → r' < n → f' 50 (r' * n + c) = vd_I (vd_hf T C n r' c)) ∧ (∀ k q, (k = 50 → ∀ r', r ≤ r' → r' < n → q ≠ r' * n + c) → f' k q = f k q) := by
  have nq : n * n ≤ 1024 := Nat.mul_le_mul hn.2 hn.2
  have hln : ln < n := by have := hL.2.1.1; omega
  intro m
  induction m with
  | zero =>
    intro r f a7 a8 hr hT h15 hC
    have e : r = n := by omega
    subst e
    refine ⟨f, a7, a8, fun d Q => ?_, fun r' a b => by omega, fun _ _ _ => rfl⟩
    rw [vd_S134_23 hM]
    simp (disch := omega) only [Int.lt_irrefl, if_false]
  | succ m ih =>
    intro r f a7 a8 hr hT h15 hC
    have rn : r < n := by omega
    have c1 : (r : Int) < (n : Int) := by omega
    have e1 : (r : Int) + 1 = ((r + 1 : Nat) : Int) := by omega
    have kn := vd_kn (n := n) (k := r) (c := c) rn hc
    have lk := fun d (Q : vd_M → (Option Value ⊕ Nat) → Prop) => vd_L134k hM hT hn h15 hln hC rn hc d Q (ln + 1) 0 (by omega)
    have s0 : vd_sum (fun k => T k r * C (k * n + c)) 0 = 0 := rfl
    have z0 : ((0 : Nat) : Int) = 0 := rfl
    simp only [s0, z0, Int.add_zero] at lk
    have es : vd_sum (fun k => T k r * C (k * n + c)) (ln + 1) = vd_sum (fun k => T k r * C (k * n + c)) n := by
      have := vd_sum_z (F := fun k => T k r * C (k * n + c)) (m := ln + 1) (n - (ln + 1)) (fun t a b => by
        show T t r * C (t * n + c) = 0
        by_cases e : C (t * n + c) = 0
        · rw [e, Int.mul_zero]
        · have := (hL.2.2 _ (vd_kn (by omega) hc) e).1
          rw [(vd_knd hc).1] at this
          omega)
      rw [show ln + 1 + (n - (ln + 1)) = n by omega] at this
      exact this.symm
    rw [es] at lk
    have sb := vd_sum_c (F := fun k => T k r * C (k * n + c)) (fun t => vd_mulc (hT.2.2.1 _ _).1 (hT.2.2.1 _ _).2 (hL.1 _).1 (hL.1 _).2) n
    have eh : vd_hf T C n r c = vd_wn ((64 + vd_sum (fun k => T k r * C (k * n + c)) n) / 128) (-32768) 32767 := rfl
    have sb2 : -140000000 ≤ vd_sum (fun k => T k r * C (k * n + c)) n ∧ vd_sum (fun k => T k r * C (k * n + c)) n ≤ 140000000 := by omega
    clear sb
    generalize vd_sum (fun k => T k r * C (k * n + c)) n = S at *
    have P58 := fun (f : Nat → Nat → Int32) (d : Nat) (Q : vd_M → (Option Value ⊕ Nat) → Prop) => vd_P58 (a := (64 + S) / 128) (b := -32768) (c := 32767) (f := f) (d := d) (Q := Q) hM (by omega) (by omega) (by omega) (by omega) (by omega) (by omega)
    rw [← eh] at P58
    obtain ⟨f2, b7, b8, p1, p2, p3⟩ := ih (r + 1) (vd_up f 50 (r * n + c) (vd_I (vd_hf T C n r c))) (.int (vd_I (64 + S))) (.int (vd_I ((ln + 1 : Nat) : Int))) (by omega) (hT.keep fun i => vd_up_ne (by have := hT.2.2.2; omega)) (by rw [vd_up_ne (by omega)]; exact h15) (fun p hp => by rw [vd_up_ne (by omega)]; exact hC p hp)
    refine ⟨f2, b7, b8, fun d Q => ?_, fun q a b => ?_, fun k q hq => ?_⟩
    · rw [← p1 d Q, vd_S134_23 hM]
      simp (disch := omega) only [vd_S134_30 hM, lk, vd_S134_82 hM, vd_S134_105 hM, vd_S134_108 hM, vd_I_toInt, c1, if_true, vd_shr7, vd_I_mul, vd_I_add, vd_ixK, Int.toNat_natCast, P58, e1, vd_rs_v, vd_rs_n]
    · by_cases cq : q = r
      · subst cq
        rw [p3 _ _ (fun _ r' a b e => by
          have := (vd_knd (n := n) (k := r') hc).1
          rw [← e, (vd_knd hc).1] at this
          omega), vd_up_eq]
      · exact p2 q (by omega) b
    · rw [p3 k q (fun e r' a b => hq e r' (by omega) b), vd_up_ne (fun e => hq e.1 r (Nat.le_refl _) rn e.2)]
theorem vd_L134c (hM : vd_SC M ow fa lo lf) {lr lc : Int} (hL : vd_NL n C lr lc) (hlr : lr = (ln : Int)) (hlc : lc = (cn : Int)) (hn : 1 ≤ n ∧ n ≤ 32) : ∀ (m c : Nat) (f : Nat → Nat → Int32) (a6 a7 a8 : Value), c + m = cn + 1 → vd_TT M o1 ac st n T f → (f 45 15 = vd_I (ln : Int) ∧ f 45 16 = vd_I (cn : Int)) → (∀ p, p < n * n → f 49 p = vd_I (C p)) → ∃ (f' : Nat → Nat → Int32) (b6 b7 b8 : Value), (∀ d Q, vd_wp (d + 1) 134 11 [.ref 45, .ref o1, .int (vd_I (ac : Int)), .int (vd_I (st : Int)), .int (vd_I (n : Int)), .int (vd_I (c : Int)), a6, a7, a8] [] (vd_mf M f) Q = vd_wp (d + 1) 134 124 [.ref 45, .ref o1, .int (vd_I (ac : Int)), .int (vd_I (st : Int)), .int (vd_I (n : Int)), .int (vd_I 0), b6, b7, b8] [] (vd_mf M f') Q) ∧ (∀ r' c', r' < n → c ≤ c' → c' ≤ cn → f' 50 (r' * n + c') = vd_I (vd_hf T C n r' c')) ∧ (∀ k q, (k = 50 → ∀ r' c', r' < n → c ≤ c' → c' ≤ cn → q ≠ r' * n + c') → f' k q = f k q) := by
  have hcn : cn < n := by have := hL.2.1.2; omega
  intro m
  induction m with
  | zero =>
    intro c f a6 a7 a8 hc hT h15 hC
    have e : c = cn + 1 := by omega
    subst e
    have c1 : (cn : Int) < ((cn + 1 : Nat) : Int) := by omega
    refine ⟨f, a6, a7, a8, fun d Q => ?_, fun r' c' _ a b => by omega, fun _ _ _ => rfl⟩
    rw [vd_S134_11 hM, h15.2]
    simp (disch := omega) only [vd_I_toInt, c1, if_true, vd_S134_121 hM]
  | succ m ih =>
    intro c f a6 a7 a8 hc hT h15 hC
    have c1 : ¬ ((cn : Int) < (c : Int)) := by omega
    have e1 : (c : Int) + 1 = ((c + 1 : Nat) : Int) := by omega
    obtain ⟨f1, b7, b8, p1, p2, p3⟩ := vd_L134r hM hL hlr hn (show c < n by omega) n 0 f a7 a8 (by omega) hT h15.1 hC
    have z0 : ((0 : Nat) : Int) = 0 := rfl
    rw [z0] at p1
    have ne : ∀ k q, k ≠ 50 → f1 k q = f k q := fun k q a => p3 k q (fun e => absurd e a)
    obtain ⟨f2, d6, d7, d8, q1, q2, q3⟩ := ih (c + 1) f1 (.int (vd_I (n : Int))) b7 b8 (by omega) (hT.keep fun i => ne _ _ hT.2.2.2.2) ⟨by rw [ne _ _ (by decide)]; exact h15.1, by rw [ne _ _ (by decide)]; exact h15.2⟩ (fun p hp => by rw [ne _ _ (by decide)]; exact hC p hp)
    refine ⟨f2, d6, d7, d8, fun d Q => ?_, fun r' c' hr a b => ?_, fun k q hq => ?_⟩
    · rw [← q1 d Q, vd_S134_11 hM, h15.2]
      simp (disch := omega) only [vd_S134_20 hM, p1, vd_S134_115 hM, vd_I_toInt, c1, if_false, vd_I_add, e1]
    · by_cases cc : c' = c
      · subst cc
        rw [q3 _ _ (fun _ r2 c2 hr2 a2 b2 e => by
          have := (vd_knd (n := n) (k := r2) (c := c2) (by omega)).2
          rw [← e, (vd_knd (by omega)).2] at this
          omega)]
        exact p2 r' (Nat.zero_le _) hr
      · exact q2 r' c' hr (by omega) b
    · rw [q3 k q (fun e r' c' hr a b => hq e r' c' hr (by omega) b), p3 k q (fun e r' _ hr => hq e r' c hr (Nat.le_refl _) (by omega))]
end VDTF
