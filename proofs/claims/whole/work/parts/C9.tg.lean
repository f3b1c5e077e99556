/-! ===== transforms: the class, rows ===== -/
section VDTG
variable {M : vd_M} {ow fa lo lf o1 ac st n : Nat} {T : Nat → Nat → Int} {C : Nat → Int} {ln cn : Nat}
theorem vd_L134m (hM : vd_SC M ow fa lo lf) {f : Nat → Nat → Int32} (hT : vd_TT M o1 ac st n T f) (hn : 1 ≤ n ∧ n ≤ 32) (h16 : f 45 16 = vd_I (cn : Int)) (hcn : cn < n) {r c : Nat} (hr : r < n) (hc : c < n) (hH : ∀ k, k ≤ cn → f 50 (r * n + k) = vd_I (vd_hf T C n r k)) (d : Nat) (Q : vd_M → (Option Value ⊕ Nat) → Prop) : ∀ (m j : Nat), j + m = cn + 1 → vd_wp d 134 149 [.ref 45, .ref o1, .int (vd_I (ac : Int)), .int (vd_I (st : Int)), .int (vd_I (n : Int)), .int (vd_I (r : Int)), .int (vd_I (c : Int)), .int (vd_I (2048 + vd_sum (fun k => T k c * vd_hf T C n r k) j)), .int (vd_I (j : Int))] [] (vd_mf M f) Q = vd_wp d 134 194 [.ref 45, .ref o1, .int (vd_I (ac : Int)), .int (vd_I (st : Int)), .int (vd_I (n : Int)), .int (vd_I (r : Int)), .int (vd_I (c : Int)), .int (vd_I (2048 + vd_sum (fun k => T k c * vd_hf T C n r k) (cn + 1))), .int (vd_I ((cn + 1 : Nat) : Int))] [] (vd_mf M f) Q := by
  have nq : n * n ≤ 1024 := Nat.mul_le_mul hn.2 hn.2
  obtain ⟨⟨tk, tl⟩, tv, tb, _⟩ := hT
  intro m
  induction m with
  | zero =>
    intro j hj
    have e : j = cn + 1 := by omega
    subst e
    have c1 : (cn : Int) < ((cn + 1 : Nat) : Int) := by omega
    rw [vd_S134_149 hM, h16]
    simp (disch := omega) only [vd_I_toInt, c1, if_true]
  | succ m ih =>
    intro j hj
    have c1 : ¬ ((cn : Int) < (j : Int)) := by omega
    have e1 : (j : Int) + 1 = ((j + 1 : Nat) : Int) := by omega
    have kn := vd_kn (n := n) (k := r) (c := j) hr (by omega)
    obtain ⟨t1, t2⟩ := tv j c (by omega) hc
    have e2 : 2048 + vd_sum (fun k => T k c * vd_hf T C n r k) j + T j c * vd_hf T C n r j = 2048 + vd_sum (fun k => T k c * vd_hf T C n r k) (j + 1) := Int.add_assoc _ _ _
    have cv := hH j (by omega)
    rw [← ih (j + 1) (by omega), vd_S134_149 hM, h16]
    simp (disch := first | assumption | omega) only [vd_S134_158 hM, vd_S134_170 hM, vd_S134_183 hM, vd_I_toInt, c1, if_false, vd_I_mul, vd_I_add, vd_ixT, vd_ixK, Int.toNat_natCast, t2, cv, e1, e2]
theorem vd_L134x (hM : vd_SC M ow fa lo lf) {lr lc : Int} (hL : vd_NL n C lr lc) (hlc : lc = (cn : Int)) (hn : 1 ≤ n ∧ n ≤ 32) {r : Nat} (hr : r < n) : ∀ (m c : Nat) (f : Nat → Nat → Int32) (a7 a8 : Value), c + m = n → vd_TT M o1 ac st n T f → f 45 16 = vd_I (cn : Int) → (∀ k, k ≤ cn → f 50 (r * n + k) = vd_I (vd_hf T C n r k)) → ∃ (f' : Nat → Nat → Int32) (b7 b8 : Value), (∀ d Q, vd_wp d 134 134 [.ref 45, .ref o1, .int (vd_I (ac : Int)), .int (vd_I (st : Int)), .int (vd_I (n : Int)), .int (vd_I (r : Int)), .int (vd_I (c : Int)), a7, a8] [] (vd_mf M f) Q = vd_wp d 134 218 [.ref 45, .ref o1, .int (vd_I (ac : Int)), .int (vd_I (st : Int)), .int (vd_I (n : Int)), .int (vd_I (r : Int)), .int (vd_I (n : Int)), b7, b8] [] (vd_mf M f') Q) ∧ (∀ c', c ≤ c' → c' < n → f' 49 (r * n + c') = vd_I (vd_ou T C n r c')) ∧ (∀ k q, (k = 49 → ∀ c', c ≤ c' → c' < n → q ≠ r * n + c') → f' k q = f k q) := by
  have nq : n * n ≤ 1024 := Nat.mul_le_mul hn.2 hn.2
  have hcn : cn < n := by have := hL.2.1.2; omega
  intro m
  induction m with
  | zero =>
    intro c f a7 a8 hc hT h16 hH
    have e : c = n := by omega
    subst e
    refine ⟨f, a7, a8, fun d Q => ?_, fun r' a b => by omega, fun _ _ _ => rfl⟩
    rw [vd_S134_134 hM]
    simp (disch := omega) only [Int.lt_irrefl, if_false]
  | succ m ih =>
    intro c f a7 a8 hc hT h16 hH
    have cn' : c < n := by omega
    have c1 : (c : Int) < (n : Int) := by omega
    have e1 : (c : Int) + 1 = ((c + 1 : Nat) : Int) := by omega
    have kn := vd_kn (n := n) (k := r) (c := c) hr cn'
    have lk := fun d (Q : vd_M → (Option Value ⊕ Nat) → Prop) => vd_L134m hM hT hn h16 hcn hr cn' hH d Q (cn + 1) 0 (by omega)
    have s0 : vd_sum (fun k => T k c * vd_hf T C n r k) 0 = 0 := rfl
    have z0 : ((0 : Nat) : Int) = 0 := rfl
    simp only [s0, z0, Int.add_zero] at lk
    have es : vd_sum (fun k => T k c * vd_hf T C n r k) (cn + 1) = vd_sum (fun k => T k c * vd_hf T C n r k) n := by
      have := vd_sum_z (F := fun k => T k c * vd_hf T C n r k) (m := cn + 1) (n - (cn + 1)) (fun t a b => by
        show T t c * vd_hf T C n r t = 0
        rw [vd_hf_z hL (show t < n by omega) (by omega), Int.mul_zero])
      rw [show cn + 1 + (n - (cn + 1)) = n by omega] at this
      exact this.symm
    rw [es] at lk
    have sb := vd_sum_c (F := fun k => T k c * vd_hf T C n r k) (fun t => vd_mulc (hT.2.2.1 _ _).1 (hT.2.2.1 _ _).2 (vd_hf_b _ _ _ _ _).1 (vd_hf_b _ _ _ _ _).2) n
    have eh : vd_ou T C n r c = (2048 + vd_sum (fun k => T k c * vd_hf T C n r k) n) / 4096 := rfl
    have sb2 : -140000000 ≤ vd_sum (fun k => T k c * vd_hf T C n r k) n ∧ vd_sum (fun k => T k c * vd_hf T C n r k) n ≤ 140000000 := by omega
    clear sb
    obtain ⟨f2, b7, b8, p1, p2, p3⟩ := ih (c + 1) (vd_up f 49 (r * n + c) (vd_I (vd_ou T C n r c))) (.int (vd_I (2048 + vd_sum (fun k => T k c * vd_hf T C n r k) n))) (.int (vd_I ((cn + 1 : Nat) : Int))) (by omega) (hT.keep fun i => vd_up_ne (by have := hT.2.2.2; omega)) (by rw [vd_up_ne (by omega)]; exact h16) (fun k hk => by rw [vd_up_ne (by omega)]; exact hH k hk)
    rw [eh] at p1 p3
    generalize vd_sum (fun k => T k c * vd_hf T C n r k) n = S at *
    refine ⟨f2, b7, b8, fun d Q => ?_, fun q a b => ?_, fun k q hq => ?_⟩
    · rw [← p1 d Q, vd_S134_134 hM]
      simp (disch := omega) only [vd_S134_141 hM, lk, vd_S134_194 hM, vd_S134_211 hM, vd_I_toInt, c1, if_true, vd_shr12, vd_I_mul, vd_I_add, vd_ixK, Int.toNat_natCast, e1]
    · by_cases cq : q = c
      · subst cq
        rw [p3 _ _ (fun _ c' a b e => by
          have := (vd_knd (n := n) (k := r) (c := c') (by omega)).2
          rw [← e, (vd_knd (by omega)).2] at this
          omega), vd_up_eq, eh]
      · exact p2 q (by omega) b
    · rw [p3 k q (fun e c' a b => hq e c' (by omega) b), vd_up_ne (fun e => hq e.1 c (Nat.le_refl _) cn' e.2)]
theorem vd_L134y (hM : vd_SC M ow fa lo lf) {lr lc : Int} (hL : vd_NL n C lr lc) (hlc : lc = (cn : Int)) (hn : 1 ≤ n ∧ n ≤ 32) : ∀ (m r : Nat) (f : Nat → Nat → Int32) (a6 a7 a8 : Value), r + m = n → vd_TT M o1 ac st n T f → f 45 16 = vd_I (cn : Int) → (∀ r' k, r' < n → k ≤ cn → f 50 (r' * n + k) = vd_I (vd_hf T C n r' k)) → ∃ (f' : Nat → Nat → Int32), (∀ d Q, vd_wp d 134 124 [.ref 45, .ref o1, .int (vd_I (ac : Int)), .int (vd_I (st : Int)), .int (vd_I (n : Int)), .int (vd_I (r : Int)), a6, a7, a8] [] (vd_mf M f) Q = Q (vd_mf M f') (.inl none)) ∧ (∀ r' c', r ≤ r' → r' < n → c' < n → f' 49 (r' * n + c') = vd_I (vd_ou T C n r' c')) ∧ (∀ k q, k ≠ 49 → f' k q = f k q) ∧ (∀ q, (∀ r' c', r ≤ r' → r' < n → c' < n → q ≠ r' * n + c') → f' 49 q = f 49 q) := by
  intro m
  induction m with
  | zero =>
    intro r f a6 a7 a8 hr hT h16 hH
    have e : r = n := by omega
    subst e
    refine ⟨f, fun d Q => ?_, fun r' c' a b => by omega, fun _ _ _ => rfl, fun _ _ => rfl⟩
    rw [vd_S134_124 hM]
    simp (disch := omega) only [Int.lt_irrefl, if_false, vd_S134_224 hM]
  | succ m ih =>
    intro r f a6 a7 a8 hr hT h16 hH
    have rn : r < n := by omega
    have c1 : (r : Int) < (n : Int) := by omega
    have e1 : (r : Int) + 1 = ((r + 1 : Nat) : Int) := by omega
    obtain ⟨f1, b7, b8, p1, p2, p3⟩ := vd_L134x hM hL hlc hn rn n 0 f a7 a8 (by omega) hT h16 (fun k hk => hH r k rn hk)
    have z0 : ((0 : Nat) : Int) = 0 := rfl
    rw [z0] at p1
    have ne : ∀ k q, k ≠ 49 → f1 k q = f k q := fun k q a => p3 k q (fun e => absurd e a)
    obtain ⟨f2, q1, q2, q3, q4⟩ := ih (r + 1) f1 (.int (vd_I (n : Int))) b7 b8 (by omega) (hT.keep fun i => ne _ _ hT.2.2.2.1) (by rw [ne _ _ (by decide)]; exact h16) (fun r' k a b => by rw [ne _ _ (by decide)]; exact hH r' k a b)
    refine ⟨f2, fun d Q => ?_, fun r' c' a b hc => ?_, fun k q hq => by rw [q3 k q hq, ne k q hq], fun q hq => ?_⟩
    · rw [← q1 d Q, vd_S134_124 hM]
      simp (disch := omega) only [vd_S134_131 hM, p1, vd_S134_218 hM, vd_I_toInt, c1, if_true, vd_I_add, e1]
    · by_cases cc : r' = r
      · subst cc
        rw [q4 _ (fun r2 c2 a2 b2 hc2 e => by
          have := (vd_knd (n := n) (k := r2) (c := c2) hc2).1
          rw [← e, (vd_knd hc).1] at this
          omega)]
        exact p2 c' (Nat.zero_le _) hc
      · exact q2 r' c' (by omega) b hc
    · rw [q4 q (fun r' c' a b hc => hq r' c' (by omega) b hc), p3 49 q (fun _ c' _ hc => hq r c' (Nat.le_refl _) rn hc)]
theorem vd_P134 (hM : vd_SC M ow fa lo lf) {s : Nat} {f : Nat → Nat → Int32} {lr lc : Int} (hs : s < 4) (h14 : f 45 14 = vd_I (s : Int)) (hL : vd_NL (vd_sn s) C lr lc) (hT : vd_TT M o1 ac st (vd_sn s) T f) (h15 : f 45 15 = vd_I lr) (h16 : f 45 16 = vd_I lc) (hC : ∀ p, p < vd_sn s * vd_sn s → f 49 p = vd_I (C p)) : ∃ (f' : Nat → Nat → Int32), (∀ d Q, vd_wp (d + 1) 134 0 [.ref 45, .ref o1, .int (vd_I (ac : Int)), .int (vd_I (st : Int)), vd_U, vd_U, vd_U, vd_U, vd_U] [] (vd_mf M f) Q = Q (vd_mf M f') (.inl none)) ∧ (∀ r c, r < vd_sn s → c < vd_sn s → f' 49 (r * vd_sn s + c) = vd_I (vd_ou T C (vd_sn s) r c)) ∧ (∀ k q, k ≠ 49 → k ≠ 50 → f' k q = f k q) := by
  have nb := vd_nnb hs
  obtain ⟨ln, e1⟩ := Int.eq_ofNat_of_zero_le hL.2.1.1.1
  obtain ⟨cn, e2⟩ := Int.eq_ofNat_of_zero_le hL.2.1.2.1
  obtain ⟨f1, b6, b7, b8, p1, p2, p3⟩ := vd_L134c (ln := ln) (cn := cn) hM hL e1 e2 ⟨by omega, nb.2.1⟩ (cn + 1) 0 f vd_U vd_U vd_U (by omega) hT ⟨by rw [← e1]; exact h15, by rw [← e2]; exact h16⟩ hC
  have ne : ∀ k q, k ≠ 50 → f1 k q = f k q := fun k q a => p3 k q (fun e => absurd e a)
  obtain ⟨f2, q1, q2, q3, q4⟩ := vd_L134y (cn := cn) (T := T) (C := C) hM hL e2 ⟨by omega, nb.2.1⟩ (vd_sn s) 0 f1 b6 b7 b8 (by omega) (hT.keep fun i => ne _ _ hT.2.2.2.2) (by rw [ne _ _ (by decide), ← e2]; exact h16) (fun r' k a b => p2 r' k a (Nat.zero_le _) b)
  have z0 : ((0 : Nat) : Int) = 0 := rfl
  rw [z0] at p1 q1
  refine ⟨f2, fun d Q => ?_, fun r c a b => q2 r c (Nat.zero_le _) a b, fun k q a b => by rw [q3 k q a, ne k q b]⟩
  have sh := vd_sh4 hs
  rw [vd_S134_0 hM, h14, sh, p1, q1]
end VDTG
