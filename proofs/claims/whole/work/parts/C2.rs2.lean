/-! ===== numbers of a square: what stands around, clearing, putting ===== -/
section VDRT
variable {M N : vd_M} {ow fa lo lf : Nat} {f g : Nat → Nat → Int32} {pl s : Nat}
theorem vd_P120 (hM : vd_SC M ow fa lo lf) (hs : vd_stC f) {a : Int} (a0 : 0 ≤ a) (a1 : a ≤ 100000) (d : Nat) (Q : vd_M → (Option Value ⊕ Nat) → Prop) : vd_wp d 120 0 [.int (vd_I a)] [] (vd_mf M f) Q = Q (vd_mf M f) (.inl (some (.int (vd_I (vd_nr a))))) := by
  by_cases c : (10 : Int) < a
  · have e : vd_nr a = 5 := by unfold vd_nr; rw [if_neg (by omega), if_neg (by omega), if_neg (by omega)]
    rw [e]
    simp (disch := omega) only [vd_S120_0 hM, vd_S120_6 hM, vd_S120_23 hM, vd_I_toInt, c, if_true]
  · obtain ⟨j, rfl⟩ := Int.eq_ofNat_of_zero_le a0
    have h := hs.2 j (by omega)
    have c2 : ¬ ((j : Int) < 0) := by omega
    simp (disch := omega) only [vd_S120_0 hM, vd_S120_10 hM, vd_S120_18 hM, vd_S120_22 hM, vd_S120_23 hM, vd_I_toInt, c, c2, if_false, Int.toNat_natCast, h]
theorem vd_P242 (hN : vd_SR N) {a : Int} (a0 : 0 ≤ a) (a1 : a ≤ 100000) (d : Nat) (Q : vd_M → (Option Value ⊕ Nat) → Prop) : vd_wp d 242 0 [.int (vd_I a)] [] (vd_mf N g) Q = Q (vd_mf N g) (.inl (some (.int (vd_I (vd_nr a))))) := by
  by_cases c : a < 3
  · have e : vd_nr a = a := by unfold vd_nr; rw [if_pos c]
    rw [e]
    simp (disch := omega) only [vd_S242_0 hN, vd_S242_5 hN, vd_S242_29 hN, vd_I_toInt, c, if_true]
  · by_cases c2 : a < 5
    · have e : vd_nr a = 3 := by unfold vd_nr; rw [if_neg c, if_pos c2]
      rw [e]
      simp (disch := omega) only [vd_S242_0 hN, vd_S242_9 hN, vd_S242_14 hN, vd_S242_29 hN, vd_I_toInt, c, c2, if_true, if_false]
    · by_cases c3 : a < 11
      · have e : vd_nr a = 4 := by unfold vd_nr; rw [if_neg c, if_neg c2, if_pos c3]
        rw [e]
        simp (disch := omega) only [vd_S242_0 hN, vd_S242_9 hN, vd_S242_18 hN, vd_S242_24 hN, vd_S242_29 hN, vd_I_toInt, c, c2, c3, if_true, if_false]
      · have e : vd_nr a = 5 := by unfold vd_nr; rw [if_neg c, if_neg c2, if_neg c3]
        rw [e]
        simp (disch := omega) only [vd_S242_0 hN, vd_S242_9 hN, vd_S242_18 hN, vd_S242_28 hN, vd_S242_29 hN, vd_I_toInt, c, c2, c3, if_false]
theorem vd_P243 (hN : vd_SR N) {i : Nat} (hi : i < 2000) (d : Nat) (Q : vd_M → (Option Value ⊕ Nat) → Prop) : vd_wp d 243 0 [.int (vd_I (i : Int))] [] (vd_mf N g) Q = Q (vd_mf N g) (.inl (some (.int (vd_I (vd_bd i))))) := by
  by_cases c1 : i < 1
  · have e : vd_bd i = 0 := by unfold vd_bd; rw [if_pos c1]
    have c1' : (i : Int) < 1 := by omega
    rw [e]
    simp (disch := omega) only [vd_S243_0 hN, vd_S243_5 hN, vd_S243_49 hN, vd_I_toInt, c1', if_true]
  · have c1' : ¬ ((i : Int) < 1) := by omega
    by_cases c2 : i < 3
    · have e : vd_bd i = 1 := by unfold vd_bd; rw [if_neg c1, if_pos c2]
      have c2' : (i : Int) < 3 := by omega
      rw [e]
      simp (disch := omega) only [vd_S243_0 hN, vd_S243_9 hN, vd_S243_14 hN, vd_S243_49 hN, vd_I_toInt, c1', c2', if_true, if_false]
    · have c2' : ¬ ((i : Int) < 3) := by omega
      by_cases c3 : i < 6
      · have e : vd_bd i = 2 := by unfold vd_bd; rw [if_neg c1, if_neg c2, if_pos c3]
        have c3' : (i : Int) < 6 := by omega
        rw [e]
        simp (disch := omega) only [vd_S243_0 hN, vd_S243_9 hN, vd_S243_18 hN, vd_S243_24 hN, vd_S243_49 hN, vd_I_toInt, c1', c2', c3', if_true, if_false]
      · have c3' : ¬ ((i : Int) < 6) := by omega
        by_cases c4 : i < 10
        · have e : vd_bd i = 3 := by unfold vd_bd; rw [if_neg c1, if_neg c2, if_neg c3, if_pos c4]
          have c4' : (i : Int) < 10 := by omega
          rw [e]
          simp (disch := omega) only [vd_S243_0 hN, vd_S243_9 hN, vd_S243_18 hN, vd_S243_28 hN, vd_S243_34 hN, vd_S243_49 hN, vd_I_toInt, c1', c2', c3', c4', if_true, if_false]
        · have c4' : ¬ ((i : Int) < 10) := by omega
          by_cases c5 : i < 21
          · have e : vd_bd i = 4 := by unfold vd_bd; rw [if_neg c1, if_neg c2, if_neg c3, if_neg c4, if_pos c5]
            have c5' : (i : Int) < 21 := by omega
            rw [e]
            simp (disch := omega) only [vd_S243_0 hN, vd_S243_9 hN, vd_S243_18 hN, vd_S243_28 hN, vd_S243_38 hN, vd_S243_44 hN, vd_S243_49 hN, vd_I_toInt, c1', c2', c3', c4', c5', if_true, if_false]
          · have e : vd_bd i = 5 := by unfold vd_bd; rw [if_neg c1, if_neg c2, if_neg c3, if_neg c4, if_neg c5]
            have c5' : ¬ ((i : Int) < 21) := by omega
            rw [e]
            simp (disch := omega) only [vd_S243_0 hN, vd_S243_9 hN, vd_S243_18 hN, vd_S243_28 hN, vd_S243_38 hN, vd_S243_48 hN, vd_S243_49 hN, vd_I_toInt, c1', c2', c3', c4', c5', if_false]
theorem vd_P119 (hM : vd_SC M ow fa lo lf) (hst : vd_stC f) (hs : s < 4) (h14 : f 45 14 = vd_I (s : Int)) {k : Nat} {A : Nat → Int} (k0 : 0 < k) (k1 : k < vd_sn s * vd_sn s) (hA : ∀ p, 0 ≤ A p ∧ A p ≤ 40000) (hu : vd_sn s ≤ k → f 48 (k - vd_sn s) = vd_I (A (k - vd_sn s))) (hl : 0 < k % vd_sn s → f 48 (k - 1) = vd_I (A (k - 1))) (d : Nat) (Q : vd_M → (Option Value ⊕ Nat) → Prop) : vd_wp (d + 1) 119 0 [.ref 45, .int (vd_I (k : Int)), vd_U, vd_U, vd_U] [] (vd_mf M f) Q = Q (vd_mf M f) (.inl (some (.int (vd_I (vd_ga A (vd_sn s) k))))) := by
  have hn := vd_nn_v hs
  have nb : 4 ≤ vd_sn s ∧ vd_sn s ≤ 32 ∧ vd_sn s * vd_sn s ≤ 1024 := by rcases hn with ⟨_, e⟩ | ⟨_, e⟩ | ⟨_, e⟩ | ⟨_, e⟩ <;> rw [e] <;> decide
  have sh := vd_sh4 hs
  have a1 := hA (k - vd_sn s)
  have a2 := hA (k - 1)
  have n1 := vd_nr_b a1.1
  have n2 := vd_nr_b a2.1
  have G1 := vd_P120 hM hst a1.1 (by omega)
  have G2 := vd_P120 hM hst a2.1 (by omega)
  have er : vd_I (k : Int) - vd_I (k : Int) / vd_I ((vd_sn s : Nat) : Int) * vd_I ((vd_sn s : Nat) : Int) = vd_I ((k % vd_sn s : Nat) : Int) := by
    rw [vd_I_rem (by omega) (by omega) (by omega) (by omega), Int.natCast_emod]
  have er' := er
  rw [vd_I_div (by omega) (by omega) (by omega) (by omega)] at er'
  have e1 : ((k : Int) - ((vd_sn s : Nat) : Int)).toNat = k - vd_sn s := by omega
  have e2 : ((k : Int) - 1).toNat = k - 1 := by omega
  have ml : k % vd_sn s < vd_sn s := Nat.mod_lt _ (by omega)
  by_cases c1 : vd_sn s ≤ k
  · have c1' : ¬ ((k : Int) < ((vd_sn s : Nat) : Int)) := by omega
    have u := hu c1
    by_cases c2 : 0 < k % vd_sn s
    · have c2' : 0 < ((k % vd_sn s : Nat) : Int) := by omega
      have l := hl c2
      have e : vd_ga A (vd_sn s) k = (1 + vd_nr (A (k - vd_sn s)) + vd_nr (A (k - 1))) / 2 := by unfold vd_ga; rw [if_pos c1, if_pos c2]
      rw [e]
      have d1 : ¬ (A (k - vd_sn s) < 0) := by omega
      have d2 : ¬ (A (k - 1) < 0) := by omega
      generalize A (k - vd_sn s) = au at *
      generalize A (k - 1) = al at *
      simp (disch := omega) only [vd_S119_0 hM, vd_S119_12 hM, vd_S119_19 hM, vd_S119_24 hM, vd_S119_27 hM, vd_S119_31 hM, vd_S119_38 hM, vd_S119_43 hM, vd_S119_55 hM, vd_S119_56 hM, vd_S119_59 hM, vd_S119_69 hM, vd_S119_71 hM, vd_S119_74 hM, h14, sh, er, er', e1, e2, u, l, G1, G2, c1', c2', d1, d2, vd_I_sub, vd_I_add, vd_I_div, vd_I_toInt, if_true, if_false, vd_rs_v, vd_rs_n]
    · have c2' : ¬ (0 < ((k % vd_sn s : Nat) : Int)) := by omega
      have e : vd_ga A (vd_sn s) k = (1 + vd_nr (A (k - vd_sn s)) + vd_nr (A (k - vd_sn s))) / 2 := by unfold vd_ga; rw [if_pos c1, if_neg c2]
      rw [e]
      have d1 : ¬ (A (k - vd_sn s) < 0) := by omega
      generalize A (k - vd_sn s) = au at *
      simp (disch := omega) only [vd_S119_0 hM, vd_S119_12 hM, vd_S119_19 hM, vd_S119_24 hM, vd_S119_27 hM, vd_S119_42 hM, vd_S119_43 hM, vd_S119_55 hM, vd_S119_56 hM, vd_S119_59 hM, vd_S119_65 hM, vd_S119_71 hM, vd_S119_74 hM, h14, sh, er, er', e1, e2, u, G1, c1', c2', d1, show (-1 : Int) < 0 by decide, vd_I_sub, vd_I_add, vd_I_div, vd_I_toInt, if_true, if_false, vd_rs_v, vd_rs_n]
  · have c1' : (k : Int) < ((vd_sn s : Nat) : Int) := by omega
    have km : k % vd_sn s = k := Nat.mod_eq_of_lt (by omega)
    have c2 : 0 < k % vd_sn s := by omega
    have c2' : 0 < ((k % vd_sn s : Nat) : Int) := by omega
    have l := hl c2
    have e : vd_ga A (vd_sn s) k = (1 + vd_nr (A (k - 1)) + vd_nr (A (k - 1))) / 2 := by unfold vd_ga; rw [if_neg c1]
    rw [e]
    have d2 : ¬ (A (k - 1) < 0) := by omega
    generalize A (k - 1) = al at *
    simp (disch := omega) only [vd_S119_0 hM, vd_S119_23 hM, vd_S119_24 hM, vd_S119_27 hM, vd_S119_31 hM, vd_S119_38 hM, vd_S119_43 hM, vd_S119_50 hM, vd_S119_56 hM, vd_S119_59 hM, vd_S119_69 hM, vd_S119_71 hM, vd_S119_74 hM, h14, sh, er, er', e1, e2, l, G2, c1', c2', d2, show (-1 : Int) < 0 by decide, vd_I_sub, vd_I_add, vd_I_div, vd_I_toInt, if_true, if_false, vd_rs_v, vd_rs_n]
theorem vd_P241 (hN : vd_SR N) {n k : Nat} {A : Nat → Int} (n0 : 4 ≤ n ∧ n ≤ 32) (k0 : 0 < k) (k1 : k < n * n) (hA : ∀ p, 0 ≤ A p ∧ A p ≤ 40000) (hg : ∀ p, p < n * n → g 124 p = vd_I (A p)) (d : Nat) (Q : vd_M → (Option Value ⊕ Nat) → Prop) : vd_wp (d + 1) 241 0 [.ref 63, .int (vd_I ((k % n : Nat) : Int)), .int (vd_I ((k / n : Nat) : Int)), .int (vd_I (n : Int)), vd_U, vd_U] [] (vd_mf N g) Q = Q (vd_mf N g) (.inl (some (.int (vd_I (vd_ga A n k))))) := by
  have nq : n * n ≤ 1024 := Nat.mul_le_mul n0.2 n0.2
  have a1 := hA (k - n)
  have a2 := hA (k - 1)
  have n1 := vd_nr_b a1.1
  have n2 := vd_nr_b a2.1
  have G1 := vd_P242 (g := g) hN a1.1 (by omega)
  have G2 := vd_P242 (g := g) hN a2.1 (by omega)
  have dm : n * (k / n) + k % n = k := Nat.div_add_mod k n
  have ml : k % n < n := Nat.mod_lt _ (by omega)
  have dl : k / n ≤ k := Nat.div_le_self k n
  have dmc : k / n * n = n * (k / n) := Nat.mul_comm _ _
  have i1 : ((k / n : Nat) : Int) * (n : Int) = ((k / n * n : Nat) : Int) := (Int.natCast_mul _ _).symm
  have e2 : ((k / n : Nat) : Int) * (n : Int) + ((k % n : Nat) : Int) - 1 = ((k - 1 : Nat) : Int) := by rw [i1]; omega
  by_cases c1 : n ≤ k
  · have q1 : 0 < k / n := Nat.div_pos c1 (by omega)
    have q1' : 0 < ((k / n : Nat) : Int) := by omega
    have e1 : (((k / n : Nat) : Int) - 1) * (n : Int) + ((k % n : Nat) : Int) = ((k - n : Nat) : Int) := by rw [Int.sub_mul, i1, Int.one_mul]; omega
    have u := hg (k - n) (by omega)
    by_cases c2 : 0 < k % n
    · have c2' : 0 < ((k % n : Nat) : Int) := by omega
      have l := hg (k - 1) (by omega)
      have e : vd_ga A n k = (1 + vd_nr (A (k - n)) + vd_nr (A (k - 1))) / 2 := by unfold vd_ga; rw [if_pos c1, if_pos c2]
      rw [e]
      have d1 : ¬ (A (k - n) < 0) := by omega
      have d2 : ¬ (A (k - 1) < 0) := by omega
      generalize A (k - n) = au at *
      generalize A (k - 1) = al at *
      simp (disch := omega) only [vd_S241_0 hN, vd_S241_4 hN, vd_S241_15 hN, vd_S241_20 hN, vd_S241_26 hN, vd_S241_37 hN, vd_S241_42 hN, vd_S241_53 hN, vd_S241_62 hN, vd_S241_65 hN, vd_S241_68 hN, vd_S241_71 hN, vd_S241_74 hN, e1, e2, Int.toNat_natCast, u, l, G1, G2, q1', c2', d1, d2, vd_I_sub, vd_I_add, vd_I_mul, vd_I_div, vd_I_toInt, if_true, if_false, vd_rs_v, vd_rs_n]
    · have c2' : ¬ (0 < ((k % n : Nat) : Int)) := by omega
      have e : vd_ga A n k = (1 + vd_nr (A (k - n)) + vd_nr (A (k - n))) / 2 := by unfold vd_ga; rw [if_pos c1, if_neg c2]
      rw [e]
      have d1 : ¬ (A (k - n) < 0) := by omega
      generalize A (k - n) = au at *
      simp (disch := omega) only [vd_S241_0 hN, vd_S241_4 hN, vd_S241_15 hN, vd_S241_20 hN, vd_S241_41 hN, vd_S241_42 hN, vd_S241_53 hN, vd_S241_58 hN, vd_S241_62 hN, vd_S241_65 hN, vd_S241_68 hN, vd_S241_71 hN, vd_S241_74 hN, e1, Int.toNat_natCast, u, G1, q1', c2', d1, show (-1 : Int) < 0 by decide, vd_I_sub, vd_I_add, vd_I_mul, vd_I_div, vd_I_toInt, if_true, if_false, vd_rs_v, vd_rs_n]
  · have q1 : k / n = 0 := Nat.div_eq_of_lt (by omega)
    have q1' : ¬ (0 < ((k / n : Nat) : Int)) := by omega
    have km : k % n = k := Nat.mod_eq_of_lt (by omega)
    have c2' : 0 < ((k % n : Nat) : Int) := by omega
    have l := hg (k - 1) (by omega)
    have e : vd_ga A n k = (1 + vd_nr (A (k - 1)) + vd_nr (A (k - 1))) / 2 := by unfold vd_ga; rw [if_neg c1]
    rw [e]
    have d2 : ¬ (A (k - 1) < 0) := by omega
    generalize A (k - 1) = al at *
    simp (disch := omega) only [vd_S241_0 hN, vd_S241_19 hN, vd_S241_20 hN, vd_S241_26 hN, vd_S241_37 hN, vd_S241_42 hN, vd_S241_49 hN, vd_S241_53 hN, vd_S241_62 hN, vd_S241_65 hN, vd_S241_68 hN, vd_S241_71 hN, vd_S241_74 hN, e2, Int.toNat_natCast, l, G2, q1', c2', d2, show (-1 : Int) < 0 by decide, vd_I_sub, vd_I_add, vd_I_mul, vd_I_div, vd_I_toInt, if_true, if_false, vd_rs_v, vd_rs_n]
/-- numbers are cleared -/
theorem vd_P121 (hM : vd_SC M ow fa lo lf) {t : Nat} (ht : t ≤ 1024) (d : Nat) (Q : vd_M → (Option Value ⊕ Nat) → Prop) : vd_wp (d + 2) 121 0 [.ref 45, .int (vd_I (t : Int))] [] (vd_mf M f) Q = Q (vd_mf M (vd_up (vd_up (vd_uf f 49 0 t (vd_I 0)) 45 15 (vd_I 0)) 45 16 (vd_I 0))) (.inl none) := by
  have F := fun (d : Nat) (Q : vd_M → (Option Value ⊕ Nat) → Prop) => vd_F290 (M := M) (f := f) (d := d) (Q := Q) (o := 49) (len := 1024) (a := 0) (b := t) (x := vd_I 0) (by decide) hM.k49 hM.l49 (by decide) (Nat.zero_le _) ht
  have z0 : ((0 : Nat) : Int) = 0 := rfl
  rw [z0] at F
  simp (disch := omega) only [vd_S121_0 hM, vd_S121_7 hM, vd_S121_10 hM, F, vd_rs_v, vd_rs_n]
/-- a number is put -/
theorem vd_P122 (hM : vd_SC M ow fa lo lf) (hpl : pl < 3) (hs : s < 4) {k : Nat} {v qn lr lc : Int} (h11 : f 45 11 = vd_I (pl : Int)) (h14 : f 45 14 = vd_I (s : Int)) (k1 : k < vd_sn s * vd_sn s) (v0 : -40000 ≤ v ∧ v ≤ 40000) (hq : f 51 ((if pl = 0 then 0 else 2) + (if k = 0 then 0 else 1)) = vd_I qn) (q0 : 1 ≤ qn ∧ qn ≤ 1300) (hr : f 45 15 = vd_I lr) (hc : f 45 16 = vd_I lc) (r0 : 0 ≤ lr ∧ lr ≤ 100) (c0 : 0 ≤ lc ∧ lc ≤ 100) (d : Nat) (Q : vd_M → (Option Value ⊕ Nat) → Prop) : vd_wp (d + 1) 122 0 [.ref 45, .int (vd_I (k : Int)), .int (vd_I v), vd_U] [] (vd_mf M f) Q = Q (vd_mf M (vd_up (vd_up (vd_up (vd_up f 49 k (vd_I (vd_wn (v * qn) (-32768) 32767))) 45 15 (vd_I (max lr ((k / vd_sn s : Nat) : Int)))) 45 16 (vd_I (max lc ((k % vd_sn s : Nat) : Int)))) 45 3 (f 45 3 + vd_I 1))) (.inl none) := by
  have hn := vd_nn_v hs
  have nb : 4 ≤ vd_sn s ∧ vd_sn s ≤ 32 ∧ vd_sn s * vd_sn s ≤ 1024 := by rcases hn with ⟨_, e⟩ | ⟨_, e⟩ | ⟨_, e⟩ | ⟨_, e⟩ <;> rw [e] <;> decide
  have sh := vd_sh4 hs
  have shr := vd_atsh (at' := k) hs (by omega)
  have han := vd_atand (at' := k) hs
  have ml : k % vd_sn s < vd_sn s := Nat.mod_lt _ (by omega)
  have dl : k / vd_sn s ≤ k := Nat.div_le_self k _
  generalize k / vd_sn s = kd at *
  generalize k % vd_sn s = km at *
  have vq : -52000000 ≤ v * qn ∧ v * qn ≤ 52000000 := by
    have h1 : v * qn ≤ 40000 * qn := Int.mul_le_mul_of_nonneg_right v0.2 (by omega)
    have h2 : -40000 * qn ≤ v * qn := Int.mul_le_mul_of_nonneg_right v0.1 (by omega)
    omega
  have P58 := fun (f : Nat → Nat → Int32) (d : Nat) (Q : vd_M → (Option Value ⊕ Nat) → Prop) => vd_P58 (a := v * qn) (b := -32768) (c := 32767) (f := f) (d := d) (Q := Q) hM (by omega) (by omega) (by omega) (by omega) (by omega) (by omega)
  have Pr := fun (f : Nat → Nat → Int32) (d : Nat) (Q : vd_M → (Option Value ⊕ Nat) → Prop) => vd_P287 (M := M) (a := lr) (b := (kd : Int)) (f := f) (d := d) (Q := Q) (by omega) (by omega) (by omega) (by omega)
  have Pc := fun (f : Nat → Nat → Int32) (d : Nat) (Q : vd_M → (Option Value ⊕ Nat) → Prop) => vd_P287 (M := M) (a := lc) (b := (km : Int)) (f := f) (d := d) (Q := Q) (by omega) (by omega) (by omega) (by omega)
  have U1 : ∀ (f : Nat → Nat → Int32) (i j : Nat) (v : Int32), vd_up f 49 i v 45 j = f 45 j := fun f i j v => vd_up_ne (by omega)
  have U2 : ∀ (f : Nat → Nat → Int32) (v : Int32), vd_up f 45 15 v 45 16 = f 45 16 := fun f v => vd_up_ne (by omega)
  have U3 : ∀ (f : Nat → Nat → Int32) (v : Int32), vd_up f 45 15 v 45 14 = f 45 14 := fun f v => vd_up_ne (by omega)
  have U4 : ∀ (f : Nat → Nat → Int32) (v : Int32), vd_up f 45 15 v 45 3 = f 45 3 := fun f v => vd_up_ne (by omega)
  have U5 : ∀ (f : Nat → Nat → Int32) (v : Int32), vd_up f 45 16 v 45 3 = f 45 3 := fun f v => vd_up_ne (by omega)
  by_cases cp : pl = 0
  · have cp' : ((pl : Nat) : Int) = 0 := by omega
    rw [if_pos cp] at hq
    by_cases ck : k = 0
    · have ck' : ((k : Nat) : Int) = 0 := by omega
      rw [if_pos ck] at hq
      have hq : f 51 (0 + 0 : Int).toNat = vd_I qn := hq
      have ck2 : (vd_I ((k : Nat) : Int)).toInt = 0 := by rw [vd_I_toInt (by omega) (by omega)]; exact ck'
      have cp2 : (vd_I ((pl : Nat) : Int)).toInt = 0 := by rw [vd_I_toInt (by omega) (by omega)]; exact cp'
      simp (disch := omega) only [vd_S122_0 hM, vd_S122_11 hM, vd_S122_16 hM, vd_S122_20 hM, vd_S122_25 hM, vd_S122_26 hM, vd_S122_42 hM, vd_S122_45 hM, vd_S122_59 hM, vd_S122_62 hM, vd_S122_80 hM, vd_S122_83 hM, h11, h14, hq, hr, hc, ck2, cp2, eq_self, if_true, sh, shr, han, P58, Pr, Pc, U1, U2, U3, U4, U5, vd_I_add, vd_I_sub, vd_I_mul, Int.toNat_natCast, vd_rs_v, vd_rs_n]
    · have ck2 : ¬ ((vd_I ((k : Nat) : Int)).toInt = 0) := by rw [vd_I_toInt (by omega) (by omega)]; omega
      have cp2 : (vd_I ((pl : Nat) : Int)).toInt = 0 := by rw [vd_I_toInt (by omega) (by omega)]; exact cp'
      rw [if_neg ck] at hq
      have hq : f 51 (0 + 1 : Int).toNat = vd_I qn := hq
      simp (disch := omega) only [vd_S122_0 hM, vd_S122_11 hM, vd_S122_16 hM, vd_S122_24 hM, vd_S122_25 hM, vd_S122_26 hM, vd_S122_42 hM, vd_S122_45 hM, vd_S122_59 hM, vd_S122_62 hM, vd_S122_80 hM, vd_S122_83 hM, h11, h14, hq, hr, hc, ck2, cp2, eq_self, if_true, if_false, sh, shr, han, P58, Pr, Pc, U1, U2, U3, U4, U5, vd_I_add, vd_I_sub, vd_I_mul, Int.toNat_natCast, vd_rs_v, vd_rs_n]
  · have cp2 : ¬ ((vd_I ((pl : Nat) : Int)).toInt = 0) := by rw [vd_I_toInt (by omega) (by omega)]; omega
    rw [if_neg cp] at hq
    by_cases ck : k = 0
    · have ck2 : (vd_I ((k : Nat) : Int)).toInt = 0 := by rw [vd_I_toInt (by omega) (by omega)]; omega
      rw [if_pos ck] at hq
      have hq : f 51 (2 + 0 : Int).toNat = vd_I qn := hq
      simp (disch := omega) only [vd_S122_0 hM, vd_S122_15 hM, vd_S122_16 hM, vd_S122_20 hM, vd_S122_25 hM, vd_S122_26 hM, vd_S122_42 hM, vd_S122_45 hM, vd_S122_59 hM, vd_S122_62 hM, vd_S122_80 hM, vd_S122_83 hM, h11, h14, hq, hr, hc, ck2, cp2, eq_self, if_true, if_false, sh, shr, han, P58, Pr, Pc, U1, U2, U3, U4, U5, vd_I_add, vd_I_sub, vd_I_mul, Int.toNat_natCast, vd_rs_v, vd_rs_n]
    · have ck2 : ¬ ((vd_I ((k : Nat) : Int)).toInt = 0) := by rw [vd_I_toInt (by omega) (by omega)]; omega
      rw [if_neg ck] at hq
      have hq : f 51 (2 + 1 : Int).toNat = vd_I qn := hq
      simp (disch := omega) only [vd_S122_0 hM, vd_S122_15 hM, vd_S122_16 hM, vd_S122_24 hM, vd_S122_25 hM, vd_S122_26 hM, vd_S122_42 hM, vd_S122_45 hM, vd_S122_59 hM, vd_S122_62 hM, vd_S122_80 hM, vd_S122_83 hM, h11, h14, hq, hr, hc, ck2, cp2, eq_self, if_false, sh, shr, han, P58, Pr, Pc, U1, U2, U3, U4, U5, vd_I_add, vd_I_sub, vd_I_mul, Int.toNat_natCast, vd_rs_v, vd_rs_n]
end VDRT
