/-! ===== the same in the reference ===== -/
section VDOG
variable {M N : vd_M} {g : Nat → Nat → Int32} {s : vd_FT} {S : Nat → Int} {b : Nat → Int} {r : Int} {U o1 o2 o3 i : Nat}
def vd_oo (N : vd_M) (o : Nat) : Prop := (o ≠ 63 ∧ o ≠ 120 ∧ o ≠ 121) ∧ vd_k N o = 32 ∧ vd_l N o = 1152
theorem vd_T213 (hN : vd_SR N) (k1 : vd_oo N o1) (k2 : vd_oo N o2) (k3 : vd_oo N o3) {its x y : Int} (h1 : g o1 (2 * U + i) = vd_I its) (h2 : g o2 (2 * U + i) = vd_I x) (h3 : g o3 (2 * U + i) = vd_I y) (hv : vd_FV s) (h : vd_FSB s g) (hU : U < 576) (r0 : 0 ≤ r) (r1 : r ≤ 2) (hi : i < 2) (i0 : -1 ≤ its) (i1 : its ≤ 2) (x0 : -20000 ≤ x) (x1 : x ≤ 20000) (y0 : -20000 ≤ y) (y1 : y ≤ 20000) : ∃ g', (∀ d Q, vd_wp (d + 1) 213 3 [.ref 63, .ref o1, .ref o2, .ref o3, .int (vd_I (U : Int)), .int (vd_I r), .int (vd_I (i : Int))] [] (vd_mf N g) Q = vd_wp (d + 1) 213 3 [.ref 63, .ref o1, .ref o2, .ref o3, .int (vd_I (U : Int)), .int (vd_I r), .int (vd_I ((i : Int) + 1))] [] (vd_mf N g') Q) ∧ vd_FSB (vd_of1 S r 1 its x y s) g' ∧ vd_gF g g' := by
  have e1 : (2 * (U : Int) + (i : Int)).toNat = 2 * U + i := by omega
  have ci : (i : Int) < 2 := by omega
  have q1 := k1.2.1
  have q2 := k2.2.1
  have q3 := k3.2.1
  have l1 := k1.2.2
  have l2 := k2.2.2
  have l3 := k3.2.2
  by_cases c : its = r
  · obtain ⟨g', p1, p2, p3⟩ := vd_P214 hN hv h x0 x1 y0 y1
    refine ⟨g', fun d Q => ?_, ?_, p3⟩
    · conv => lhs; rw [vd_S213_3 hN]
      simp (disch := first | assumption | omega) only [vd_S213_0 hN, vd_S213_9 hN, vd_S213_23 hN, vd_S213_45 hN, vd_S213_51 hN, vd_S213_17 hN, vd_S213_32 hN, vd_S213_41 hN, vd_S213_42 hN, vd_I_add, vd_I_mul, vd_I_toInt, e1, h1, h2, h3, ci, eq_true c, if_true, p1, vd_rs_v, vd_rs_n]
    · unfold vd_of1
      have ct : vd_trn S r its = 1 := by unfold vd_trn; rw [c, if_pos rfl]
      rw [if_pos ⟨by omega, fun _ => rfl, fun _ => c⟩, ct, Int.one_mul, Int.one_mul]
      exact p2
  · refine ⟨g, fun d Q => ?_, ?_, fun _ _ _ _ _ => rfl⟩
    · conv => lhs; rw [vd_S213_3 hN]
      simp (disch := first | assumption | omega) only [vd_S213_0 hN, vd_S213_9 hN, vd_S213_23 hN, vd_S213_45 hN, vd_S213_51 hN, vd_S213_17 hN, vd_S213_32 hN, vd_S213_41 hN, vd_S213_42 hN, vd_I_add, vd_I_mul, vd_I_toInt, e1, h1, ci, eq_false c, if_true, if_false]
    · unfold vd_of1
      rw [if_neg (fun q => c (q.2.mpr rfl))]
      exact h
theorem vd_T215 (hN : vd_SR N) (k1 : vd_oo N o1) (k2 : vd_oo N o2) (k3 : vd_oo N o3) (hS : ∀ j, j < 3 → g 84 j = vd_I (S j)) (hSv : ∀ j, j < 3 → S j = 0 ∨ S j = 1) {its x y : Int} (h1 : g o1 (2 * U + i) = vd_I its) (h2 : g o2 (2 * U + i) = vd_I x) (h3 : g o3 (2 * U + i) = vd_I y) (hv : vd_FV s) (h : vd_FSB s g) (hU : U < 576) (r0 : 0 ≤ r) (r1 : r ≤ 2) (hi : i < 2) (i0 : -1 ≤ its) (i1 : its ≤ 2) (x0 : -20000 ≤ x) (x1 : x ≤ 20000) (y0 : -20000 ≤ y) (y1 : y ≤ 20000) (a7 a8 : Value) : ∃ g' a7' a8', (∀ d Q, vd_wp (d + 1) 215 3 [.ref 63, .ref o1, .ref o2, .ref o3, .int (vd_I (U : Int)), .int (vd_I r), .int (vd_I (i : Int)), a7, a8] [] (vd_mf N g) Q = vd_wp (d + 1) 215 3 [.ref 63, .ref o1, .ref o2, .ref o3, .int (vd_I (U : Int)), .int (vd_I r), .int (vd_I ((i : Int) + 1)), a7', a8'] [] (vd_mf N g') Q) ∧ vd_FSB (vd_of1 S r 0 its x y s) g' ∧ vd_gF g g' := by
  have e1 : (2 * (U : Int) + (i : Int)).toNat = 2 * U + i := by omega
  have ci : (i : Int) < 2 := by omega
  have q1 := k1.2.1
  have q2 := k2.2.1
  have q3 := k3.2.1
  have l1 := k1.2.2
  have l2 := k2.2.2
  have l3 := k3.2.2
  by_cases c0 : its < 0
  · refine ⟨g, .int (vd_I its), a8, fun d Q => ?_, ?_, fun _ _ _ _ _ => rfl⟩
    · conv => lhs; rw [vd_S215_3 hN]
      simp (disch := first | assumption | omega) only [vd_S215_0 hN, vd_S215_9 hN, vd_S215_25 hN, vd_S215_32 hN, vd_S215_35 hN, vd_S215_52 hN, vd_S215_56 hN, vd_S215_57 hN, vd_S215_87 hN, vd_S215_93 hN, vd_S215_17 hN, vd_S215_41 hN, vd_S215_70 hN, vd_S215_48 hN, vd_S215_82 hN, vd_S215_84 hN, vd_I_add, vd_I_mul, vd_I_toInt, e1, h1, ci, c0, if_true, if_false]
    · unfold vd_of1
      rw [if_neg (by omega)]
      exact h
  · by_cases c : its = r
    · refine ⟨g, .int (vd_I its), a8, fun d Q => ?_, ?_, fun _ _ _ _ _ => rfl⟩
      · conv => lhs; rw [vd_S215_3 hN]
        simp (disch := first | assumption | omega) only [vd_S215_0 hN, vd_S215_9 hN, vd_S215_25 hN, vd_S215_32 hN, vd_S215_35 hN, vd_S215_52 hN, vd_S215_56 hN, vd_S215_57 hN, vd_S215_87 hN, vd_S215_93 hN, vd_S215_17 hN, vd_S215_41 hN, vd_S215_70 hN, vd_S215_48 hN, vd_S215_82 hN, vd_S215_84 hN, vd_I_add, vd_I_mul, vd_I_toInt, e1, h1, ci, c0, eq_true c, if_true, if_false]
      · unfold vd_of1
        rw [if_neg (fun q => absurd (q.2.mp c) (by decide))]
        exact h
    · have es := hS its.toNat (by omega)
      have er := hS r.toNat (by omega)
      have sv := hSv its.toNat (by omega)
      have rv := hSv r.toNat (by omega)
      have tb := vd_trn_b S r its
      have xb : (-20000 ≤ vd_trn S r its * x ∧ vd_trn S r its * x ≤ 20000) ∧ (-20000 ≤ vd_trn S r its * y ∧ vd_trn S r its * y ≤ 20000) := by
        rcases tb with e | e
        · rw [e]; omega
        · rw [e]; omega
      obtain ⟨g', p1, p2, p3⟩ := vd_P214 hN hv h xb.1.1 xb.1.2 xb.2.1 xb.2.2
      have mid : ∀ d Q, vd_wp (d + 1) 215 3 [.ref 63, .ref o1, .ref o2, .ref o3, .int (vd_I (U : Int)), .int (vd_I r), .int (vd_I (i : Int)), a7, a8] [] (vd_mf N g) Q = vd_wp (d + 1) 215 57 [.ref 63, .ref o1, .ref o2, .ref o3, .int (vd_I (U : Int)), .int (vd_I r), .int (vd_I (i : Int)), .int (vd_I its), a8] [.int (vd_I (vd_trn S r its))] (vd_mf N g) Q := fun d Q => by
        unfold vd_trn
        rw [vd_S215_3 hN]
        by_cases cs : S its.toNat = S r.toNat
        · simp (disch := first | assumption | omega) only [vd_S215_0 hN, vd_S215_9 hN, vd_S215_25 hN, vd_S215_32 hN, vd_S215_35 hN, vd_S215_52 hN, vd_S215_56 hN, vd_S215_87 hN, vd_S215_93 hN, vd_S215_17 hN, vd_S215_41 hN, vd_S215_70 hN, vd_S215_48 hN, vd_S215_82 hN, vd_S215_84 hN, vd_I_add, vd_I_mul, vd_I_toInt, e1, h1, ci, c0, eq_false c, if_true, if_false, es, er, eq_true cs]
        · simp (disch := first | assumption | omega) only [vd_S215_0 hN, vd_S215_9 hN, vd_S215_25 hN, vd_S215_32 hN, vd_S215_35 hN, vd_S215_52 hN, vd_S215_56 hN, vd_S215_87 hN, vd_S215_93 hN, vd_S215_17 hN, vd_S215_41 hN, vd_S215_70 hN, vd_S215_48 hN, vd_S215_82 hN, vd_S215_84 hN, vd_I_add, vd_I_mul, vd_I_toInt, e1, h1, ci, c0, eq_false c, if_true, if_false, es, er, eq_false cs]
      refine ⟨g', .int (vd_I its), .int (vd_I (vd_trn S r its)), fun d Q => ?_, ?_, p3⟩
      · rw [mid]
        simp (disch := first | assumption | omega) only [vd_S215_0 hN, vd_S215_9 hN, vd_S215_25 hN, vd_S215_32 hN, vd_S215_35 hN, vd_S215_52 hN, vd_S215_56 hN, vd_S215_57 hN, vd_S215_87 hN, vd_S215_93 hN, vd_S215_17 hN, vd_S215_41 hN, vd_S215_70 hN, vd_S215_48 hN, vd_S215_82 hN, vd_S215_84 hN, vd_I_add, vd_I_mul, e1, h2, h3, p1, vd_rs_v, vd_rs_n]
      · unfold vd_of1
        rw [if_pos ⟨by omega, fun q => absurd q c, fun q => absurd q (by decide)⟩]
        exact p2
/-- what stands at a unit -/
def vd_og (g : Nat → Nat → Int32) (o1 o2 o3 U : Nat) (b : Nat → Int) : Prop := (g o1 (2 * U) = vd_I (b 9) ∧ g o1 (2 * U + 1) = vd_I (b 10)) ∧ (g o2 (2 * U) = vd_I (b 12) ∧ g o3 (2 * U) = vd_I (b 13) ∧ g o2 (2 * U + 1) = vd_I (b 14) ∧ g o3 (2 * U + 1) = vd_I (b 15))
theorem vd_og.keep {g g' : Nat → Nat → Int32} (h : vd_og g o1 o2 o3 U b) (k1 : vd_oo N o1) (k2 : vd_oo N o2) (k3 : vd_oo N o3) (hg : vd_gF g g') : vd_og g' o1 o2 o3 U b := by
  obtain ⟨⟨h1, h2⟩, h3, h4, h5, h6⟩ := h
  have q1 := k1.1
  have q2 := k2.1
  have q3 := k3.1
  refine ⟨⟨?_, ?_⟩, ?_, ?_, ?_, ?_⟩ <;> rw [hg _ _ (by omega) (by omega) (by omega)] <;> assumption
theorem vd_P213 (hN : vd_SR N) (k1 : vd_oo N o1) (k2 : vd_oo N o2) (k3 : vd_oo N o3) (ho : vd_og g o1 o2 o3 U b) (hB : vd_OV b) (hv : vd_FV s) (h : vd_FSB s g) (hU : U < 576) (r0 : 0 ≤ r) (r1 : r ≤ 2) : ∃ g', (∀ d Q, vd_wp (d + 1) 213 0 [.ref 63, .ref o1, .ref o2, .ref o3, .int (vd_I (U : Int)), .int (vd_I r), vd_U] [] (vd_mf N g) Q = Q (vd_mf N g') (.inl none)) ∧ vd_FSB (vd_off S r 1 b s) g' ∧ vd_gF g g' := by
  have b2 := hB.2 12 (by decide) (by decide)
  have b3 := hB.2 13 (by decide) (by decide)
  have b4 := hB.2 14 (by decide) (by decide)
  have b5 := hB.2 15 (by decide) (by decide)
  obtain ⟨g1, p1, p2, p3⟩ := vd_T213 (S := S) (i := 0) (its := b 9) (x := b 12) (y := b 13) hN k1 k2 k3 ho.1.1 ho.2.1 ho.2.2.1 hv h hU r0 r1 (by decide) hB.1.1 hB.1.2.1 b2.1 b2.2 b3.1 b3.2
  have ho' := ho.keep k1 k2 k3 p3
  obtain ⟨g2, t1, t2, t3⟩ := vd_T213 (S := S) (i := 1) (its := b 10) (x := b 14) (y := b 15) hN k1 k2 k3 ho'.1.2 ho'.2.2.2.1 ho'.2.2.2.2 (vd_of1_V hv b2.1 b2.2 b3.1 b3.2) p2 hU r0 r1 (by decide) hB.1.2.2.1 hB.1.2.2.2 b4.1 b4.2 b5.1 b5.2
  refine ⟨g2, fun d Q => ?_, t2, p3.trans t3⟩
  have p1' := p1 d Q
  have t1' := t1 d Q
  have i1 : ((0 : Nat) : Int) + 1 = ((1 : Nat) : Int) := rfl
  have i2 : ((1 : Nat) : Int) + 1 = 2 := rfl
  rw [i1] at p1'
  rw [i2] at t1'
  rw [vd_S213_0 hN]
  refine Eq.trans p1' (Eq.trans t1' ?_)
  rw [vd_S213_3 hN]
  simp (disch := omega) only [vd_S213_51 hN, vd_I_toInt, Int.lt_irrefl, if_false]
theorem vd_P215 (hN : vd_SR N) (k1 : vd_oo N o1) (k2 : vd_oo N o2) (k3 : vd_oo N o3) (hS : ∀ j, j < 3 → g 84 j = vd_I (S j)) (hSv : ∀ j, j < 3 → S j = 0 ∨ S j = 1) (ho : vd_og g o1 o2 o3 U b) (hB : vd_OV b) (hv : vd_FV s) (h : vd_FSB s g) (hU : U < 576) (r0 : 0 ≤ r) (r1 : r ≤ 2) : ∃ g', (∀ d Q, vd_wp (d + 1) 215 0 [.ref 63, .ref o1, .ref o2, .ref o3, .int (vd_I (U : Int)), .int (vd_I r), vd_U, vd_U, vd_U] [] (vd_mf N g) Q = Q (vd_mf N g') (.inl none)) ∧ vd_FSB (vd_off S r 0 b s) g' ∧ vd_gF g g' := by
  have b2 := hB.2 12 (by decide) (by decide)
  have b3 := hB.2 13 (by decide) (by decide)
  have b4 := hB.2 14 (by decide) (by decide)
  have b5 := hB.2 15 (by decide) (by decide)
  obtain ⟨g1, a7, a8, p1, p2, p3⟩ := vd_T215 (i := 0) (its := b 9) (x := b 12) (y := b 13) hN k1 k2 k3 hS hSv ho.1.1 ho.2.1 ho.2.2.1 hv h hU r0 r1 (by decide) hB.1.1 hB.1.2.1 b2.1 b2.2 b3.1 b3.2 vd_U vd_U
  have ho' := ho.keep k1 k2 k3 p3
  obtain ⟨g2, a7', a8', t1, t2, t3⟩ := vd_T215 (i := 1) (its := b 10) (x := b 14) (y := b 15) hN k1 k2 k3 (fun j hj => by rw [p3 _ _ (by omega) (by omega) (by omega)]; exact hS j hj) hSv ho'.1.2 ho'.2.2.2.1 ho'.2.2.2.2 (vd_of1_V hv b2.1 b2.2 b3.1 b3.2) p2 hU r0 r1 (by decide) hB.1.2.2.1 hB.1.2.2.2 b4.1 b4.2 b5.1 b5.2 a7 a8
  refine ⟨g2, fun d Q => ?_, t2, p3.trans t3⟩
  have p1' := p1 d Q
  have t1' := t1 d Q
  have i1 : ((0 : Nat) : Int) + 1 = ((1 : Nat) : Int) := rfl
  have i2 : ((1 : Nat) : Int) + 1 = 2 := rfl
  rw [i1] at p1'
  rw [i2] at t1'
  rw [vd_S215_0 hN]
  refine Eq.trans p1' (Eq.trans t1' ?_)
  rw [vd_S215_3 hN]
  simp (disch := omega) only [vd_S215_93 hN, vd_I_toInt, Int.lt_irrefl, if_false]
end VDOG
