/-! ===== a block's vectors are offered ===== -/
def vd_fF (f f' : Nat → Nat → Int32) : Prop := ∀ c i, ¬ (c = 54 ∧ i = 4) → c ≠ 56 → f' c i = f c i
def vd_gF (g g' : Nat → Nat → Int32) : Prop := ∀ c i, ¬ (c = 63 ∧ i = 116) → c ≠ 120 → c ≠ 121 → g' c i = g c i
theorem vd_fF.trans {f f1 f2 : Nat → Nat → Int32} (h : vd_fF f f1) (h2 : vd_fF f1 f2) : vd_fF f f2 := fun c i q1 q2 => by rw [h2 c i q1 q2, h c i q1 q2]
theorem vd_gF.trans {f f1 f2 : Nat → Nat → Int32} (h : vd_gF f f1) (h2 : vd_gF f1 f2) : vd_gF f f2 := fun c i q1 q2 q3 => by rw [h2 c i q1 q2 q3, h c i q1 q2 q3]
def vd_trn (S : Nat → Int) (r its : Int) : Int := if S its.toNat = S r.toNat then 1 else -1
def vd_of1 (S : Nat → Int) (r sm its x y : Int) (s : vd_FT) : vd_FT := if 0 ≤ its ∧ (its = r ↔ sm = 1) then vd_addv s (vd_trn S r its * x) (vd_trn S r its * y) else s
def vd_off (S : Nat → Int) (r sm : Int) (b : Nat → Int) (s : vd_FT) : vd_FT := vd_of1 S r sm (b 10) (b 14) (b 15) (vd_of1 S r sm (b 9) (b 12) (b 13) s)
/-- what may be offered -/
def vd_OV (b : Nat → Int) : Prop := (-1 ≤ b 9 ∧ b 9 ≤ 2 ∧ -1 ≤ b 10 ∧ b 10 ≤ 2) ∧ (∀ q, 12 ≤ q → q < 16 → -20000 ≤ b q ∧ b q ≤ 20000)
theorem vd_trn_b (S : Nat → Int) (r its : Int) : vd_trn S r its = 1 ∨ vd_trn S r its = -1 := by
  unfold vd_trn
  split
  · exact Or.inl rfl
  · exact Or.inr rfl
theorem vd_of1_V {S : Nat → Int} {r sm its x y : Int} {s : vd_FT} (h : vd_FV s) (x0 : -20000 ≤ x) (x1 : x ≤ 20000) (y0 : -20000 ≤ y) (y1 : y ≤ 20000) : vd_FV (vd_of1 S r sm its x y s) := by
  unfold vd_of1
  split
  · rcases vd_trn_b S r its with e | e
    · rw [e]
      exact vd_addv_V h (by omega) (by omega) (by omega) (by omega)
    · rw [e]
      exact vd_addv_V h (by omega) (by omega) (by omega) (by omega)
  · exact h
theorem vd_off_V {S : Nat → Int} {r sm : Int} {b : Nat → Int} {s : vd_FT} (h : vd_FV s) (hb : vd_OV b) : vd_FV (vd_off S r sm b s) := by
  have b2 := hb.2 12 (by decide) (by decide)
  have b3 := hb.2 13 (by decide) (by decide)
  have b4 := hb.2 14 (by decide) (by decide)
  have b5 := hb.2 15 (by decide) (by decide)
  exact vd_of1_V (vd_of1_V h b2.1 b2.2 b3.1 b3.2) b4.1 b4.2 b5.1 b5.2
section VDOF
variable {M N : vd_M} {ow fa lo lf : Nat} {f g : Nat → Nat → Int32} {s : vd_FT} {S : Nat → Int} {b : Nat → Int} {r sm : Int} {P o1 i : Nat}
theorem vd_T94 (hM : vd_SC M ow fa lo lf) (ho : o1 ≠ 54 ∧ o1 ≠ 56) (hk : vd_k M o1 = 32) (hl : vd_l M o1 = 10368) (hS : ∀ j, j < 3 → f 19 j = vd_I (S j)) (hSv : ∀ j, j < 3 → S j = 0 ∨ S j = 1) {its x y : Int} (h1 : f o1 (P + 9 + i) = vd_I its) (h2 : f o1 (P + 12 + 2 * i) = vd_I x) (h3 : f o1 (P + 13 + 2 * i) = vd_I y) (hv : vd_FV s) (h : vd_FSA s f) (hP : P + 18 ≤ 10368) (r0 : 0 ≤ r) (r1 : r ≤ 2) (hsm : sm = 0 ∨ sm = 1) (hi : i < 2) (i0 : -1 ≤ its) (i1 : its ≤ 2) (x0 : -20000 ≤ x) (x1 : x ≤ 20000) (y0 : -20000 ≤ y) (y1 : y ≤ 20000) (a6 a7 : Value) : ∃ f' a6' a7', (∀ d Q, vd_wp (d + 1) 94 3 [.ref 54, .ref o1, .int (vd_I (P : Int)), .int (vd_I r), .int (vd_I sm), .int (vd_I (i : Int)), a6, a7] [] (vd_mf M f) Q = vd_wp (d + 1) 94 3 [.ref 54, .ref o1, .int (vd_I (P : Int)), .int (vd_I r), .int (vd_I sm), .int (vd_I ((i : Int) + 1)), a6', a7'] [] (vd_mf M f') Q) ∧ vd_FSA (vd_of1 S r sm its x y s) f' ∧ vd_fF f f' := by
  have e1 : ((P : Int) + 9 + (i : Int)).toNat = P + 9 + i := by omega
  have e2 : ((P : Int) + 12 + 2 * (i : Int)).toNat = P + 12 + 2 * i := by omega
  have e3 : ((P : Int) + 12 + 2 * (i : Int) + 1).toNat = P + 13 + 2 * i := by omega
  have ci : (i : Int) < 2 := by omega
  have cp : ¬ ((P : Int) < 0) := by omega
  by_cases c0 : its < 0
  · refine ⟨f, .int (vd_I its), a7, fun d Q => ?_, ?_, fun _ _ _ _ => rfl⟩
    · conv => lhs; rw [vd_S94_3 hM]
      simp (disch := first | assumption | omega) only [vd_S94_0 hM, vd_S94_9 hM, vd_S94_13 hM, vd_S94_29 hM, vd_S94_35 hM, vd_S94_39 hM, vd_S94_40 hM, vd_S94_45 hM, vd_S94_67 hM, vd_S94_71 hM, vd_S94_72 hM, vd_S94_108 hM, vd_S94_114 hM, vd_S94_21 hM, vd_S94_54 hM, vd_S94_87 hM, vd_S94_63 hM, vd_S94_103 hM, vd_S94_105 hM, vd_I_add, vd_I_toInt, e1, h1, ci, cp, c0, if_true, if_false]
    · unfold vd_of1
      rw [if_neg (by omega)]
      exact h
  · by_cases c1 : its = r ↔ sm = 1
    · have es := hS its.toNat (by omega)
      have er := hS r.toNat (by omega)
      have sv := hSv its.toNat (by omega)
      have rv := hSv r.toNat (by omega)
      have c1' : (if its = r then (1 : Int) else 0) = sm := by
        by_cases c : its = r
        · rw [if_pos c]; exact (c1.mp c).symm
        · rw [if_neg c]
          rcases hsm with q | q
          · exact q.symm
          · exact absurd (c1.mpr q) c
      have mid : ∀ d Q, vd_wp (d + 1) 94 3 [.ref 54, .ref o1, .int (vd_I (P : Int)), .int (vd_I r), .int (vd_I sm), .int (vd_I (i : Int)), a6, a7] [] (vd_mf M f) Q = vd_wp (d + 1) 94 72 [.ref 54, .ref o1, .int (vd_I (P : Int)), .int (vd_I r), .int (vd_I sm), .int (vd_I (i : Int)), .int (vd_I its), a7] [.int (vd_I (vd_trn S r its))] (vd_mf M f) Q := fun d Q => by
        unfold vd_trn
        rw [vd_S94_3 hM]
        by_cases c : its = r
        · have c1 : 1 = sm := by rw [if_pos c] at c1'; exact c1'
          have cs : S its.toNat = S r.toNat := by rw [c]
          simp (disch := first | assumption | omega) only [vd_S94_0 hM, vd_S94_9 hM, vd_S94_13 hM, vd_S94_29 hM, vd_S94_35 hM, vd_S94_39 hM, vd_S94_40 hM, vd_S94_45 hM, vd_S94_67 hM, vd_S94_71 hM, vd_S94_108 hM, vd_S94_114 hM, vd_S94_21 hM, vd_S94_54 hM, vd_S94_87 hM, vd_S94_63 hM, vd_S94_103 hM, vd_S94_105 hM, vd_I_add, vd_I_toInt, e1, h1, ci, cp, c0, if_true, if_false, eq_true c, eq_true c1, es, er, eq_true cs]
        · have c1 : 0 = sm := by rw [if_neg c] at c1'; exact c1'
          by_cases cs : S its.toNat = S r.toNat
          · simp (disch := first | assumption | omega) only [vd_S94_0 hM, vd_S94_9 hM, vd_S94_13 hM, vd_S94_29 hM, vd_S94_35 hM, vd_S94_39 hM, vd_S94_40 hM, vd_S94_45 hM, vd_S94_67 hM, vd_S94_71 hM, vd_S94_108 hM, vd_S94_114 hM, vd_S94_21 hM, vd_S94_54 hM, vd_S94_87 hM, vd_S94_63 hM, vd_S94_103 hM, vd_S94_105 hM, vd_I_add, vd_I_toInt, e1, h1, ci, cp, c0, if_true, if_false, eq_false c, eq_true c1, es, er, eq_true cs]
          · simp (disch := first | assumption | omega) only [vd_S94_0 hM, vd_S94_9 hM, vd_S94_13 hM, vd_S94_29 hM, vd_S94_35 hM, vd_S94_39 hM, vd_S94_40 hM, vd_S94_45 hM, vd_S94_67 hM, vd_S94_71 hM, vd_S94_108 hM, vd_S94_114 hM, vd_S94_21 hM, vd_S94_54 hM, vd_S94_87 hM, vd_S94_63 hM, vd_S94_103 hM, vd_S94_105 hM, vd_I_add, vd_I_toInt, e1, h1, ci, cp, c0, if_true, if_false, eq_false c, eq_true c1, es, er, eq_false cs]
      have tb := vd_trn_b S r its
      have xb : (-20000 ≤ vd_trn S r its * x ∧ vd_trn S r its * x ≤ 20000) ∧ (-20000 ≤ vd_trn S r its * y ∧ vd_trn S r its * y ≤ 20000) := by
        rcases tb with e | e
        · rw [e]; omega
        · rw [e]; omega
      obtain ⟨f', p1, p2, p3⟩ := vd_P95 hM hv h xb.1.1 xb.1.2 xb.2.1 xb.2.2
      refine ⟨f', .int (vd_I its), .int (vd_I (vd_trn S r its)), fun d Q => ?_, ?_, p3⟩
      · rw [mid]
        simp (disch := first | assumption | omega) only [vd_S94_0 hM, vd_S94_9 hM, vd_S94_13 hM, vd_S94_29 hM, vd_S94_35 hM, vd_S94_39 hM, vd_S94_40 hM, vd_S94_45 hM, vd_S94_67 hM, vd_S94_71 hM, vd_S94_72 hM, vd_S94_108 hM, vd_S94_114 hM, vd_S94_21 hM, vd_S94_54 hM, vd_S94_87 hM, vd_S94_63 hM, vd_S94_103 hM, vd_S94_105 hM, vd_I_add, vd_I_mul, e2, e3, h2, h3, p1, vd_rs_v, vd_rs_n]
      · unfold vd_of1
        rw [if_pos ⟨by omega, c1⟩]
        exact p2
    · refine ⟨f, .int (vd_I its), a7, fun d Q => ?_, ?_, fun _ _ _ _ => rfl⟩
      · conv => lhs; rw [vd_S94_3 hM]
        by_cases c : its = r
        · have c1' : ¬ 1 = sm := fun q => c1 ⟨fun _ => q.symm, fun _ => c⟩
          simp (disch := first | assumption | omega) only [vd_S94_0 hM, vd_S94_9 hM, vd_S94_13 hM, vd_S94_29 hM, vd_S94_35 hM, vd_S94_39 hM, vd_S94_40 hM, vd_S94_45 hM, vd_S94_67 hM, vd_S94_71 hM, vd_S94_72 hM, vd_S94_108 hM, vd_S94_114 hM, vd_S94_21 hM, vd_S94_54 hM, vd_S94_87 hM, vd_S94_63 hM, vd_S94_103 hM, vd_S94_105 hM, vd_I_add, vd_I_toInt, e1, h1, ci, cp, c0, if_true, if_false, eq_true c, eq_false c1']
        · have c1' : ¬ 0 = sm := fun q => c1 ⟨fun q' => absurd q' c, fun q' => by omega⟩
          simp (disch := first | assumption | omega) only [vd_S94_0 hM, vd_S94_9 hM, vd_S94_13 hM, vd_S94_29 hM, vd_S94_35 hM, vd_S94_39 hM, vd_S94_40 hM, vd_S94_45 hM, vd_S94_67 hM, vd_S94_71 hM, vd_S94_72 hM, vd_S94_108 hM, vd_S94_114 hM, vd_S94_21 hM, vd_S94_54 hM, vd_S94_87 hM, vd_S94_63 hM, vd_S94_103 hM, vd_S94_105 hM, vd_I_add, vd_I_toInt, e1, h1, ci, cp, c0, if_true, if_false, eq_false c, eq_false c1']
      · unfold vd_of1
        rw [if_neg (fun q => c1 q.2)]
        exact h
theorem vd_P94 (hM : vd_SC M ow fa lo lf) (ho : o1 ≠ 54 ∧ o1 ≠ 56) (hk : vd_k M o1 = 32) (hl : vd_l M o1 = 10368) (hS : ∀ j, j < 3 → f 19 j = vd_I (S j)) (hSv : ∀ j, j < 3 → S j = 0 ∨ S j = 1) (hb : ∀ q, 9 ≤ q → q < 16 → f o1 (P + q) = vd_I (b q)) (hB : vd_OV b) (hv : vd_FV s) (h : vd_FSA s f) (hP : P + 18 ≤ 10368) (r0 : 0 ≤ r) (r1 : r ≤ 2) (hsm : sm = 0 ∨ sm = 1) : ∃ f', (∀ d Q, vd_wp (d + 1) 94 0 [.ref 54, .ref o1, .int (vd_I (P : Int)), .int (vd_I r), .int (vd_I sm), vd_U, vd_U, vd_U] [] (vd_mf M f) Q = Q (vd_mf M f') (.inl none)) ∧ vd_FSA (vd_off S r sm b s) f' ∧ vd_fF f f' := by
  have b2 := hB.2 12 (by decide) (by decide)
  have b3 := hB.2 13 (by decide) (by decide)
  have b4 := hB.2 14 (by decide) (by decide)
  have b5 := hB.2 15 (by decide) (by decide)
  obtain ⟨f1, a6, a7, p1, p2, p3⟩ := vd_T94 (i := 0) (its := b 9) (x := b 12) (y := b 13) hM ho hk hl hS hSv (hb 9 (by decide) (by decide)) (hb 12 (by decide) (by decide)) (hb 13 (by decide) (by decide)) hv h hP r0 r1 hsm (by decide) hB.1.1 hB.1.2.1 b2.1 b2.2 b3.1 b3.2 vd_U vd_U
  have hb' : ∀ q, 9 ≤ q → q < 16 → f1 o1 (P + q) = vd_I (b q) := fun q q1 q2 => by rw [p3 o1 _ (by omega) (by omega)]; exact hb q q1 q2
  obtain ⟨f2, a6', a7', t1, t2, t3⟩ := vd_T94 (i := 1) (its := b 10) (x := b 14) (y := b 15) hM ho hk hl (fun j hj => by rw [p3 _ _ (by omega) (by omega)]; exact hS j hj) hSv (hb' 10 (by decide) (by decide)) (hb' 14 (by decide) (by decide)) (hb' 15 (by decide) (by decide)) (vd_of1_V hv b2.1 b2.2 b3.1 b3.2) p2 hP r0 r1 hsm (by decide) hB.1.2.2.1 hB.1.2.2.2 b4.1 b4.2 b5.1 b5.2 a6 a7
  refine ⟨f2, fun d Q => ?_, t2, p3.trans t3⟩
  have p1' := p1 d Q
  have t1' := t1 d Q
  have i1 : ((0 : Nat) : Int) + 1 = ((1 : Nat) : Int) := rfl
  have i2 : ((1 : Nat) : Int) + 1 = 2 := rfl
  rw [i1] at p1'
  rw [i2] at t1'
  rw [vd_S94_0 hM]
  refine Eq.trans p1' (Eq.trans t1' ?_)
  rw [vd_S94_3 hM]
  simp (disch := omega) only [vd_S94_114 hM, vd_I_toInt, Int.lt_irrefl, if_false]
/-- nothing is offered where no block is -/
theorem vd_P94n (hM : vd_SC M ow fa lo lf) (d : Nat) (Q : vd_M → (Option Value ⊕ Nat) → Prop) (x3 x4 : Int32) : vd_wp d 94 0 [.ref 54, .ref o1, .int (vd_I (-1)), .int x3, .int x4, vd_U, vd_U, vd_U] [] (vd_mf M f) Q = Q (vd_mf M f) (.inl none) := by
  rw [vd_S94_0 hM, vd_S94_3 hM]
  simp (disch := omega) only [vd_S94_9 hM, vd_S94_114 hM, vd_I_toInt, show (0 : Int) < 2 by decide, show (-1 : Int) < 0 by decide, if_true]
end VDOF
