/-! ===== readDifference, difference ===== -/
section VDDG
variable {M N : vd_M} {ow fa lo lf : Nat}
theorem vd_diff (hM : vd_SC M ow fa lo lf) (hN : vd_SR N) {v fi : Int} {n : Nat} {f g : Nat → Nat → Int32} (v0 : 0 ≤ v) (v1 : v ≤ 2000) (hfi : fi = 0 ∨ fi = 1) (hn : n + 19 ≤ 8000000) (h : vd_RD n f g) : ∃ (f' g' : Nat → Nat → Int32) (r : Int), (∀ d Q, vd_wp (d + 2) 98 0 [.ref 44, .int (vd_I v), .int (vd_I fi), vd_U, vd_U, vd_U, vd_U, vd_U, vd_U, vd_U, vd_U] [] (vd_mf M f) Q = Q (vd_mf M f') (.inl (some (.int (vd_I r))))) ∧ (∀ d Q, vd_wp (d + 3) 218 0 [.ref 63, .int (vd_I v), .int (vd_I fi), vd_U, vd_U, vd_U, vd_U, vd_U, vd_U, vd_U, vd_U] [] (vd_mf N g) Q = Q (vd_mf N g') (.inl (some (.int (vd_I r))))) ∧ (-3000 ≤ r ∧ r ≤ 3000) ∧ vd_RD (n + 19) f' g' ∧ vd_fD f f' ∧ vd_gD g g' := by
  obtain ⟨f1, g1, b0, p1, p2, p3, p4, p5, p6⟩ := vd_read hM hN (z := v) h (by omega) (by omega) (by omega)
  obtain ⟨f2, g2, cc, q1, q2, q3, q4, q5, q6, q7⟩ := vd_ladder hM hN (z := v + 1) (w := 7) (by omega) (by decide) (by decide) (by omega) (show n + 1 + (7 : Int).toNat ≤ 8000000 by simp; omega) p4
  obtain ⟨c, rfl⟩ := Int.eq_ofNat_of_zero_le q3
  have e17 : ∀ d Q, vd_wp (d + 2) 98 0 [.ref 44, .int (vd_I v), .int (vd_I fi), vd_U, vd_U, vd_U, vd_U, vd_U, vd_U, vd_U, vd_U] [] (vd_mf M f) Q = if (c : Int) = 0 then vd_wp (d + 2) 98 40 [.ref 44, .int (vd_I v), .int (vd_I fi), .int (vd_I b0), .int (vd_I (c : Int)), .int (vd_I 0), vd_U, vd_U, vd_U, vd_U, vd_U] [] (vd_mf M f2) Q else vd_wp (d + 2) 98 53 [.ref 44, .int (vd_I v), .int (vd_I fi), .int (vd_I b0), .int (vd_I (c : Int)), .int (vd_I 0), vd_U, vd_U, vd_U, vd_U, vd_U] [] (vd_mf M f2) Q := fun d Q => by
    rcases p3 with rfl | rfl
    · simp (disch := omega) only [vd_S98_0 hM, vd_S98_5 hM, vd_S98_8 hM, vd_S98_16 hM, vd_S98_17 hM, vd_S98_27 hM, vd_S98_30 hM, p1, q1, vd_rs_v, vd_rs_n, vd_I_add, vd_I_toInt, show ¬ ((0 : Int) = 1) by decide, if_false]
    · simp (disch := omega) only [vd_S98_0 hM, vd_S98_5 hM, vd_S98_8 hM, vd_S98_12 hM, vd_S98_17 hM, vd_S98_27 hM, vd_S98_30 hM, p1, q1, vd_rs_v, vd_rs_n, vd_I_add, vd_I_toInt, eq_self, if_true]
  have e18 : ∀ d Q, vd_wp (d + 3) 218 0 [.ref 63, .int (vd_I v), .int (vd_I fi), vd_U, vd_U, vd_U, vd_U, vd_U, vd_U, vd_U, vd_U] [] (vd_mf N g) Q = if (c : Int) = 0 then vd_wp (d + 3) 218 25 [.ref 63, .int (vd_I v), .int (vd_I fi), .int (vd_I b0), .int (vd_I (c : Int)), .int (vd_I 0), vd_U, vd_U, vd_U, vd_U, vd_U] [] (vd_mf N g2) Q else vd_wp (d + 3) 218 35 [.ref 63, .int (vd_I v), .int (vd_I fi), .int (vd_I b0), .int (vd_I (c : Int)), .int (vd_I 0), vd_U, vd_U, vd_U, vd_U, vd_U] [] (vd_mf N g2) Q := fun d Q => by
    simp (disch := omega) only [vd_S218_0 hN, vd_S218_2 hN, vd_S218_5 hN, vd_S218_12 hN, vd_S218_15 hN, p2, q2, vd_rs_v, vd_rs_n, vd_I_add, vd_I_toInt]
  have i0 : ((0 : Nat) : Int) = 0 := rfl
  by_cases c0 : (c : Int) = 0
  · have c0' : c = 0 := by omega
    subst c0'
    obtain ⟨f3, g3, d0, r1, r2, r3, r4, r5, r6⟩ := vd_read hM hN (z := v + 8) q5 (by simp; omega) (by omega) (by omega)
    obtain ⟨f4, g4, r, t1, t2, t3, t4, t5, t6⟩ := vd_difB hM hN (c := 0) (wh := d0) v0 v1 (Or.inl ⟨rfl, by omega, by omega⟩) p3 hfi (show n + 1 + (7 : Int).toNat + 1 + 3 ≤ 8000000 by simp; omega) r4
    refine ⟨f4, g4, r, fun d Q => ?_, fun d Q => ?_, t3, t4.mono (by simp), ((p5.trans q6).trans r5).trans t5, ((p6.trans q7).trans r6).trans t6⟩
    · rw [e17, if_pos c0]
      simp (disch := omega) only [vd_S98_40 hM, vd_S98_48 hM, vd_S98_51 hM, vd_S98_53 hM, r1, vd_rs_v, vd_rs_n, vd_I_add]
      rw [vd_S98_56 hM]
      simp (disch := omega) only [vd_I_toInt, i0, Int.lt_irrefl, if_false]
      exact t1 _ _ _ _ _ d Q
    · rw [e18, if_pos c0]
      simp (disch := omega) only [vd_S218_25 hN, vd_S218_30 hN, vd_S218_33 hN, vd_S218_35 hN, r2, vd_rs_v, vd_rs_n, vd_I_add]
      rw [vd_S218_38 hN]
      simp (disch := omega) only [vd_I_toInt, i0, Int.lt_irrefl, if_false]
      exact t2 _ _ _ _ _ (d + 1) Q
  · obtain ⟨f3, g3, wh, r1, r2, r3, r4, r5, r6, r7⟩ := vd_difL hM hN (c := c) v0 v1 (by omega) c (n + 1 + (7 : Int).toNat) 0 f2 g2 0 (by omega) (by decide) (by decide) (by simp; omega) q5
    obtain ⟨f4, g4, r, t1, t2, t3, t4, t5, t6⟩ := vd_difB hM hN (c := c) (wh := wh) v0 v1 (Or.inr ⟨by omega, by omega, r3, r4⟩) p3 hfi (show n + 1 + (7 : Int).toNat + c + 3 ≤ 8000000 by simp; omega) r5
    refine ⟨f4, g4, r, fun d Q => ?_, fun d Q => ?_, t3, t4.mono (by simp; omega), ((p5.trans q6).trans r6).trans t5, ((p6.trans q7).trans r7).trans t6⟩
    · rw [e17, if_neg c0]
      simp (disch := omega) only [vd_S98_53 hM]
      exact Eq.trans (r1 _ _ _ _ _ _ d Q) (t1 _ _ _ _ _ d Q)
    · rw [e18, if_neg c0]
      simp (disch := omega) only [vd_S218_35 hN]
      exact Eq.trans (r2 _ _ _ _ _ _ (d + 1) Q) (t2 _ _ _ _ _ (d + 1) Q)
end VDDG
