/-! ===== a vector's difference ===== -/
section VDDF
variable {M N : vd_M} {ow fa lo lf : Nat}
theorem vd_p2 : ∀ j : Nat, j < 8 → (2 : Int) ^ j ≤ 128 ∧ 1 ≤ (2 : Int) ^ j := by decide
theorem vd_shj {b : Int} {j : Nat} (hj : j < 8) (hb : b = 0 ∨ b = 1) : vd_I b <<< (vd_I (j : Int) &&& 31) = vd_I (b * 2 ^ j) := by
  rw [vd_I_shl b (by omega)]
  congr 2
theorem vd_difL (hM : vd_SC M ow fa lo lf) (hN : vd_SR N) {v : Int} {c : Nat} (v0 : 0 ≤ v) (v1 : v ≤ 2000) (hc : c ≤ 7) : ∀ (m n j : Nat) (f g : Nat → Nat → Int32) (wh : Int), j + m = c → 0 ≤ wh → wh < 2 ^ j → n + m ≤ 8000000 → vd_RD n f g → ∃ (f' g' : Nat → Nat → Int32) (wh' : Int), (∀ x2 x3 a7 a8 a9 a10 d Q, vd_wp (d + 2) 98 56 [.ref 44, .int (vd_I v), .int x2, .int x3, .int (vd_I (c : Int)), .int (vd_I wh), .int (vd_I (j : Int)), a7, a8, a9, a10] [] (vd_mf M f) Q = vd_wp (d + 2) 98 91 [.ref 44, .int (vd_I v), .int x2, .int x3, .int (vd_I (c : Int)), .int (vd_I wh'), .int (vd_I (c : Int)), a7, a8, a9, a10] [] (vd_mf M f') Q) ∧ (∀ x2 x3 a7 a8 a9 a10 d Q, vd_wp (d + 2) 218 38 [.ref 63, .int (vd_I v), .int x2, .int x3, .int (vd_I (c : Int)), .int (vd_I wh), .int (vd_I (j : Int)), a7, a8, a9, a10] [] (vd_mf N g) Q = vd_wp (d + 2) 218 70 [.ref 63, .int (vd_I v), .int x2, .int x3, .int (vd_I (c : Int)), .int (vd_I wh'), .int (vd_I (c : Int)), a7, a8, a9, a10] [] (vd_mf N g') Q) ∧ 0 ≤ wh' ∧ wh' < 2 ^ c ∧ vd_RD (n + m) f' g' ∧ vd_fD f f' ∧ vd_gD g g' := by
  intro m
  induction m with
  | zero =>
    intro n j f g wh hj w0 w1 hn h
    have hj : j = c := by omega
    subst hj
    refine ⟨f, g, wh, fun x2 x3 a7 a8 a9 a10 d Q => ?_, fun x2 x3 a7 a8 a9 a10 d Q => ?_, w0, w1, h, vd_fD.refl f, vd_gD.refl g⟩
    · rw [vd_S98_56 hM]
      simp (disch := omega) only [vd_I_toInt, Int.lt_irrefl, if_false]
    · rw [vd_S218_38 hN]
      simp (disch := omega) only [vd_I_toInt, Int.lt_irrefl, if_false]
  | succ m ih =>
    intro n j f g wh hj w0 w1 hn h
    have hjc : (j : Int) < (c : Int) := by omega
    obtain ⟨f1, g1, b, p1, p2, p3, p4, p5, p6⟩ := vd_read hM hN (z := v + 9 + (j : Int)) h (by omega) (by omega) (by omega)
    have hp := vd_p2 j (by omega)
    have e2 : (2 : Int) ^ (j + 1) = 2 ^ j * 2 := Int.pow_succ 2 j
    have hb : 0 ≤ b * 2 ^ j ∧ b * 2 ^ j ≤ 2 ^ j := by rcases p3 with rfl | rfl <;> omega
    obtain ⟨f2, g2, wh', q1, q2, q3, q4, q5, q6, q7⟩ := ih (n + 1) (j + 1) f1 g1 (wh + b * 2 ^ j) (by omega) (by omega) (by omega) (by omega) p4
    have sh := vd_shj (show j < 8 by omega) p3
    have ej : (j : Int) + 1 = ((j + 1 : Nat) : Int) := by omega
    refine ⟨f2, g2, wh', fun x2 x3 a7 a8 a9 a10 d Q => ?_, fun x2 x3 a7 a8 a9 a10 d Q => ?_, q3, q4, by rw [show n + (m + 1) = n + 1 + m by omega]; exact q5, p5.trans q6, p6.trans q7⟩
    · rw [vd_S98_56 hM]
      simp (disch := omega) only [vd_S98_63 hM, vd_S98_76 hM, vd_S98_79 hM, vd_I_toInt, hjc, if_true, vd_I_add, p1, vd_rs_v, vd_rs_n, sh, ej]
      exact q1 x2 x3 a7 a8 a9 a10 d Q
    · rw [vd_S218_38 hN]
      simp (disch := omega) only [vd_S218_45 hN, vd_S218_55 hN, vd_S218_58 hN, vd_I_toInt, hjc, if_true, vd_I_add, p2, vd_rs_v, vd_rs_n, sh, ej]
      exact q2 x2 x3 a7 a8 a9 a10 d Q
theorem vd_difB (hM : vd_SC M ow fa lo lf) (hN : vd_SR N) {v : Int} {c n : Nat} {wh b0 fi : Int} {f g : Nat → Nat → Int32} (v0 : 0 ≤ v) (v1 : v ≤ 2000) (hc : (c = 0 ∧ 0 ≤ wh ∧ wh ≤ 1) ∨ (1 ≤ c ∧ c ≤ 7 ∧ 0 ≤ wh ∧ wh < 2 ^ c)) (hb0 : b0 = 0 ∨ b0 = 1) (hfi : fi = 0 ∨ fi = 1) (hn : n + 3 ≤ 8000000) (h : vd_RD n f g) : ∃ (f' g' : Nat → Nat → Int32) (r : Int), (∀ x6 a7 a8 a9 a10 d Q, vd_wp (d + 2) 98 91 [.ref 44, .int (vd_I v), .int (vd_I fi), .int (vd_I b0), .int (vd_I (c : Int)), .int (vd_I wh), .int x6, a7, a8, a9, a10] [] (vd_mf M f) Q = Q (vd_mf M f') (.inl (some (.int (vd_I r))))) ∧ (∀ x6 a7 a8 a9 a10 d Q, vd_wp (d + 2) 218 70 [.ref 63, .int (vd_I v), .int (vd_I fi), .int (vd_I b0), .int (vd_I (c : Int)), .int (vd_I wh), .int x6, a7, a8, a9, a10] [] (vd_mf N g) Q = Q (vd_mf N g') (.inl (some (.int (vd_I r))))) ∧ (-3000 ≤ r ∧ r ≤ 3000) ∧ vd_RD (n + 3) f' g' ∧ vd_fD f f' ∧ vd_gD g g' := by
  have hwb : 0 ≤ wh ∧ wh ≤ 128 := by
    rcases hc with q | ⟨q1, q2, q3, q4⟩
    · omega
    · have := vd_p2 c (by omega)
      omega
  have hcb : c ≤ 7 := by omega
  have hA : ∃ A : Int, 0 ≤ A ∧ A ≤ 1024 ∧ (c = 0 → A = 0) ∧ (c ≠ 0 → vd_I 8 <<< (vd_I (c : Int) &&& 31) = vd_I A ∧ vd_I 1 <<< (vd_I ((c : Int) + 3) &&& 31) = vd_I A) := by
    rcases (show c = 0 ∨ c = 1 ∨ c = 2 ∨ c = 3 ∨ c = 4 ∨ c = 5 ∨ c = 6 ∨ c = 7 by omega) with rfl | rfl | rfl | rfl | rfl | rfl | rfl | rfl
    · exact ⟨0, by decide, by decide, fun _ => rfl, fun q => absurd rfl q⟩
    · exact ⟨16, by decide, by decide, fun q => absurd q (by decide), fun _ => by decide⟩
    · exact ⟨32, by decide, by decide, fun q => absurd q (by decide), fun _ => by decide⟩
    · exact ⟨64, by decide, by decide, fun q => absurd q (by decide), fun _ => by decide⟩
    · exact ⟨128, by decide, by decide, fun q => absurd q (by decide), fun _ => by decide⟩
    · exact ⟨256, by decide, by decide, fun q => absurd q (by decide), fun _ => by decide⟩
    · exact ⟨512, by decide, by decide, fun q => absurd q (by decide), fun _ => by decide⟩
    · exact ⟨1024, by decide, by decide, fun q => absurd q (by decide), fun _ => by decide⟩
  obtain ⟨A, A0, A1, A2, A3⟩ := hA
  have hq : ∃ q : Int, 0 ≤ q ∧ q ≤ 2100 ∧ q = (if c = 0 then v + 16 + 3 * wh else v + 22) := by
    by_cases c0 : c = 0
    · exact ⟨v + 16 + 3 * wh, by omega, by omega, by rw [if_pos c0]⟩
    · exact ⟨v + 22, by omega, by omega, by rw [if_neg c0]⟩
  obtain ⟨q, q0, q1, hqe⟩ := hq
  obtain ⟨f1, g1, hf, p1, p2, p3, p4, p5, p6⟩ := vd_read hM hN (z := q) h (by omega) (by omega) (by omega)
  obtain ⟨f2, g2, qu, r1, r2, r3, r4, r5, r6⟩ := vd_read hM hN (z := q + 1 + hf) p4 (by omega) (by omega) (by omega)
  have e91 : ∀ x6 a7 a8 a9 a10 d Q, vd_wp (d + 2) 98 91 [.ref 44, .int (vd_I v), .int (vd_I fi), .int (vd_I b0), .int (vd_I (c : Int)), .int (vd_I wh), .int x6, a7, a8, a9, a10] [] (vd_mf M f) Q = vd_wp (d + 2) 98 112 [.ref 44, .int (vd_I v), .int (vd_I fi), .int (vd_I b0), .int (vd_I (c : Int)), .int (vd_I wh), .int x6, a7, a8, a9, a10] [.int (vd_I q)] (vd_mf M f) Q := fun x6 a7 a8 a9 a10 d Q => by
    by_cases c0 : c = 0
    · rw [if_pos c0] at hqe
      simp (disch := omega) only [vd_S98_91 hM, vd_S98_96 hM, vd_I_toInt, show (c : Int) = 0 by omega, eq_self, if_true, vd_I_add, vd_I_mul, hqe]
    · rw [if_neg c0] at hqe
      simp (disch := omega) only [vd_S98_91 hM, vd_S98_108 hM, vd_I_toInt, show ¬ ((c : Int) = 0) by omega, if_false, vd_I_add, hqe]
  have e70 : ∀ x6 a7 a8 a9 a10 d Q, vd_wp (d + 2) 218 70 [.ref 63, .int (vd_I v), .int (vd_I fi), .int (vd_I b0), .int (vd_I (c : Int)), .int (vd_I wh), .int x6, a7, a8, a9, a10] [] (vd_mf N g) Q = vd_wp (d + 2) 218 91 [.ref 63, .int (vd_I v), .int (vd_I fi), .int (vd_I b0), .int (vd_I (c : Int)), .int (vd_I wh), .int x6, a7, a8, a9, a10] [.int (vd_I q)] (vd_mf N g) Q := fun x6 a7 a8 a9 a10 d Q => by
    by_cases c0 : c = 0
    · rw [if_pos c0] at hqe
      simp (disch := omega) only [vd_S218_70 hN, vd_S218_75 hN, vd_I_toInt, show (c : Int) = 0 by omega, eq_self, if_true, vd_I_add, vd_I_mul, hqe]
    · rw [if_neg c0] at hqe
      simp (disch := omega) only [vd_S218_70 hN, vd_S218_87 hN, vd_I_toInt, show ¬ ((c : Int) = 0) by omega, if_false, vd_I_add, hqe]
  -- the end: behind the eighth
  have amt : ∀ (ei : Int), (ei = 0 ∨ ei = 1) → ∀ (f3 : Nat → Nat → Int32) x6 a9 a10 d Q, vd_wp (d + 2) 98 177 [.ref 44, .int (vd_I v), .int (vd_I fi), .int (vd_I b0), .int (vd_I (c : Int)), .int (vd_I wh), .int x6, .int (vd_I hf), .int (vd_I (2 * hf + qu)), a9, a10] [.int (vd_I ei)] (vd_mf M f3) Q = Q (vd_mf M f3) (.inl (some (.int (vd_I (if b0 = 1 then -(A + 8 * wh + 2 * (2 * hf + qu) + ei + 1) else A + 8 * wh + 2 * (2 * hf + qu) + ei + 1))))) := fun ei he f3 x6 a9 a10 d Q => by
    by_cases c0 : c = 0
    · have hA0 := A2 c0
      subst hA0
      rcases hb0 with rfl | rfl
      · simp (disch := omega) only [vd_S98_177 hM, vd_S98_184 hM, vd_S98_193 hM, vd_S98_221 hM, vd_S98_223 hM, vd_I_toInt, show (c : Int) = 0 by omega, eq_self, if_true, vd_I_add, vd_I_mul, show ¬ ((0 : Int) = 1) by decide, if_false]
      · simp (disch := omega) only [vd_S98_177 hM, vd_S98_184 hM, vd_S98_193 hM, vd_S98_215 hM, vd_S98_223 hM, vd_I_toInt, show (c : Int) = 0 by omega, eq_self, if_true, vd_I_add, vd_I_mul, vd_I_neg, show ¬ ((1 : Int) = 0) by decide, if_false]
    · have hA0 := (A3 c0).1
      rcases hb0 with rfl | rfl
      · simp (disch := omega) only [vd_S98_177 hM, vd_S98_188 hM, vd_S98_193 hM, vd_S98_221 hM, vd_S98_223 hM, vd_I_toInt, show ¬ ((c : Int) = 0) by omega, hA0, eq_self, if_true, vd_I_add, vd_I_mul, show ¬ ((0 : Int) = 1) by decide, if_false]
      · simp (disch := omega) only [vd_S98_177 hM, vd_S98_188 hM, vd_S98_193 hM, vd_S98_215 hM, vd_S98_223 hM, vd_I_toInt, show ¬ ((c : Int) = 0) by omega, hA0, eq_self, if_true, vd_I_add, vd_I_mul, vd_I_neg, show ¬ ((1 : Int) = 0) by decide, if_false]
  have amtR : ∀ (ei : Int), (ei = 0 ∨ ei = 1) → ∀ (g3 : Nat → Nat → Int32) x6 a9 a10 d Q, vd_wp (d + 2) 218 147 [.ref 63, .int (vd_I v), .int (vd_I fi), .int (vd_I b0), .int (vd_I (c : Int)), .int (vd_I wh), .int x6, .int (vd_I hf), .int (vd_I (2 * hf + qu)), a9, a10] [.int (vd_I ei)] (vd_mf N g3) Q = Q (vd_mf N g3) (.inl (some (.int (vd_I (if b0 = 1 then -(A + 8 * wh + 2 * (2 * hf + qu) + ei + 1) else A + 8 * wh + 2 * (2 * hf + qu) + ei + 1))))) := fun ei he g3 x6 a9 a10 d Q => by
    by_cases c0 : c = 0
    · have hA0 := A2 c0
      subst hA0
      rcases hb0 with rfl | rfl
      · simp (disch := omega) only [vd_S218_147 hN, vd_S218_154 hN, vd_S218_164 hN, vd_S218_193 hN, vd_S218_195 hN, vd_I_toInt, show (c : Int) = 0 by omega, eq_self, if_true, vd_I_add, vd_I_mul, show ¬ ((0 : Int) = 1) by decide, if_false]
      · simp (disch := omega) only [vd_S218_147 hN, vd_S218_154 hN, vd_S218_164 hN, vd_S218_187 hN, vd_S218_195 hN, vd_I_toInt, show (c : Int) = 0 by omega, eq_self, if_true, vd_I_add, vd_I_mul, vd_I_neg]
    · have hA0 := (A3 c0).2
      rcases hb0 with rfl | rfl
      · simp (disch := omega) only [vd_S218_147 hN, vd_S218_158 hN, vd_S218_164 hN, vd_S218_193 hN, vd_S218_195 hN, vd_I_toInt, show ¬ ((c : Int) = 0) by omega, vd_I_add, hA0, vd_I_mul, show ¬ ((0 : Int) = 1) by decide, if_false]
      · simp (disch := omega) only [vd_S218_147 hN, vd_S218_158 hN, vd_S218_164 hN, vd_S218_187 hN, vd_S218_195 hN, vd_I_toInt, show ¬ ((c : Int) = 0) by omega, vd_I_add, hA0, eq_self, if_true, vd_I_mul, vd_I_neg, if_false]
  rcases hfi with hfi | hfi
  · refine ⟨f2, g2, (if b0 = 1 then -(A + 8 * wh + 2 * (2 * hf + qu) + 1 + 1) else A + 8 * wh + 2 * (2 * hf + qu) + 1 + 1), fun x6 a7 a8 a9 a10 d Q => ?_, fun x6 a7 a8 a9 a10 d Q => ?_, ?_, r4.mono (by omega), p5.trans r5, p6.trans r6⟩
    · rw [e91]
      simp (disch := omega) only [vd_S98_112 hM, vd_S98_120 hM, vd_S98_123 hM, vd_S98_140 hM, vd_S98_143 hM, vd_S98_176 hM, p1, r1, vd_rs_v, vd_rs_n, vd_I_add, vd_I_mul, vd_I_toInt, eq_true hfi, if_true]
      exact amt 1 (Or.inr rfl) f2 _ a9 a10 d Q
    · rw [e70]
      simp (disch := omega) only [vd_S218_91 hN, vd_S218_96 hN, vd_S218_99 hN, vd_S218_113 hN, vd_S218_116 hN, vd_S218_146 hN, p2, r2, vd_rs_v, vd_rs_n, vd_I_add, vd_I_mul, vd_I_toInt, eq_true hfi, if_true]
      exact amtR 1 (Or.inr rfl) g2 _ a9 a10 d Q
    · split <;> omega
  · obtain ⟨f3, g3, ei, t1, t2, t3, t4, t5, t6⟩ := vd_read hM hN (z := if c = 0 then v + 25 else v + 26) r4 (by omega) (by split <;> omega) (by split <;> omega)
    refine ⟨f3, g3, (if b0 = 1 then -(A + 8 * wh + 2 * (2 * hf + qu) + ei + 1) else A + 8 * wh + 2 * (2 * hf + qu) + ei + 1), fun x6 a7 a8 a9 a10 d Q => ?_, fun x6 a7 a8 a9 a10 d Q => ?_, ?_, t4, (p5.trans r5).trans t5, (p6.trans r6).trans t6⟩
    · rw [e91]
      by_cases c0 : c = 0
      · rw [if_pos c0] at t1
        simp (disch := omega) only [vd_S98_112 hM, vd_S98_120 hM, vd_S98_123 hM, vd_S98_140 hM, vd_S98_143 hM, vd_S98_150 hM, vd_S98_159 hM, vd_S98_170 hM, vd_S98_173 hM, p1, r1, t1, vd_rs_v, vd_rs_n, vd_I_add, vd_I_mul, vd_I_toInt, eq_false (show ¬ fi = 0 by omega), eq_true (show (c : Int) = 0 by omega), if_false, if_true]
        exact amt ei t3 f3 _ a9 a10 d Q
      · rw [if_neg c0] at t1
        simp (disch := omega) only [vd_S98_112 hM, vd_S98_120 hM, vd_S98_123 hM, vd_S98_140 hM, vd_S98_143 hM, vd_S98_150 hM, vd_S98_166 hM, vd_S98_170 hM, vd_S98_173 hM, p1, r1, t1, vd_rs_v, vd_rs_n, vd_I_add, vd_I_mul, vd_I_toInt, eq_false (show ¬ fi = 0 by omega), eq_false (show ¬ ((c : Int) = 0) by omega), if_false]
        exact amt ei t3 f3 _ a9 a10 d Q
    · rw [e70]
      by_cases c0 : c = 0
      · rw [if_pos c0] at t2
        simp (disch := omega) only [vd_S218_91 hN, vd_S218_96 hN, vd_S218_99 hN, vd_S218_113 hN, vd_S218_116 hN, vd_S218_123 hN, vd_S218_129 hN, vd_S218_140 hN, vd_S218_143 hN, p2, r2, t2, vd_rs_v, vd_rs_n, vd_I_add, vd_I_mul, vd_I_toInt, eq_false (show ¬ fi = 0 by omega), eq_true (show (c : Int) = 0 by omega), if_false, if_true]
        exact amtR ei t3 g3 _ a9 a10 d Q
      · rw [if_neg c0] at t2
        simp (disch := omega) only [vd_S218_91 hN, vd_S218_96 hN, vd_S218_99 hN, vd_S218_113 hN, vd_S218_116 hN, vd_S218_123 hN, vd_S218_136 hN, vd_S218_140 hN, vd_S218_143 hN, p2, r2, t2, vd_rs_v, vd_rs_n, vd_I_add, vd_I_mul, vd_I_toInt, eq_false (show ¬ fi = 0 by omega), eq_false (show ¬ ((c : Int) = 0) by omega), if_false]
        exact amtR ei t3 g3 _ a9 a10 d Q
    · split <;> omega
end VDDF
