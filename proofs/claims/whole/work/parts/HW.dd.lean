/-! ===== decode: the frames of an index ===== -/
section VDDD
variable {Z : Nat → Nat → Nat → Nat}
theorem vd_dcLoop {T : Nat → Nat} {n s mn at_ : Nat} (h : vd_IX T n s mn at_) (tot : vd_sm (vd_Lx T s at_) mn ≤ at_) (x2 : Int32) (u5 : Int64) : ∀ (r i : Nat) (M N : vd_M) (ow fa lo lf : Nat) (f g : Nat → Nat → Int32) (a7 a9 : Value), i + r = mn → vd_INV M N ow fa lo lf Z f g → f 10 2 = vd_I 0 → f 10 3 = vd_I (-1) → g 63 3 = vd_I 0 → g 63 4 = vd_I (-1) → vd_Tp f 11 = T → ∃ (M' N' : vd_M) (ow' fa' lo' lf' : Nat) (f' g' : Nat → Nat → Int32) (x5 x6 : Int32) (c7 : Value), (∀ d Q, vd_wp (d + 11) 22 84 [.ref 10, .int (vd_I (n : Int)), .int x2, .int (vd_I ((n - at_ : Nat) : Int)), .int (vd_I (mn : Int)), .int (vd_I ((vd_sm (vd_Lx T s at_) i : Nat) : Int)), .int (vd_I (i : Int)), a7] [] (vd_mf M f) Q = vd_wp (d + 11) 22 166 [.ref 10, .int (vd_I (n : Int)), .int x2, .int (vd_I ((n - at_ : Nat) : Int)), .int (vd_I (mn : Int)), .int x5, .int x6, c7] [] (vd_mf M' f') Q) ∧ (∀ d Q, vd_wp (d + 15) 171 68 [.ref 63, .int (vd_I (n : Int)), .int (vd_I (s : Int)), .int (vd_I (mn : Int)), .int (vd_I (at_ : Int)), .long u5, vd_U, .int (vd_I ((vd_sm (vd_Lx T s at_) i : Nat) : Int)), .int (vd_I (i : Int)), a9] [] (vd_mf N g) Q = Q (vd_mf N' g') (.inl none)) ∧ vd_INV M' N' ow' fa' lo' lf' Z f' g' ∧ ((f' 10 2 = g' 63 3 ∧ f' 10 3 = g' 63 4) ∧ ∃ b : Int, g' 63 3 = vd_I b ∧ (0 ≤ b ∧ b ≤ 8)) ∧ ((∀ i, f' 11 i = f 11 i) ∧ f' 10 1 = f 10 1) ∧ vd_Le M M' f f' 0 0 ∧ vd_Lq N N' g g' r (6 * r) := by
  have hh := h
  obtain ⟨⟨n1, n2⟩, _, _, ee, s4, s1, m8, m1⟩ := hh
  have lU := vd_lgU
  intro r
  induction r with
  | zero =>
    intro i M N ow fa lo lf f g a7 a9 hi hI h2 h3 k3 k4 hT
    have hM := hI.1.1
    have hN := hI.1.2.1
    have : i = mn := by omega
    subst this
    refine ⟨M, N, ow, fa, lo, lf, f, g, vd_I ((vd_sm (vd_Lx T s at_) i : Nat) : Int), vd_I (i : Int), a7, fun d Q => ?_, fun d Q => ?_, hI, ⟨⟨by rw [h2, k3], by rw [h3, k4]⟩, 0, k3, by decide, by decide⟩, ⟨fun _ => rfl, rfl⟩, vd_Le.ints (fun _ _ _ => rfl), vd_Lq.ints (fun _ _ _ => rfl)⟩
    · rw [vd_S22_84 hM]
      simp (disch := omega) only [vd_I_toInt, show ¬ ((i : Int) < (i : Int)) by omega, if_false]
    · rw [vd_S171_68 hN]
      simp (disch := omega) only [vd_I_toInt, show ¬ ((i : Int) < (i : Int)) by omega, if_false, vd_S171_129 hN]
  | succ r ih =>
    intro i M N ow fa lo lf f g a7 a9 hi hI h2 h3 k3 k4 hT
    have hM := hI.1.1
    have hN := hI.1.2.1
    have hRT := hI.2.1.1
    have iM : i < mn := by omega
    have hTg : ∀ i, i < 65536 → vd_Tp g 64 i = T i := fun i hi => by
      rw [← hT]
      unfold vd_Tp
      rw [hRT i hi]
    have p25 := fun (d : Nat) Q => vd_Q25 hM (f := f) (by rw [hT]; exact h) iM d Q
    rw [hT] at p25
    have p172 := fun (d : Nat) Q => vd_Q172 hN hTg h iM d Q
    obtain ⟨l, hl⟩ : ∃ l, l = vd_Lx T s at_ i := ⟨_, rfl⟩
    rw [← hl] at p25 p172
    have hsm : vd_sm (vd_Lx T s at_) (i + 1) = vd_sm (vd_Lx T s at_) i + l := by rw [hl]; rfl
    have hle := vd_sm_le (vd_Lx T s at_) mn (i + 1) (by omega)
    obtain ⟨fr, hfr⟩ : ∃ fr, fr = vd_sm (vd_Lx T s at_) i := ⟨_, rfl⟩
    rw [← hfr] at hsm ⊢
    rw [hsm] at hle
    have ei : (i : Int) + 1 = ((i + 1 : Nat) : Int) := by omega
    have ef : (fr : Int) + (l : Int) = ((fr + l : Nat) : Int) := by omega
    have ea : (at_ : Int) + 1 + (s : Int) * (i : Int) = ((at_ + 1 + s * i : Nat) : Int) := by
      have : ((s * i : Nat) : Int) = (s : Int) * (i : Int) := Int.natCast_mul s i
      omega
    have eC : ∀ d Q, vd_wp (d + 11) 22 84 [.ref 10, .int (vd_I (n : Int)), .int x2, .int (vd_I ((n - at_ : Nat) : Int)), .int (vd_I (mn : Int)), .int (vd_I (fr : Int)), .int (vd_I (i : Int)), a7] [] (vd_mf M f) Q = vd_wp (d + 11) 22 117 [.ref 10, .int (vd_I (n : Int)), .int x2, .int (vd_I ((n - at_ : Nat) : Int)), .int (vd_I (mn : Int)), .int (vd_I (fr : Int)), .int (vd_I (i : Int)), a7] [.int (vd_I (l : Int)), .int (vd_I (fr : Int))] (vd_mf M f) Q := fun d Q => by
      rw [vd_S22_84 hM]
      simp (disch := omega) only [vd_I_toInt, show ((i : Int) < (mn : Int)) by omega, if_true, vd_S22_91 hM, h2, eq_self, vd_S22_98 hM, show ¬ (((n - at_ : Nat) : Int) = 0) by omega, if_false, vd_S22_108 hM, vd_S22_113 hM, p25, vd_rs_v, vd_S22_116 hM, vd_J_to]
    have eR : ∀ d Q, vd_wp (d + 15) 171 68 [.ref 63, .int (vd_I (n : Int)), .int (vd_I (s : Int)), .int (vd_I (mn : Int)), .int (vd_I (at_ : Int)), .long u5, vd_U, .int (vd_I (fr : Int)), .int (vd_I (i : Int)), a9] [] (vd_mf N g) Q = vd_wp (d + 15) 171 95 [.ref 63, .int (vd_I (n : Int)), .int (vd_I (s : Int)), .int (vd_I (mn : Int)), .int (vd_I (at_ : Int)), .long u5, vd_U, .int (vd_I (fr : Int)), .int (vd_I (i : Int)), a9] [.long (vd_J (l : Int))] (vd_mf N g) Q := fun d Q => by
      rw [vd_S171_68 hN]
      simp (disch := omega) only [vd_I_toInt, show ((i : Int) < (mn : Int)) by omega, if_true, vd_S171_74 hN, k3, eq_self, vd_S171_81 hN, vd_I_add, vd_I_mul, ea, vd_S171_92 hN, p172, vd_rs_v]
    by_cases cl : l = 0
    · have hsm' : vd_sm (vd_Lx T s at_) (i + 1) = fr := by rw [hsm, cl]; rfl
      obtain ⟨M', N', ow', fa', lo', lf', f', g', x5, x6, c7, q1, q2, q3, q4, q5, q6, q7⟩ := ih (i + 1) M N ow fa lo lf f g (.int (vd_I (fr : Int))) (.int (vd_I (l : Int))) (by omega) hI h2 h3 k3 k4 hT
      rw [hsm'] at q1 q2
      have ef0 : (fr : Int) + (l : Int) = (fr : Int) := by omega
      refine ⟨M', N', ow', fa', lo', lf', f', g', x5, x6, c7, fun d Q => ?_, fun d Q => ?_, q3, q4, q5, q6, q7.mono (by omega) (by omega)⟩
      · rw [eC d Q, ← q1 d Q]
        simp (disch := omega) only [vd_S22_117 hM, vd_I_add, ef0, vd_I_toInt, show ¬ ((fr : Int) < (fr : Int)) by omega, if_false, vd_S22_156 hM, ei]
      · rw [eR d Q, ← q2 d Q]
        simp (disch := first | assumption | omega) only [vd_S171_95 hN, vd_J_to, vd_I_toInt, show ¬ (0 < (l : Int)) by omega, if_false, vd_S171_116 hN, vd_I_add, ef0, ei]
    · obtain ⟨M1, N1, f1, g1, ow1, fa1, lo1, lf1, b, e1, e2, ⟨b0, b8⟩, hI1, lc, lq, g3, g4⟩ := vd_frame hI (fr := (fr : Int)) (to := ((fr + l : Nat) : Int)) (by omega) (by omega) (by omega) (vd_I (i : Int))
      have hM1 := hI1.1.1
      have hN1 := hI1.1.2.1
      have c101 : ∀ j, j ≤ 3 → f1 10 j = f 10 j := fun j hj => lc.1 10 j (by omega)
      have c11 : ∀ j, f1 11 j = f 11 j := fun j => lc.1 11 j (by omega)
      have eC2 : ∀ d Q, vd_wp (d + 11) 22 84 [.ref 10, .int (vd_I (n : Int)), .int x2, .int (vd_I ((n - at_ : Nat) : Int)), .int (vd_I (mn : Int)), .int (vd_I (fr : Int)), .int (vd_I (i : Int)), a7] [] (vd_mf M f) Q = vd_wp (d + 11) 22 136 [.ref 10, .int (vd_I (n : Int)), .int x2, .int (vd_I ((n - at_ : Nat) : Int)), .int (vd_I (mn : Int)), .int (vd_I (fr : Int)), .int (vd_I (i : Int)), .int (vd_I ((fr + l : Nat) : Int))] [.int (vd_I b), .ref 10] (vd_mf M1 f1) Q := fun d Q => by
        rw [eC d Q]
        simp (disch := omega) only [vd_S22_117 hM, vd_I_add, ef, vd_I_toInt, show ((fr : Int) < ((fr + l : Nat) : Int)) by omega, if_true, vd_S22_127 hM, vd_S22_133 hM, e1, vd_rs_v]
      have eR2 : ∀ d Q, vd_wp (d + 15) 171 68 [.ref 63, .int (vd_I (n : Int)), .int (vd_I (s : Int)), .int (vd_I (mn : Int)), .int (vd_I (at_ : Int)), .long u5, vd_U, .int (vd_I (fr : Int)), .int (vd_I (i : Int)), a9] [] (vd_mf N g) Q = vd_wp (d + 15) 171 68 [.ref 63, .int (vd_I (n : Int)), .int (vd_I (s : Int)), .int (vd_I (mn : Int)), .int (vd_I (at_ : Int)), .long u5, vd_U, .int (vd_I ((fr + l : Nat) : Int)), .int (vd_I ((i + 1 : Nat) : Int)), .int (vd_I (l : Int))] [] (vd_mf N1 g1) Q := fun d Q => by
        rw [eR d Q]
        simp (disch := first | assumption | omega) only [vd_S171_95 hN, vd_J_to, vd_I_toInt, show (0 < (l : Int)) by omega, if_true, vd_S171_103 hN, vd_I_add, ef, vd_S171_113 hN, e2, vd_rs_n, vd_S171_116 hN1, ei]
      by_cases cb : b = 0
      · subst cb
        rw [if_pos rfl] at g3 g4
        obtain ⟨f2, hf2⟩ : ∃ f2, f2 = vd_up (vd_up f1 10 2 (vd_I 0)) 10 3 (vd_I (-1)) := ⟨_, rfl⟩
        have kf2 : ∀ c j, ¬ (c = 10 ∧ (j = 2 ∨ j = 3)) → f2 c j = f1 c j := fun c j q => by rw [hf2, vd_up_ne (by omega), vd_up_ne (by omega)]
        have hI2 : vd_INV M1 N1 ow1 fa1 lo1 lf1 Z f2 g1 := hI1.num (fun c j q => kf2 c j (by omega)) (fun _ _ _ => rfl)
        have hT2 : vd_Tp f2 11 = T := by
          rw [← hT]
          funext j
          unfold vd_Tp
          rw [kf2 11 j (by omega), c11 j]
        obtain ⟨M', N', ow', fa', lo', lf', f', g', x5, x6, c7, q1, q2, q3, q4, ⟨q5, q5'⟩, q6, q7⟩ := ih (i + 1) M1 N1 ow1 fa1 lo1 lf1 f2 g1 (.int (vd_I ((fr + l : Nat) : Int))) (.int (vd_I (l : Int))) (by omega) hI2 (by rw [hf2, vd_up_ne (by omega), vd_up_eq]) (by rw [hf2, vd_up_eq]) (by rw [g3, k3]) (by rw [g4, k4]) hT2
        rw [hsm] at q1 q2
        have l2 : vd_Le M1 M1 f1 f2 0 0 := vd_Le.ints (fun c j q => kf2 c j (by omega))
        refine ⟨M', N', ow', fa', lo', lf', f', g', x5, x6, c7, fun d Q => ?_, fun d Q => ?_, q3, q4, ⟨fun j => by rw [q5 j, kf2 11 j (by omega), c11 j], by rw [q5', kf2 10 1 (by omega), c101 1 (by omega)]⟩, (lc.e.trans l2).trans q6, (lq.trans q7).mono (by omega) (by omega)⟩
        · rw [eC2 d Q, ← q1 d Q]
          simp (disch := omega) only [vd_S22_136 hM1, vd_I_toInt, eq_self, if_true, vd_S22_147 hM1, vd_S22_153 hM1, ← hf2, vd_S22_156 hM1, vd_I_add, ei]
        · rw [eR2 d Q, ← q2 d Q]
      · rw [if_neg cb] at g3 g4
        obtain ⟨f2, hf2⟩ : ∃ f2, f2 = vd_up (vd_up f1 10 2 (vd_I b)) 10 3 (vd_I (i : Int)) := ⟨_, rfl⟩
        have kf2 : ∀ c j, ¬ (c = 10 ∧ (j = 2 ∨ j = 3)) → f2 c j = f1 c j := fun c j q => by rw [hf2, vd_up_ne (by omega), vd_up_ne (by omega)]
        have hI2 : vd_INV M1 N1 ow1 fa1 lo1 lf1 Z f2 g1 := hI1.num (fun c j q => kf2 c j (by omega)) (fun _ _ _ => rfl)
        have f102 : f2 10 2 = vd_I b := by rw [hf2, vd_up_ne (by omega), vd_up_eq]
        have l2 : vd_Le M1 M1 f1 f2 0 0 := vd_Le.ints (fun c j q => kf2 c j (by omega))
        refine ⟨M1, N1, ow1, fa1, lo1, lf1, f2, g1, vd_I ((fr + l : Nat) : Int), vd_I ((i + 1 : Nat) : Int), .int (vd_I ((fr + l : Nat) : Int)), fun d Q => ?_, fun d Q => ?_, hI2, ⟨⟨by rw [f102, g3], by rw [hf2, vd_up_eq, g4]⟩, b, g3, b0, b8⟩, ⟨fun j => by rw [kf2 11 j (by omega), c11 j], by rw [kf2 10 1 (by omega), c101 1 (by omega)]⟩, lc.e.trans l2, lq.mono (by omega) (by omega)⟩
        · have e84 : vd_wp (d + 11) 22 84 [.ref 10, .int (vd_I (n : Int)), .int x2, .int (vd_I ((n - at_ : Nat) : Int)), .int (vd_I (mn : Int)), .int (vd_I ((fr + l : Nat) : Int)), .int (vd_I ((i + 1 : Nat) : Int)), .int (vd_I ((fr + l : Nat) : Int))] [] (vd_mf M1 f2) Q = vd_wp (d + 11) 22 166 [.ref 10, .int (vd_I (n : Int)), .int x2, .int (vd_I ((n - at_ : Nat) : Int)), .int (vd_I (mn : Int)), .int (vd_I ((fr + l : Nat) : Int)), .int (vd_I ((i + 1 : Nat) : Int)), .int (vd_I ((fr + l : Nat) : Int))] [] (vd_mf M1 f2) Q := by
            rw [vd_S22_84 hM1]
            by_cases c : ((i + 1 : Nat) : Int) < (mn : Int)
            · simp (disch := omega) only [vd_I_toInt, c, if_true, vd_S22_91 hM1, f102, cb, if_false]
            · simp (disch := omega) only [vd_I_toInt, c, if_false]
          rw [eC2 d Q, ← e84]
          simp (disch := omega) only [vd_S22_136 hM1, vd_I_toInt, cb, if_false, vd_S22_151 hM1, vd_S22_153 hM1, ← hf2, vd_S22_156 hM1, vd_I_add, ei]
        · rw [eR2 d Q, vd_S171_68 hN1]
          by_cases c : ((i + 1 : Nat) : Int) < (mn : Int)
          · simp (disch := omega) only [vd_I_toInt, c, if_true, vd_S171_74 hN1, g3, cb, if_false, vd_S171_129 hN1]
          · simp (disch := omega) only [vd_I_toInt, c, if_false, vd_S171_129 hN1]
end VDDD
