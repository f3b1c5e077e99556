/-! ===== flags, signed numbers, faults ===== -/
theorem vd_pow1 : (2 : Int) ^ (1 : Int).toNat = 2 := by decide
section VDPC
variable {M N : vd_M} {ow fa lo lf : Nat}
theorem vd_flag_of (hM : vd_SC M ow fa lo lf) {f f' : Nat → Nat → Int32} {r : Int} (q : ∀ d Q, vd_wp d 30 0 [.ref 16, .int (vd_I 1), vd_U, vd_U] [] (vd_mf M f) Q = Q (vd_mf M f') (.inl (some (.int (vd_I r))))) (hr : r = 0 ∨ r = 1) (d : Nat) (Q : vd_M → (Option Value ⊕ Nat) → Prop) : vd_wp (d + 1) 32 0 [.ref 16] [] (vd_mf M f) Q = Q (vd_mf M f') (.inl (some (.int (vd_I r)))) := by
  rcases hr with rfl | rfl
  · simp (disch := first | decide | omega) only [vd_S32_0 hM, vd_S32_9 hM, vd_S32_13 hM, vd_S32_14 hM, vd_S32_2 hM, vd_S32_5 hM, q, vd_rs_v, vd_rs_n, vd_I_toInt, show ¬ ((0 : Int) = 1) by decide, if_false, vd_rok0]
  · simp (disch := first | decide | omega) only [vd_S32_0 hM, vd_S32_9 hM, vd_S32_13 hM, vd_S32_14 hM, vd_S32_2 hM, vd_S32_5 hM, q, vd_rs_v, vd_rs_n, vd_I_toInt, eq_self, if_true, vd_rok1]
theorem vd_is_of (hN : vd_SR N) {g g' : Nat → Nat → Int32} {r : Int} (q : ∀ d Q, vd_wp d 175 0 [.ref 63, .int (vd_I 1), vd_U, vd_U] [] (vd_mf N g) Q = Q (vd_mf N g') (.inl (some (.int (vd_I r))))) (hr : r = 0 ∨ r = 1) (d : Nat) (Q : vd_M → (Option Value ⊕ Nat) → Prop) : vd_wp (d + 1) 177 0 [.ref 63] [] (vd_mf N g) Q = Q (vd_mf N g') (.inl (some (.int (vd_I r)))) := by
  rcases hr with rfl | rfl
  · simp (disch := first | decide | omega) only [vd_S177_0 hN, vd_S177_9 hN, vd_S177_13 hN, vd_S177_14 hN, vd_S177_2 hN, vd_S177_5 hN, q, vd_rs_v, vd_rs_n, vd_I_toInt, show ¬ ((0 : Int) = 1) by decide, if_false, vd_rok0]
  · simp (disch := first | decide | omega) only [vd_S177_0 hN, vd_S177_9 hN, vd_S177_13 hN, vd_S177_14 hN, vd_S177_2 hN, vd_S177_5 hN, q, vd_rs_v, vd_rs_n, vd_I_toInt, eq_self, if_true, vd_rok1]
/-- flag, whatever the fault -/
theorem vd_flagU (hM : vd_SC M ow fa lo lf) {p e b : Int} {f : Nat → Nat → Int32} (h : vd_pb f p e b) : ∃ (f' : Nat → Nat → Int32) (p' b' r : Int), (∀ d Q, vd_wp (d + 1) 32 0 [.ref 16] [] (vd_mf M f) Q = Q (vd_mf M f') (.inl (some (.int (vd_I r))))) ∧ (r = 0 ∨ r = 1) ∧ vd_pb f' p' e b' ∧ (b ≠ 0 → b' = b) ∧ vd_fP f f' := by
  obtain ⟨f', p', b', r, q1, q2, q3, q4, q5, q6⟩ := vd_numU hM (w := 1) (by decide) (by decide) h
  rw [vd_pow1] at q3
  exact ⟨f', p', b', r, vd_flag_of hM q1 (by omega), by omega, q4, q5, q6⟩
/-- is behind a fault -/
theorem vd_isB (hN : vd_SR N) {p e b : Int} {g : Nat → Nat → Int32} (h : vd_qb g p e b) (hb : b ≠ 0) (d : Nat) (Q : vd_M → (Option Value ⊕ Nat) → Prop) : vd_wp (d + 1) 177 0 [.ref 63] [] (vd_mf N g) Q = Q (vd_mf N g) (.inl (some (.int (vd_I 0)))) := by
  exact vd_is_of hN (vd_bitsB hN (w := 1) (by decide) (by decide) h hb) (Or.inl rfl) d Q
/-- flag and is, no fault yet -/
theorem vd_flag (hM : vd_SC M ow fa lo lf) (hN : vd_SR N) {p e : Int} {f g : Nat → Nat → Int32} (hT : vd_RT f g) (h : vd_pb f p e 0) (hg : vd_qb g p e 0) : ∃ (f' g' : Nat → Nat → Int32) (p' t' b' r s : Int), (∀ d Q, vd_wp (d + 1) 32 0 [.ref 16] [] (vd_mf M f) Q = Q (vd_mf M f') (.inl (some (.int (vd_I r))))) ∧ (∀ d Q, vd_wp (d + 1) 177 0 [.ref 63] [] (vd_mf N g) Q = Q (vd_mf N g') (.inl (some (.int (vd_I s))))) ∧ ((r = 0 ∨ r = 1) ∧ (s = 0 ∨ s = 1)) ∧ vd_pb f' p' e b' ∧ vd_qb g' t' e b' ∧ (b' = 0 → r = s ∧ p' = t') ∧ vd_fP f f' ∧ vd_gP g g' := by
  obtain ⟨f', g', p', t', b', r, s, q1, q2, ⟨r0, r1, s0, s1⟩, q4⟩ := vd_num hM hN (w := 1) (by decide) (by decide) hT h hg
  rw [vd_pow1] at r1 s1
  exact ⟨f', g', p', t', b', r, s, vd_flag_of hM q1 (by omega), vd_is_of hN q2 (by omega), ⟨by omega, by omega⟩, q4⟩
/-- a fault is met: the class's meet -/
theorem vd_meetU (hM : vd_SC M ow fa lo lf) {p e b x : Int} {f : Nat → Nat → Int32} (h : vd_pb f p e b) (x0 : 0 ≤ x) (x1 : x ≤ 8) : ∃ (f' : Nat → Nat → Int32), (∀ d Q, vd_wp d 31 0 [.ref 16, .int (vd_I x)] [] (vd_mf M f) Q = Q (vd_mf M f') (.inl none)) ∧ vd_pb f' p e (if b = 0 then x else b) ∧ vd_fP f f' := by
  have h' := h
  obtain ⟨e1, e2, e3, b1, b2, b3, b4, b5⟩ := h'
  by_cases c : b = 0
  · refine ⟨vd_up f 16 3 (vd_I x), fun d Q => ?_, ?_, (vd_fP.refl f).up (Or.inr rfl)⟩
    · simp (disch := omega) only [vd_S31_0 hM, vd_S31_7 hM, vd_S31_12 hM, e3, c, vd_I_toInt, eq_self, if_true]
    · rw [if_pos c]
      exact ⟨by rw [vd_up_ne (by omega)]; exact e1, by rw [vd_up_ne (by omega)]; exact e2, vd_up_eq _ _ _ _, b1, b2, b3, x0, x1⟩
  · refine ⟨f, fun d Q => ?_, by rw [if_neg c]; exact h, vd_fP.refl f⟩
    simp (disch := omega) only [vd_S31_0 hM, vd_S31_7 hM, vd_S31_12 hM, e3, c, vd_I_toInt, if_false]
/-- the reference's need -/
theorem vd_needU (hN : vd_SR N) {p e b x y : Int} {g : Nat → Nat → Int32} (h : vd_qb g p e b) (x0 : 0 ≤ x) (x1 : x ≤ 8) (y0 : y = 0 ∨ y = 1) : ∃ (g' : Nat → Nat → Int32), (∀ d Q, vd_wp d 176 0 [.ref 63, .int (vd_I y), .int (vd_I x)] [] (vd_mf N g) Q = Q (vd_mf N g') (.inl none)) ∧ vd_qb g' p e (if b = 0 ∧ y = 0 then x else b) ∧ vd_gP g g' := by
  have h' := h
  obtain ⟨e1, e2, e3, b1, b2, b3, b4, b5⟩ := h'
  by_cases c : b = 0
  · by_cases cy : y = 0
    · refine ⟨vd_up g 63 76 (vd_I x), fun d Q => ?_, ?_, (vd_gP.refl g).up (Or.inr rfl)⟩
      · simp (disch := omega) only [vd_S176_0 hN, vd_S176_7 hN, vd_S176_11 hN, vd_S176_16 hN, e3, c, cy, vd_I_toInt, eq_self, if_true]
      · rw [if_pos ⟨c, cy⟩]
        exact ⟨by rw [vd_up_ne (by omega)]; exact e1, by rw [vd_up_ne (by omega)]; exact e2, vd_up_eq _ _ _ _, b1, b2, b3, x0, x1⟩
    · refine ⟨g, fun d Q => ?_, by rw [if_neg (by omega)]; exact h, vd_gP.refl g⟩
      simp (disch := omega) only [vd_S176_0 hN, vd_S176_7 hN, vd_S176_11 hN, vd_S176_16 hN, e3, c, cy, vd_I_toInt, eq_self, if_true, if_false]
  · refine ⟨g, fun d Q => ?_, by rw [if_neg (by omega)]; exact h, vd_gP.refl g⟩
    simp (disch := omega) only [vd_S176_0 hN, vd_S176_7 hN, vd_S176_11 hN, vd_S176_16 hN, e3, c, vd_I_toInt, if_false]
/-- signed, whatever the fault -/
theorem vd_signU (hM : vd_SC M ow fa lo lf) {w p e b : Int} {f : Nat → Nat → Int32} (w0 : 0 ≤ w) (w1 : w ≤ 16) (h : vd_pb f p e b) : ∃ (f' : Nat → Nat → Int32) (p' b' r : Int), (∀ d Q, vd_wp (d + 1) 40 0 [.ref 16, .int (vd_I w), vd_U] [] (vd_mf M f) Q = Q (vd_mf M f') (.inl (some (.int (vd_I r))))) ∧ (-(2 ^ w.toNat) < r ∧ r < 2 ^ w.toNat) ∧ vd_pb f' p' e b' ∧ (b ≠ 0 → b' = b) ∧ vd_fP f f' := by
  obtain ⟨f1, p1, b1, r1, q1, q2, q3, q4, q5, q6⟩ := vd_numU hM w0 w1 h
  obtain ⟨f2, p2, b2, r2, u1, u2, u3, u4, u5, u6⟩ := vd_numU hM (w := 1) (by decide) (by decide) q4
  rw [vd_pow1] at u3
  have hb : b ≠ 0 → b2 = b := fun hb => (u5 (by rw [q5 hb]; exact hb)).trans (q5 hb)
  by_cases c : r2 = 1
  · refine ⟨f2, p2, b2, -r1, fun d Q => ?_, ⟨by omega, by omega⟩, u4, hb, q6.trans u6⟩
    simp (disch := first | decide | omega) only [vd_S40_0 hM, vd_S40_15 hM, vd_S40_20 hM, vd_S40_21 hM, vd_S40_2 hM, vd_S40_5 hM, vd_S40_8 hM, vd_S40_11 hM, q1, u1, vd_rs_v, vd_rs_n, vd_I_toInt, c, eq_self, if_true, vd_I_neg]
  · refine ⟨f2, p2, b2, r1, fun d Q => ?_, ⟨by omega, by omega⟩, u4, hb, q6.trans u6⟩
    simp (disch := first | decide | omega) only [vd_S40_0 hM, vd_S40_15 hM, vd_S40_20 hM, vd_S40_21 hM, vd_S40_2 hM, vd_S40_5 hM, vd_S40_8 hM, vd_S40_11 hM, q1, u1, vd_rs_v, vd_rs_n, vd_I_toInt, c, if_false]
/-- signed behind a fault -/
theorem vd_signB (hN : vd_SR N) {w p e b : Int} {g : Nat → Nat → Int32} (w0 : 0 ≤ w) (w1 : w ≤ 16) (h : vd_qb g p e b) (hb : b ≠ 0) (d : Nat) (Q : vd_M → (Option Value ⊕ Nat) → Prop) : vd_wp (d + 2) 182 0 [.ref 63, .int (vd_I w), vd_U] [] (vd_mf N g) Q = Q (vd_mf N g) (.inl (some (.int (vd_I 0)))) := by
  have q := vd_bitsB hN w0 w1 h hb
  have q2 := vd_isB hN h hb
  simp (disch := first | decide | omega) only [vd_S182_0 hN, vd_S182_13 hN, vd_S182_18 hN, vd_S182_19 hN, vd_S182_2 hN, vd_S182_5 hN, vd_S182_7 hN, vd_S182_10 hN, q, q2, vd_rs_v, vd_rs_n, vd_I_toInt, eq_self, if_true]
/-- signed, no fault yet -/
theorem vd_sign (hM : vd_SC M ow fa lo lf) (hN : vd_SR N) {w p e : Int} {f g : Nat → Nat → Int32} (w0 : 0 ≤ w) (w1 : w ≤ 16) (hT : vd_RT f g) (h : vd_pb f p e 0) (hg : vd_qb g p e 0) : ∃ (f' g' : Nat → Nat → Int32) (p' t' b' r s : Int), (∀ d Q, vd_wp (d + 1) 40 0 [.ref 16, .int (vd_I w), vd_U] [] (vd_mf M f) Q = Q (vd_mf M f') (.inl (some (.int (vd_I r))))) ∧ (∀ d Q, vd_wp (d + 2) 182 0 [.ref 63, .int (vd_I w), vd_U] [] (vd_mf N g) Q = Q (vd_mf N g') (.inl (some (.int (vd_I s))))) ∧ ((-(2 ^ w.toNat) < r ∧ r < 2 ^ w.toNat) ∧ (-(2 ^ w.toNat) < s ∧ s < 2 ^ w.toNat)) ∧ vd_pb f' p' e b' ∧ vd_qb g' t' e b' ∧ (b' = 0 → r = s ∧ p' = t') ∧ vd_fP f f' ∧ vd_gP g g' := by
  obtain ⟨f1, g1, p1, t1, b1, r1, s1, q1, q2, ⟨r0, r1', s0, s1'⟩, q4, q5, q6, q7, q8⟩ := vd_num hM hN w0 w1 hT h hg
  by_cases c : b1 = 0
  · subst c
    obtain ⟨rfl, rfl⟩ := q6 rfl
    obtain ⟨f2, g2, p2, t2, b2, r2, s2, u1, u2, ⟨v0, v1, z0, z1⟩, u4, u5, u6, u7, u8⟩ := vd_num hM hN (w := 1) (by decide) (by decide) (hT.keepP q7 q8) q4 q5
    rw [vd_pow1] at v1 z1
    have hs := vd_is_of hN u2 (show s2 = 0 ∨ s2 = 1 by omega)
    refine ⟨f2, g2, p2, t2, b2, if r2 = 1 then -r1 else r1, if s2 = 0 then r1 else -r1, fun d Q => ?_, fun d Q => ?_, ⟨by split <;> omega, by split <;> omega⟩, u4, u5, fun hb => ?_, q7.trans u7, q8.trans u8⟩
    · by_cases k : r2 = 1
      · simp (disch := first | decide | omega) only [vd_S40_0 hM, vd_S40_15 hM, vd_S40_20 hM, vd_S40_21 hM, vd_S40_2 hM, vd_S40_5 hM, vd_S40_8 hM, vd_S40_11 hM, q1, u1, vd_rs_v, vd_rs_n, vd_I_toInt, k, eq_self, if_true, vd_I_neg]
      · simp (disch := first | decide | omega) only [vd_S40_0 hM, vd_S40_15 hM, vd_S40_20 hM, vd_S40_21 hM, vd_S40_2 hM, vd_S40_5 hM, vd_S40_8 hM, vd_S40_11 hM, q1, u1, vd_rs_v, vd_rs_n, vd_I_toInt, k, if_false]
    · by_cases k : s2 = 0
      · simp (disch := first | decide | omega) only [vd_S182_0 hN, vd_S182_13 hN, vd_S182_18 hN, vd_S182_19 hN, vd_S182_2 hN, vd_S182_5 hN, vd_S182_7 hN, vd_S182_10 hN, q2, hs, vd_rs_v, vd_rs_n, vd_I_toInt, k, eq_self, if_true]
      · simp (disch := first | decide | omega) only [vd_S182_0 hN, vd_S182_13 hN, vd_S182_18 hN, vd_S182_19 hN, vd_S182_2 hN, vd_S182_5 hN, vd_S182_7 hN, vd_S182_10 hN, q2, hs, vd_rs_v, vd_rs_n, vd_I_toInt, k, if_false, vd_I_neg]
    · obtain ⟨e1, e2⟩ := u6 hb
      refine ⟨?_, e2⟩
      rw [e1]
      by_cases k : s2 = 0
      · rw [if_pos k, if_neg (by omega)]
      · rw [if_neg k, if_pos (by omega)]
  · obtain ⟨f2, p2, b2, r2, u1, u2, u3, u4, u5, u6⟩ := vd_numU hM (w := 1) (by decide) (by decide) q4
    rw [u5 c] at u4
    have hs := vd_isB hN q5 c
    refine ⟨f2, g1, p2, t1, b1, if r2 = 1 then -r1 else r1, s1, fun d Q => ?_, fun d Q => ?_, ⟨by split <;> omega, by omega⟩, u4, q5, fun hb => absurd hb c, q7.trans u6, q8⟩
    · rw [vd_pow1] at u3
      by_cases k : r2 = 1
      · simp (disch := first | decide | omega) only [vd_S40_0 hM, vd_S40_15 hM, vd_S40_20 hM, vd_S40_21 hM, vd_S40_2 hM, vd_S40_5 hM, vd_S40_8 hM, vd_S40_11 hM, q1, u1, vd_rs_v, vd_rs_n, vd_I_toInt, k, eq_self, if_true, vd_I_neg]
      · simp (disch := first | decide | omega) only [vd_S40_0 hM, vd_S40_15 hM, vd_S40_20 hM, vd_S40_21 hM, vd_S40_2 hM, vd_S40_5 hM, vd_S40_8 hM, vd_S40_11 hM, q1, u1, vd_rs_v, vd_rs_n, vd_I_toInt, k, if_false]
    · simp (disch := first | decide | omega) only [vd_S182_0 hN, vd_S182_13 hN, vd_S182_18 hN, vd_S182_19 hN, vd_S182_2 hN, vd_S182_5 hN, vd_S182_7 hN, vd_S182_10 hN, q2, hs, vd_rs_v, vd_rs_n, vd_I_toInt, eq_self, if_true]
end VDPC
