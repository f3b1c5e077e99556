/-! ===== the bits of a plain header ===== -/
def vd_pb (f : Nat → Nat → Int32) (p e b : Int) : Prop := f 16 1 = vd_I p ∧ f 16 2 = vd_I e ∧ f 16 3 = vd_I b ∧ 0 ≤ p ∧ p ≤ e ∧ e ≤ 524288 ∧ 0 ≤ b ∧ b ≤ 8
def vd_qb (g : Nat → Nat → Int32) (p e b : Int) : Prop := g 63 74 = vd_I p ∧ g 63 75 = vd_I e ∧ g 63 76 = vd_I b ∧ 0 ≤ p ∧ p ≤ e ∧ e ≤ 524288 ∧ 0 ≤ b ∧ b ≤ 8
def vd_fP (f f' : Nat → Nat → Int32) : Prop := ∀ c i, ¬ (c = 16 ∧ (i = 1 ∨ i = 3)) → f' c i = f c i
def vd_gP (g g' : Nat → Nat → Int32) : Prop := ∀ c i, ¬ (c = 63 ∧ (i = 74 ∨ i = 76)) → g' c i = g c i
theorem vd_fP.refl (f : Nat → Nat → Int32) : vd_fP f f := fun _ _ _ => rfl
theorem vd_gP.refl (f : Nat → Nat → Int32) : vd_gP f f := fun _ _ _ => rfl
theorem vd_fP.trans {f f' f'' : Nat → Nat → Int32} (h : vd_fP f f') (h' : vd_fP f' f'') : vd_fP f f'' := fun c i q => (h' c i q).trans (h c i q)
theorem vd_gP.trans {f f' f'' : Nat → Nat → Int32} (h : vd_gP f f') (h' : vd_gP f' f'') : vd_gP f f'' := fun c i q => (h' c i q).trans (h c i q)
theorem vd_fP.up {f f' : Nat → Nat → Int32} {i : Nat} {v : Int32} (h : vd_fP f f') (hi : i = 1 ∨ i = 3) : vd_fP f (vd_up f' 16 i v) := fun c j q => by
  rw [vd_up_ne (by omega)]
  exact h c j q
theorem vd_gP.up {f f' : Nat → Nat → Int32} {i : Nat} {v : Int32} (h : vd_gP f f') (hi : i = 74 ∨ i = 76) : vd_gP f (vd_up f' 63 i v) := fun c j q => by
  rw [vd_up_ne (by omega)]
  exact h c j q
theorem vd_RT.keepP {f f' g g' : Nat → Nat → Int32} (h : vd_RT f g) (hf : vd_fP f f') (hg : vd_gP g g') : vd_RT f' g' := fun k hk => by
  rw [hf 11 k (by omega), hg 64 k (by omega)]
  exact h k hk
section VDPB
variable {M N : vd_M} {ow fa lo lf : Nat}
/-- number's loop, whatever the fault -/
theorem vd_numLoop (hM : vd_SC M ow fa lo lf) {w e : Int} (w1 : w ≤ 16) : ∀ (m : Nat) (f : Nat → Nat → Int32) (p b j v : Int), j + m = w → 0 ≤ j → 0 ≤ v → v < 2 ^ j.toNat → vd_pb f p e b → ∃ (f' : Nat → Nat → Int32) (p' b' r : Int), (∀ d Q, vd_wp d 30 4 [.ref 16, .int (vd_I w), .int (vd_I v), .int (vd_I j)] [] (vd_mf M f) Q = Q (vd_mf M f') (.inl (some (.int (vd_I r))))) ∧ 0 ≤ r ∧ r < 2 ^ w.toNat ∧ vd_pb f' p' e b' ∧ (b ≠ 0 → b' = b) ∧ vd_fP f f' := by
  intro m
  induction m with
  | zero =>
    intro f p b j v hj j0 v0 v1 h
    have hj : j = w := by omega
    subst hj
    refine ⟨f, p, b, v, fun d Q => ?_, v0, v1, h, fun _ => rfl, vd_fP.refl f⟩
    simp (disch := omega) only [vd_S30_4 hM, vd_S30_82 hM, vd_I_toInt, Int.lt_irrefl, if_false]
  | succ m ih =>
    intro f p b j v hj j0 v0 v1 h
    have h' := h
    obtain ⟨e1, e2, e3, b1, b2, b3, b4, b5⟩ := h'
    have hjw : j < w := by omega
    have e0 : (2 : Int) ^ (j + 1).toNat = 2 ^ j.toNat * 2 := by
      rw [show (j + 1).toNat = j.toNat + 1 by omega, Int.pow_succ]
    by_cases c : p < e
    · obtain ⟨y, hy, y0, y1⟩ := vd_b01 (f 11 (p / 8).toNat >>> (vd_I (7 - p % 8) &&& 31))
      obtain ⟨f', p', b', r, q1, q2, q3, q4, q5, q6⟩ := ih (vd_up f 16 1 (vd_I (p + 1))) (p + 1) b (j + 1) (v * 2 + y) (by omega) (by omega) (by omega) (by omega) ⟨vd_up_eq _ _ _ _, by rw [vd_up_ne (by omega)]; exact e2, by rw [vd_up_ne (by omega)]; exact e3, by omega, by omega, b3, b4, b5⟩
      refine ⟨f', p', b', r, fun d Q => ?_, q2, q3, q4, q5, ((vd_fP.refl f).up (Or.inl rfl)).trans q6⟩
      rw [vd_S30_4 hM]
      simp (disch := omega) only [vd_S30_0 hM, vd_S30_9 hM, vd_S30_24 hM, vd_S30_64 hM, vd_S30_71 hM, vd_S30_76 hM, vd_S30_82 hM, vd_S30_35 hM, e1, e2, vd_I_toInt, hjw, c, if_true, vd_shr3, vd_and7, vd_I_sub, hy, vd_I_mul, vd_I_add]
      exact q1 d Q
    · by_cases cb : b = 0
      · obtain ⟨f', p', b', r, q1, q2, q3, q4, q5, q6⟩ := ih (vd_up f 16 3 (vd_I 1)) p 1 (j + 1) (v * 2) (by omega) (by omega) (by omega) (by omega) ⟨by rw [vd_up_ne (by omega)]; exact e1, by rw [vd_up_ne (by omega)]; exact e2, vd_up_eq _ _ _ _, by omega, by omega, b3, by omega, by omega⟩
        refine ⟨f', p', b', r, fun d Q => ?_, q2, q3, q4, fun hb => absurd cb hb, ((vd_fP.refl f).up (Or.inr rfl)).trans q6⟩
        rw [vd_S30_4 hM]
        simp (disch := omega) only [vd_S30_0 hM, vd_S30_9 hM, vd_S30_24 hM, vd_S30_64 hM, vd_S30_71 hM, vd_S30_76 hM, vd_S30_82 hM, vd_S30_35 hM, e1, e2, e3, cb, vd_I_toInt, hjw, c, eq_self, if_true, if_false, vd_I_mul, vd_I_add]
        exact q1 d Q
      · obtain ⟨f', p', b', r, q1, q2, q3, q4, q5, q6⟩ := ih f p b (j + 1) (v * 2) (by omega) (by omega) (by omega) (by omega) h
        refine ⟨f', p', b', r, fun d Q => ?_, q2, q3, q4, q5, q6⟩
        rw [vd_S30_4 hM]
        simp (disch := omega) only [vd_S30_0 hM, vd_S30_9 hM, vd_S30_24 hM, vd_S30_64 hM, vd_S30_71 hM, vd_S30_76 hM, vd_S30_82 hM, vd_S30_35 hM, e1, e2, e3, cb, vd_I_toInt, hjw, c, if_true, if_false, vd_I_mul, vd_I_add]
        exact q1 d Q
theorem vd_numU (hM : vd_SC M ow fa lo lf) {w p e b : Int} {f : Nat → Nat → Int32} (w0 : 0 ≤ w) (w1 : w ≤ 16) (h : vd_pb f p e b) : ∃ (f' : Nat → Nat → Int32) (p' b' r : Int), (∀ d Q, vd_wp d 30 0 [.ref 16, .int (vd_I w), vd_U, vd_U] [] (vd_mf M f) Q = Q (vd_mf M f') (.inl (some (.int (vd_I r))))) ∧ 0 ≤ r ∧ r < 2 ^ w.toNat ∧ vd_pb f' p' e b' ∧ (b ≠ 0 → b' = b) ∧ vd_fP f f' := by
  obtain ⟨f', p', b', r, q1, q2⟩ := vd_numLoop hM w1 w.toNat f p b 0 0 (by omega) (by decide) (by decide) (by decide) h
  exact ⟨f', p', b', r, fun d Q => by rw [vd_S30_0 hM]; exact q1 d Q, q2⟩
/-- bits behind a fault -/
theorem vd_bitsB (hN : vd_SR N) {w p e b : Int} {g : Nat → Nat → Int32} (w0 : 0 ≤ w) (w1 : w ≤ 16) (h : vd_qb g p e b) (hb : b ≠ 0) (d : Nat) (Q : vd_M → (Option Value ⊕ Nat) → Prop) : vd_wp d 175 0 [.ref 63, .int (vd_I w), vd_U, vd_U] [] (vd_mf N g) Q = Q (vd_mf N g) (.inl (some (.int (vd_I 0)))) := by
  obtain ⟨e1, e2, e3, b1, b2, b3, b4, b5⟩ := h
  by_cases c : 0 < w
  · simp (disch := omega) only [vd_S175_4 hN, vd_S175_0 hN, vd_S175_9 hN, vd_S175_16 hN, vd_S175_27 hN, vd_S175_32 hN, vd_S175_39 hN, vd_S175_41 hN, vd_S175_87 hN, vd_S175_55 hN, e3, vd_I_toInt, hb, c, if_true, if_false]
  · simp (disch := omega) only [vd_S175_4 hN, vd_S175_0 hN, vd_S175_9 hN, vd_S175_16 hN, vd_S175_27 hN, vd_S175_32 hN, vd_S175_39 hN, vd_S175_41 hN, vd_S175_87 hN, vd_S175_55 hN, vd_I_toInt, c, if_false]
/-- number and bits, no fault yet -/
theorem vd_numRLoop (hM : vd_SC M ow fa lo lf) (hN : vd_SR N) {w e : Int} (w1 : w ≤ 16) : ∀ (m : Nat) (f g : Nat → Nat → Int32) (p j v : Int), j + m = w → 0 ≤ j → 0 ≤ v → v < 2 ^ j.toNat → vd_RT f g → vd_pb f p e 0 → vd_qb g p e 0 → ∃ (f' g' : Nat → Nat → Int32) (p' t' b' r s : Int), (∀ d Q, vd_wp d 30 4 [.ref 16, .int (vd_I w), .int (vd_I v), .int (vd_I j)] [] (vd_mf M f) Q = Q (vd_mf M f') (.inl (some (.int (vd_I r))))) ∧ (∀ d Q, vd_wp d 175 4 [.ref 63, .int (vd_I w), .int (vd_I v), .int (vd_I j)] [] (vd_mf N g) Q = Q (vd_mf N g') (.inl (some (.int (vd_I s))))) ∧ (0 ≤ r ∧ r < 2 ^ w.toNat ∧ 0 ≤ s ∧ s < 2 ^ w.toNat) ∧ vd_pb f' p' e b' ∧ vd_qb g' t' e b' ∧ (b' = 0 → r = s ∧ p' = t') ∧ vd_fP f f' ∧ vd_gP g g' := by
  intro m
  induction m with
  | zero =>
    intro f g p j v hj j0 v0 v1 hT h hg
    have hj : j = w := by omega
    subst hj
    refine ⟨f, g, p, p, 0, v, v, fun d Q => ?_, fun d Q => ?_, ⟨v0, v1, v0, v1⟩, h, hg, fun _ => ⟨rfl, rfl⟩, vd_fP.refl f, vd_gP.refl g⟩
    · simp (disch := omega) only [vd_S30_4 hM, vd_S30_82 hM, vd_I_toInt, Int.lt_irrefl, if_false]
    · simp (disch := omega) only [vd_S175_4 hN, vd_S175_87 hN, vd_I_toInt, Int.lt_irrefl, if_false]
  | succ m ih =>
    intro f g p j v hj j0 v0 v1 hT h hg
    have h' := h
    obtain ⟨e1, e2, e3, b1, b2, b3, b4, b5⟩ := h'
    have hg' := hg
    obtain ⟨g1, g2, g3, _⟩ := hg'
    have hjw : j < w := by omega
    have e0 : (2 : Int) ^ (j + 1).toNat = 2 ^ j.toNat * 2 := by
      rw [show (j + 1).toNat = j.toNat + 1 by omega, Int.pow_succ]
    have hpw : (0 : Int) < 2 ^ w.toNat := Int.pow_pos (by decide)
    by_cases c : p < e
    · obtain ⟨y, hy, y0, y1⟩ := vd_b01 (f 11 (p / 8).toNat >>> (vd_I (7 - p % 8) &&& 31))
      have ht : g 64 (p / 8).toNat = f 11 (p / 8).toNat := (hT (p / 8).toNat (by omega)).symm
      obtain ⟨f', g', p', t', b', r, s, q1, q2, q3, q4, q5, q6, q7, q8⟩ := ih (vd_up f 16 1 (vd_I (p + 1))) (vd_up g 63 74 (vd_I (p + 1))) (p + 1) (j + 1) (v * 2 + y) (by omega) (by omega) (by omega) (by omega) (hT.keepP ((vd_fP.refl f).up (Or.inl rfl)) ((vd_gP.refl g).up (Or.inl rfl))) ⟨vd_up_eq _ _ _ _, by rw [vd_up_ne (by omega)]; exact e2, by rw [vd_up_ne (by omega)]; exact e3, by omega, by omega, b3, b4, b5⟩ ⟨vd_up_eq _ _ _ _, by rw [vd_up_ne (by omega)]; exact g2, by rw [vd_up_ne (by omega)]; exact g3, by omega, by omega, b3, b4, b5⟩
      refine ⟨f', g', p', t', b', r, s, fun d Q => ?_, fun d Q => ?_, q3, q4, q5, q6, ((vd_fP.refl f).up (Or.inl rfl)).trans q7, ((vd_gP.refl g).up (Or.inl rfl)).trans q8⟩
      · rw [vd_S30_4 hM]
        simp (disch := omega) only [vd_S30_0 hM, vd_S30_9 hM, vd_S30_24 hM, vd_S30_64 hM, vd_S30_71 hM, vd_S30_76 hM, vd_S30_82 hM, vd_S30_35 hM, e1, e2, vd_I_toInt, hjw, c, if_true, vd_shr3, vd_and7, vd_I_sub, hy, vd_I_mul, vd_I_add]
        exact q1 d Q
      · rw [vd_S175_4 hN]
        simp (disch := omega) only [vd_S175_0 hN, vd_S175_9 hN, vd_S175_16 hN, vd_S175_27 hN, vd_S175_32 hN, vd_S175_39 hN, vd_S175_41 hN, vd_S175_87 hN, vd_S175_55 hN, g1, g2, g3, vd_I_toInt, hjw, c, eq_self, if_true, vd_I_div, ht, vd_I_sub, vd_I_mul, show 7 - (p - p / 8 * 8) = 7 - p % 8 by omega, hy, vd_I_mul, vd_I_add, Int.mul_comm 2 v]
        exact q2 d Q
    · obtain ⟨f', p', b', r, q1, q2, q3, q4, q5, q6⟩ := vd_numLoop hM w1 (e := e) m (vd_up f 16 3 (vd_I 1)) p 1 (j + 1) (v * 2) (by omega) (by omega) (by omega) (by omega) ⟨by rw [vd_up_ne (by omega)]; exact e1, by rw [vd_up_ne (by omega)]; exact e2, vd_up_eq _ _ _ _, by omega, by omega, b3, by omega, by omega⟩
      have hb := q5 (by decide)
      subst hb
      refine ⟨f', vd_up g 63 76 (vd_I 1), p', p, 1, r, 0, fun d Q => ?_, fun d Q => ?_, ⟨q2, q3, Int.le_refl 0, hpw⟩, q4, ⟨by rw [vd_up_ne (by omega)]; exact g1, by rw [vd_up_ne (by omega)]; exact g2, vd_up_eq _ _ _ _, b1, b2, b3, by decide, by decide⟩, fun q => absurd q (by decide), ((vd_fP.refl f).up (Or.inr rfl)).trans q6, (vd_gP.refl g).up (Or.inr rfl)⟩
      · rw [vd_S30_4 hM]
        simp (disch := omega) only [vd_S30_0 hM, vd_S30_9 hM, vd_S30_24 hM, vd_S30_64 hM, vd_S30_71 hM, vd_S30_76 hM, vd_S30_82 hM, vd_S30_35 hM, e1, e2, e3, vd_I_toInt, hjw, c, eq_self, if_true, if_false, vd_I_mul, vd_I_add]
        exact q1 d Q
      · simp (disch := omega) only [vd_S175_4 hN, vd_S175_0 hN, vd_S175_9 hN, vd_S175_16 hN, vd_S175_27 hN, vd_S175_32 hN, vd_S175_39 hN, vd_S175_41 hN, vd_S175_87 hN, vd_S175_55 hN, g1, g2, g3, vd_I_toInt, hjw, c, eq_self, if_true, if_false, vd_up_at, vd_ua_at, Nat.reduceEqDiff, Nat.reduceAdd, Nat.reduceMul, and_false, false_and, and_true, true_and, and_self, if_true, if_false, reduceIte, ne_eq, not_false_eq_true, not_true_eq_false, eq_self, show ¬ ((1 : Int) = 0) by decide]
theorem vd_num (hM : vd_SC M ow fa lo lf) (hN : vd_SR N) {w p e : Int} {f g : Nat → Nat → Int32} (w0 : 0 ≤ w) (w1 : w ≤ 16) (hT : vd_RT f g) (h : vd_pb f p e 0) (hg : vd_qb g p e 0) : ∃ (f' g' : Nat → Nat → Int32) (p' t' b' r s : Int), (∀ d Q, vd_wp d 30 0 [.ref 16, .int (vd_I w), vd_U, vd_U] [] (vd_mf M f) Q = Q (vd_mf M f') (.inl (some (.int (vd_I r))))) ∧ (∀ d Q, vd_wp d 175 0 [.ref 63, .int (vd_I w), vd_U, vd_U] [] (vd_mf N g) Q = Q (vd_mf N g') (.inl (some (.int (vd_I s))))) ∧ (0 ≤ r ∧ r < 2 ^ w.toNat ∧ 0 ≤ s ∧ s < 2 ^ w.toNat) ∧ vd_pb f' p' e b' ∧ vd_qb g' t' e b' ∧ (b' = 0 → r = s ∧ p' = t') ∧ vd_fP f f' ∧ vd_gP g g' := by
  obtain ⟨f', g', p', t', b', r, s, q1, q2, q3⟩ := vd_numRLoop hM hN w1 w.toNat f g p 0 0 (by omega) (by decide) (by decide) (by decide) hT h hg
  exact ⟨f', g', p', t', b', r, s, fun d Q => by rw [vd_S30_0 hM]; exact q1 d Q, fun d Q => by rw [vd_S175_0 hN]; exact q2 d Q, q3⟩
end VDPB
