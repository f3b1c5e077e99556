/-! ===== the filter: a line, by the class ===== -/
def vd_ok3 (L : Int) (v : Int → Int) : Nat → Int → Int
  | 0, _ => 1
  | n + 1, k => if L < vd_av (v (-1 - k) - v (-2 - k)) ∨ L < vd_av (v k - v (k + 1)) then 0 else vd_ok3 L v n (k + 1)
def vd_gap (v : Int → Int) : Int := 2 * vd_av (v (-1) - v 0) + vd_av (v (-2) - v 1) / 2
/-- what a line becomes -/
def vd_lnw (L E t n : Int) (v : Int → Int) : Int → Int := if vd_ok3 L v 3 0 = 0 ∨ E < vd_gap v then v else if n < 8 ∨ vd_eq3 v 3 1 = 0 then vd_nwr t v else if n < 16 ∨ vd_eq3 v 4 4 = 0 then vd_mr 3 v else vd_mr 7 v
section VDFL
variable {M N : vd_M} {ow fa lo lf p s : Nat} {b0 st m n L : Int} {v : Int → Int} {f : Nat → Nat → Int32}
theorem vd_L142 (hM : vd_SC M ow fa lo lf) (hp : vd_PC M p s) (h605 : vd_r M 60 5 = some s) (lc : vd_LC s b0 st m v f) (hv : vd_vb v) (hm : 4 ≤ m) (h7 : f 60 7 = vd_I L) (hL : -1000 ≤ L ∧ L ≤ 1000) (bb : 0 ≤ b0 ∧ b0 < 55296) : ∀ (q : Nat) (k : Int) (a5 a6 : Value), k + q = 3 → 0 ≤ k → ∃ b5 b6 : Value, ∀ d Q, vd_wp (d + 1) 142 3 [.ref 60, .int (vd_I b0), .int (vd_I st), .int (vd_I n), .int (vd_I k), a5, a6] [] (vd_mf M f) Q = if vd_ok3 L v q k = 0 then Q (vd_mf M f) (.inl none) else vd_wp (d + 1) 142 88 [.ref 60, .int (vd_I b0), .int (vd_I st), .int (vd_I n), .int (vd_I 3), b5, b6] [] (vd_mf M f) Q := by
  obtain ⟨⟨hk7, hrs⟩, ⟨hks, hls⟩, hp1, hp2, hp3⟩ := id hp
  obtain ⟨s0, s1, l⟩ := id lc
  intro q
  induction q with
  | zero =>
    intro k a5 a6 hk k0
    have e : k = 3 := by omega
    subst e
    refine ⟨a5, a6, fun d Q => ?_⟩
    rw [vd_S142_3 hM]
    simp (disch := omega) only [vd_I_toInt, Int.lt_irrefl, if_false, vd_ok3, show ¬ ((1 : Int) = 0) by decide]
  | succ q ih =>
    intro k a5 a6 hk k0
    have A := fun (z : Int) (h : -100000 ≤ z ∧ z ≤ 100000) => vd_abP (M := M) (f := f) h
    obtain ⟨y0, y1, yv⟩ := l (-1 - k) (by omega) (by omega)
    obtain ⟨w0, w1, wv⟩ := l (-2 - k) (by omega) (by omega)
    obtain ⟨t0, t1, tv⟩ := l k (by omega) (by omega)
    obtain ⟨u0, u1, uv⟩ := l (k + 1) (by omega) (by omega)
    have h1 := hv (-1 - k)
    have h2 := hv (-2 - k)
    have h3 := hv k
    have h4 := hv (k + 1)
    have kst : 0 ≤ k * st ∧ k * st ≤ 2000 := by
      have a1 : 0 ≤ k * st := Int.mul_nonneg (by omega) (by omega)
      have a2 : k * st ≤ 8 * st := Int.mul_le_mul_of_nonneg_right (by omega) (by omega)
      omega
    have kst1 : (k + 1) * st = k * st + st := by rw [Int.add_mul, Int.one_mul]
    have n1 : (-1 - k) * st = -(k * st + st) := by rw [show (-1 - k) = -(k + 1) by omega, Int.neg_mul, kst1]
    have n2 : (-2 - k) * st = -(k * st + st + st) := by rw [show (-2 - k) = -(k + 1 + 1) by omega, Int.neg_mul, Int.add_mul, Int.one_mul, kst1]
    have e1 : b0 - (k + 1) * st = b0 + (-1 - k) * st := by omega
    have e2 : b0 + (-1 - k) * st - st = b0 + (-2 - k) * st := by omega
    have e3 : b0 + k * st + st = b0 + (k + 1) * st := by omega
    have q1 := vd_av_b (z := v (-1 - k) - v (-2 - k)) (c := 255) (by omega) (by omega)
    have q2 := vd_av_b (z := v k - v (k + 1)) (c := 255) (by omega) (by omega)
    have c3 : k < 3 := by omega
    obtain ⟨b5, b6, hi⟩ := ih (k + 1) (.int (vd_I (b0 + (-1 - k) * st))) (.int (vd_I (b0 + k * st))) (by omega) (by omega)
    have first : ∀ d Q, vd_wp (d + 1) 142 3 [.ref 60, .int (vd_I b0), .int (vd_I st), .int (vd_I n), .int (vd_I k), a5, a6] [] (vd_mf M f) Q = vd_wp (d + 1) 142 47 [.ref 60, .int (vd_I b0), .int (vd_I st), .int (vd_I n), .int (vd_I k), .int (vd_I (b0 + (-1 - k) * st)), .int (vd_I (b0 + k * st))] [.int (vd_I (vd_av (v (-1 - k) - v (-2 - k))))] (vd_mf M f) Q := by
      intro d Q
      rw [vd_S142_3 hM]
      simp (disch := omega) only [vd_I_toInt, c3, if_true, vd_S142_9 hM, vd_I_add, vd_I_mul, vd_I_sub, e1, h605, vd_vr_some]
      rw [vd_S142_33 hM _ _ _ _ _ _ _ _ _ _ _ y0 (by rw [hls]; exact y1) (by omega) hks]
      simp (disch := omega) only [vd_I_sub, e2, h605, vd_vr_some, yv]
      rw [vd_S142_42 hM _ _ _ _ _ _ _ _ _ _ _ _ w0 (by rw [hls]; exact w1) (by omega) hks]
      simp (disch := omega) only [vd_I_sub, wv, vd_S142_44 hM, A, vd_rs_v, vd_rs_n]
    have second : ∀ d Q, vd_wp (d + 1) 142 54 [.ref 60, .int (vd_I b0), .int (vd_I st), .int (vd_I n), .int (vd_I k), .int (vd_I (b0 + (-1 - k) * st)), .int (vd_I (b0 + k * st))] [] (vd_mf M f) Q = vd_wp (d + 1) 142 74 [.ref 60, .int (vd_I b0), .int (vd_I st), .int (vd_I n), .int (vd_I k), .int (vd_I (b0 + (-1 - k) * st)), .int (vd_I (b0 + k * st))] [.int (vd_I (vd_av (v k - v (k + 1))))] (vd_mf M f) Q := by
      intro d Q
      rw [vd_S142_54 hM, h605]
      simp only [vd_vr_some]
      rw [vd_S142_60 hM _ _ _ _ _ _ _ _ _ _ _ t0 (by rw [hls]; exact t1) (by omega) hks]
      simp (disch := omega) only [vd_I_add, e3, h605, vd_vr_some, tv]
      rw [vd_S142_69 hM _ _ _ _ _ _ _ _ _ _ _ _ u0 (by rw [hls]; exact u1) (by omega) hks]
      simp (disch := omega) only [vd_I_sub, uv, vd_S142_71 hM, A, vd_rs_v, vd_rs_n]
    refine ⟨b5, b6, fun d Q => ?_⟩
    rw [first, vd_S142_47 hM, h7, vd_I_toInt (by omega) (by omega), vd_I_toInt (by omega) (by omega)]
    by_cases c1 : L < vd_av (v (-1 - k) - v (-2 - k))
    · have eo : vd_ok3 L v (q + 1) k = 0 := by simp only [vd_ok3]; exact if_pos (Or.inl c1)
      rw [if_pos c1, if_pos eo, vd_S142_81 hM]
    · rw [if_neg c1, second, vd_S142_74 hM, h7, vd_I_toInt (by omega) (by omega), vd_I_toInt (by omega) (by omega)]
      by_cases c2 : L < vd_av (v k - v (k + 1))
      · have eo : vd_ok3 L v (q + 1) k = 0 := by simp only [vd_ok3]; exact if_pos (Or.inr c2)
        rw [if_pos c2, if_pos eo, vd_S142_81 hM]
      · have eo : vd_ok3 L v (q + 1) k = vd_ok3 L v q (k + 1) := by simp only [vd_ok3]; exact if_neg (by omega)
        rw [if_neg c2, eo, vd_S142_82 hM, vd_I_add]
        exact hi d Q
theorem vd_P142 (hM : vd_SC M ow fa lo lf) (hp : vd_PC M p s) (h605 : vd_r M 60 5 = some s) (lc : vd_LC s b0 st m v f) (hv : vd_vb v) (hn : (n < 16 ∧ 4 ≤ m) ∨ 8 ≤ m) (n0 : 0 ≤ n ∧ n ≤ 64) {lev E : Int} (h6 : f 60 6 = vd_I lev) (l0 : 0 ≤ lev ∧ lev ≤ 63) (h7 : f 60 7 = vd_I L) (hL : -1000 ≤ L ∧ L ≤ 1000) (h8 : f 60 8 = vd_I E) (hE : -1000 ≤ E ∧ E ≤ 1000) : ∃ (f' : Nat → Nat → Int32) (c : Int), (∀ d Q, vd_wp (d + 3) 142 0 [.ref 60, .int (vd_I b0), .int (vd_I st), .int (vd_I n), vd_U, vd_U, vd_U] [] (vd_mf M f) Q = Q (vd_mf M f') (.inl none)) ∧ vd_LC s b0 st m (vd_lnw L E (lev / 16) n v) f' ∧ f' 60 2 = f 60 2 + vd_I c ∧ vd_ch c v (vd_lnw L E (lev / 16) n v) ∧ vd_vb (vd_lnw L E (lev / 16) n v) ∧ (∀ k j, k ≠ s → k ≠ 62 → ¬ (k = 60 ∧ (j = 9 ∨ j = 2)) → f' k j = f k j) ∧ (∀ j, (∀ i : Int, -m ≤ i → i < m → j ≠ (b0 + i * st).toNat) → f' s j = f s j) := by
  obtain ⟨⟨hk7, hrs⟩, ⟨hks, hls⟩, hp1, hp2, hp3⟩ := id hp
  obtain ⟨s0, s1, l⟩ := id lc
  have m4 : 4 ≤ m := by omega
  obtain ⟨y0, y1, yv⟩ := l (-2) (by omega) (by omega)
  obtain ⟨w0, w1, wv⟩ := l (-1) (by omega) (by omega)
  obtain ⟨u0, u1, uv⟩ := l 0 (by omega) (by omega)
  obtain ⟨t0, t1, tv⟩ := l 1 (by omega) (by omega)
  have h1 := hv (-2)
  have h2 := hv (-1)
  have h3 := hv 0
  have h4 := hv 1
  have e1 : b0 - 2 * st = b0 + -2 * st := by omega
  have e2 : b0 - st = b0 + -1 * st := by omega
  have e3 : b0 + st = b0 + 1 * st := by omega
  have e0 : b0 = b0 + 0 * st := by omega
  have bb : 0 ≤ b0 ∧ b0 < 55296 := by omega
  have uv' : f s b0.toNat = vd_I (v 0) := by rw [e0]; exact uv
  have A := fun (z : Int) (h : -100000 ≤ z ∧ z ≤ 100000) => vd_abP (M := M) (f := f) h
  have q1 := vd_av_b (z := v (-1) - v 0) (c := 255) (by omega) (by omega)
  have q2 := vd_av_b (z := v (-2) - v 1) (c := 255) (by omega) (by omega)
  obtain ⟨b5, b6, lp⟩ := vd_L142 (n := n) hM hp h605 lc hv m4 h7 hL bb 3 0 vd_U vd_U (by decide) (by decide)
  have same : ∃ (f' : Nat → Nat → Int32) (c : Int), f' = f ∧ vd_LC s b0 st m v f' ∧ f' 60 2 = f 60 2 + vd_I c ∧ vd_ch c v v ∧ vd_vb v ∧ (∀ k j, k ≠ s → k ≠ 62 → ¬ (k = 60 ∧ (j = 9 ∨ j = 2)) → f' k j = f k j) ∧ (∀ j, (∀ i : Int, -m ≤ i → i < m → j ≠ (b0 + i * st).toNat) → f' s j = f s j) := ⟨f, 0, rfl, lc, by rw [show vd_I 0 = 0 from rfl, Int32.add_zero], vd_ch0 v, hv, fun _ _ _ _ _ => rfl, fun _ _ => rfl⟩
  by_cases c3 : vd_ok3 L v 3 0 = 0
  · have er : vd_lnw L E (lev / 16) n v = v := if_pos (Or.inl c3)
    rw [er]
    obtain ⟨f', c, rfl, r⟩ := same
    refine ⟨f', c, fun d Q => ?_, r⟩
    rw [vd_S142_0 hM, lp, if_pos c3]
  have gap : ∀ d Q, vd_wp (d + 3) 142 0 [.ref 60, .int (vd_I b0), .int (vd_I st), .int (vd_I n), vd_U, vd_U, vd_U] [] (vd_mf M f) Q = if E < vd_gap v then Q (vd_mf M f) (.inl none) else vd_wp (d + 3) 142 145 [.ref 60, .int (vd_I b0), .int (vd_I st), .int (vd_I n), .int (vd_I (vd_av (v (-1) - v 0))), b5, b6] [] (vd_mf M f) Q := by
    intro d Q
    rw [vd_S142_0 hM, lp, if_neg c3, vd_S142_88 hM]
    simp (disch := omega) only [vd_I_sub, e2, h605, vd_vr_some]
    rw [vd_S142_95 hM _ _ _ _ _ _ _ _ _ _ _ w0 (by rw [hls]; exact w1) (by omega) hks]
    simp (disch := omega) only [h605, vd_vr_some, wv]
    rw [vd_S142_101 hM _ _ _ _ _ _ _ _ _ _ _ _ bb.1 (by rw [hls]; exact bb.2) (by omega) hks]
    simp (disch := omega) only [vd_I_sub, uv', vd_S142_103 hM, A, vd_S142_106 hM, vd_I_mul, e1, h605, vd_vr_some, vd_rs_v, vd_rs_n]
    rw [vd_S142_121 hM _ _ _ _ _ _ _ _ _ _ _ _ y0 (by rw [hls]; exact y1) (by omega) hks]
    simp (disch := omega) only [vd_I_add, e3, h605, vd_vr_some, yv]
    rw [vd_S142_129 hM _ _ _ _ _ _ _ _ _ _ _ _ _ t0 (by rw [hls]; exact t1) (by omega) hks]
    simp (disch := omega) only [vd_I_sub, tv, vd_S142_131 hM, A, vd_S142_134 hM, vd_I_div, vd_I_add, h8, vd_I_toInt, vd_S142_144 hM, vd_rs_v, vd_rs_n]
    rfl
  by_cases cE : E < vd_gap v
  · have er : vd_lnw L E (lev / 16) n v = v := if_pos (Or.inr cE)
    rw [er]
    obtain ⟨f', c, rfl, r⟩ := same
    refine ⟨f', c, fun d Q => ?_, r⟩
    rw [gap, if_pos cE]
  -- the flag is cleared
  obtain ⟨f1, hf1⟩ : ∃ f1, f1 = vd_up f 60 9 (vd_I 0) := ⟨_, rfl⟩
  have k1 : ∀ k j, ¬ (k = 60 ∧ j = 9) → f1 k j = f k j := fun k j h => by rw [hf1, vd_up_ne h]
  have g9 : f1 60 9 = vd_I 0 := by rw [hf1, vd_up_eq]
  have lc1 : vd_LC s b0 st m v f1 := ⟨s0, s1, fun i i0 i1 => by
    obtain ⟨z0, z1, zv⟩ := l i i0 i1
    refine ⟨z0, z1, ?_⟩
    rw [k1 _ _ (by omega)]
    exact zv⟩
  have ev3 := fun d Q => vd_L143 hM hp h605 lc1 hv (a := 1) (e := 3) (Or.inl ⟨rfl, rfl⟩) (by omega) bb d Q 3 1 (by decide) (by decide)
  have last : ∀ (f2 : Nat → Nat → Int32) (c : Int) (w : Int → Int), vd_LC s b0 st m w f2 → f2 60 9 = vd_I c → vd_ch c v w → vd_vb w → vd_fL s b0 st m f1 f2 → ∀ (a4 : Int32), (∀ d Q, vd_wp d 142 203 [.ref 60, .int (vd_I b0), .int (vd_I st), .int (vd_I n), .int a4, b5, b6] [] (vd_mf M f2) Q = Q (vd_mf M (vd_up f2 60 2 (f2 60 2 + vd_I c))) (.inl none)) ∧ vd_LC s b0 st m w (vd_up f2 60 2 (f2 60 2 + vd_I c)) ∧ (vd_up f2 60 2 (f2 60 2 + vd_I c)) 60 2 = f 60 2 + vd_I c ∧ vd_ch c v w ∧ vd_vb w ∧ (∀ k j, k ≠ s → k ≠ 62 → ¬ (k = 60 ∧ (j = 9 ∨ j = 2)) → (vd_up f2 60 2 (f2 60 2 + vd_I c)) k j = f k j) ∧ (∀ j, (∀ i : Int, -m ≤ i → i < m → j ≠ (b0 + i * st).toNat) → (vd_up f2 60 2 (f2 60 2 + vd_I c)) s j = f s j) := by
    intro f2 c w lc2 g2 ch2 vb2 fl2 a4
    refine ⟨fun d Q => ?_, ⟨lc2.1, lc2.2.1, fun i i0 i1 => ?_⟩, ?_, ch2, vb2, fun k j a1 a2 a3 => ?_, fun j a => ?_⟩
    · rcases ch2.1 with rfl | rfl
      · simp (disch := omega) only [vd_S142_203 hM, g2, vd_I_toInt, eq_self, if_true, vd_S142_219 hM, vd_S142_220 hM]
      · simp (disch := omega) only [vd_S142_203 hM, g2, vd_I_toInt, show ¬ ((1 : Int) = 0) by decide, if_false, vd_S142_215 hM, vd_S142_220 hM]
    · obtain ⟨z0, z1, zv⟩ := lc2.2.2 i i0 i1
      refine ⟨z0, z1, ?_⟩
      rw [vd_up_ne (by omega)]
      exact zv
    · rw [vd_up_eq, fl2.1 60 2 (by omega) (by omega) (by omega), k1 _ _ (by omega)]
    · rw [vd_up_ne (by omega), fl2.1 k j a1 a2 (by omega), k1 _ _ (by omega)]
    · rw [vd_up_ne (by omega), fl2.2 j a, k1 _ _ (by omega)]
  by_cases cn : n < 8 ∨ vd_eq3 v 3 1 = 0
  · have er : vd_lnw L E (lev / 16) n v = vd_nwr (lev / 16) v := by
      unfold vd_lnw
      rw [if_neg (by omega), if_pos cn]
    rw [er]
    obtain ⟨f2, c, r1, r2, r3, r4, r5, r6⟩ := vd_P144 hM hp h605 lc1 hv (by omega) (by rw [k1 _ _ (by omega)]; exact h6) l0 g9
    obtain ⟨x1, x2⟩ := last f2 c _ r2 r3 r4 r5 r6 (vd_I (vd_av (v (-1) - v 0)))
    refine ⟨_, c, fun d Q => ?_, x2⟩
    rw [gap, if_neg cE, ← x1 (d + 3) Q, vd_S142_145 hM, ← hf1]
    by_cases c8 : n < 8
    · simp (disch := omega) only [vd_I_toInt, c8, if_true, vd_S142_166 hM, vd_S142_169 hM, r1, vd_S142_172 hM, vd_rs_v, vd_rs_n]
    · have ce : vd_eq3 v 3 1 = 0 := by omega
      simp (disch := omega) only [vd_I_toInt, c8, if_false, vd_S142_156 hM, vd_S142_160 hM, vd_S143_0 hM, ev3, ce, vd_S142_163 hM, if_true, vd_S142_166 hM, vd_S142_169 hM, r1, vd_S142_172 hM, vd_rs_v, vd_rs_n]
  · have c8 : ¬ (n < 8) := by omega
    have ce : ¬ (vd_eq3 v 3 1 = 0) := by omega
    have ev1 : vd_eq3 v 3 1 = 1 := by have := vd_eq3_v v 3 1; omega
    by_cases cm : n < 16 ∨ vd_eq3 v 4 4 = 0
    · have er : vd_lnw L E (lev / 16) n v = vd_mr 3 v := by
        unfold vd_lnw
        rw [if_neg (by omega), if_neg cn, if_pos cm]
      rw [er]
      obtain ⟨f2, c, r1, r2, r3, r4, r5, r6⟩ := vd_P147 (w := 3) hM hp h605 lc1 hv (Or.inl rfl) (by omega) g9
      obtain ⟨x1, x2⟩ := last f2 c _ r2 r3 r4 r5 r6 (vd_I (vd_av (v (-1) - v 0)))
      refine ⟨_, c, fun d Q => ?_, x2⟩
      rw [gap, if_neg cE, ← x1 (d + 3) Q, vd_S142_145 hM, ← hf1]
      by_cases c16 : n < 16
      · simp (disch := omega) only [vd_I_toInt, c8, if_false, vd_S142_156 hM, vd_S142_160 hM, vd_S143_0 hM, ev3, ev1, show ¬ ((1 : Int) = 0) by decide, vd_S142_163 hM, vd_S142_175 hM, c16, if_true, vd_S142_199 hM, vd_S142_200 hM, r1, vd_rs_v, vd_rs_n]
      · have ce4 : vd_eq3 v 4 4 = 0 := by omega
        have ev4 := fun d Q => vd_L143 hM hp h605 lc1 hv (a := 4) (e := 7) (Or.inr ⟨rfl, rfl⟩) (by omega) bb d Q 4 4 (by decide) (by decide)
        simp (disch := omega) only [vd_I_toInt, c8, if_false, vd_S142_156 hM, vd_S142_160 hM, vd_S143_0 hM, ev3, ev1, show ¬ ((1 : Int) = 0) by decide, vd_S142_163 hM, vd_S142_175 hM, c16, vd_S142_184 hM, vd_S142_188 hM, ev4, ce4, vd_S142_191 hM, if_true, vd_S142_199 hM, vd_S142_200 hM, r1, vd_rs_v, vd_rs_n]
    · have er : vd_lnw L E (lev / 16) n v = vd_mr 7 v := by
        unfold vd_lnw
        rw [if_neg (by omega), if_neg cn, if_neg cm]
      rw [er]
      have c16 : ¬ (n < 16) := by omega
      have ce4 : vd_eq3 v 4 4 = 1 := by have := vd_eq3_v v 4 4; omega
      have ev4 := fun d Q => vd_L143 hM hp h605 lc1 hv (a := 4) (e := 7) (Or.inr ⟨rfl, rfl⟩) (by omega) bb d Q 4 4 (by decide) (by decide)
      obtain ⟨f2, c, r1, r2, r3, r4, r5, r6⟩ := vd_P147 (w := 7) hM hp h605 lc1 hv (Or.inr rfl) (by omega) g9
      obtain ⟨x1, x2⟩ := last f2 c _ r2 r3 r4 r5 r6 (vd_I (vd_av (v (-1) - v 0)))
      refine ⟨_, c, fun d Q => ?_, x2⟩
      rw [gap, if_neg cE, ← x1 (d + 3) Q, vd_S142_145 hM, ← hf1]
      simp (disch := omega) only [vd_I_toInt, c8, if_false, vd_S142_156 hM, vd_S142_160 hM, vd_S143_0 hM, ev3, ev1, show ¬ ((1 : Int) = 0) by decide, vd_S142_163 hM, vd_S142_175 hM, c16, vd_S142_184 hM, vd_S142_188 hM, ev4, ce4, vd_S142_191 hM, vd_S142_194 hM, vd_S142_200 hM, r1, vd_rs_v, vd_rs_n]
end VDFL
