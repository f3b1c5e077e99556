/-! ===== the filter: a line is smoothed much ===== -/
def vd_su (w : Int) (v : Int → Int) : Nat → Int → Int
  | 0, _ => 0
  | n + 1, j => v (vd_wn j (-(w + 1)) w) + vd_su w v n (j + 1)
theorem vd_su_b {w : Int} {v : Int → Int} (h : vd_vb v) : ∀ n j, 0 ≤ vd_su w v n j ∧ vd_su w v n j ≤ 255 * (n : Int) := by
  intro n
  induction n with
  | zero => intro j; simp only [vd_su]; omega
  | succ n ih =>
    intro j
    have h1 := ih (j + 1)
    have h2 := h (vd_wn j (-(w + 1)) w)
    simp only [vd_su]
    omega
def vd_mean (w : Int) (v : Int → Int) (i : Int) : Int := if w = 7 then (v i + vd_su w v 15 (i - w) + 8) / 16 else (v i + vd_su w v 7 (i - w) + 4) / 8
theorem vd_mean_b {w : Int} {v : Int → Int} (h : vd_vb v) (i : Int) : 0 ≤ vd_mean w v i ∧ vd_mean w v i ≤ 255 := by
  have h1 := h i
  have h2 := vd_su_b (w := w) h 15 (i - w)
  have h3 := vd_su_b (w := w) h 7 (i - w)
  unfold vd_mean
  split <;> omega
def vd_mpt (w : Int) (v : Int → Int) (n : Int) : Int → Int := fun i => if -w ≤ i ∧ i < -w + n then vd_mean w v i else v i
theorem vd_mpt_0 (w : Int) (v : Int → Int) : vd_mpt w v 0 = v := by
  funext i
  exact if_neg (by omega)
theorem vd_mpt_s (w : Int) (v : Int → Int) {n : Int} (hn : 0 ≤ n) : vd_ui (vd_mpt w v n) (-w + n) (vd_mean w v (-w + n)) = vd_mpt w v (n + 1) := by
  funext i
  unfold vd_ui vd_mpt
  by_cases e : i = -w + n
  · rw [if_pos e, if_pos (by omega), e]
  · rw [if_neg e]
    by_cases c : -w ≤ i ∧ i < -w + n
    · rw [if_pos c, if_pos (by omega)]
    · rw [if_neg c, if_neg (by omega)]
theorem vd_mpt_b {w : Int} {v : Int → Int} (h : vd_vb v) (n : Int) : vd_vb (vd_mpt w v n) := fun i => by
  unfold vd_mpt
  split
  · exact vd_mean_b h i
  · exact h i
/-- the line smoothed over w samples on each side -/
def vd_mr (w : Int) (v : Int → Int) : Int → Int := vd_mpt w v (2 * w)
section VDMU
variable {M N : vd_M} {ow fa lo lf p s : Nat} {b0 st m w : Int} {v : Int → Int}
theorem vd_L147a (hM : vd_SC M ow fa lo lf) (hp : vd_PC M p s) (h605 : vd_r M 60 5 = some s) (hw : w = 3 ∨ w = 7) (hm : w + 1 ≤ m) (bb : 0 ≤ b0 ∧ b0 < 55296) (a7 a8 : Value) : ∀ (n : Nat) (k : Int) (f : Nat → Nat → Int32), k + n = 2 * w + 2 → 0 ≤ k → vd_LC s b0 st m v f → (∀ j : Int, 0 ≤ j → j < k → f 62 j.toNat = vd_I (v (j - (w + 1)))) → ∃ f' : Nat → Nat → Int32, (∀ d Q, vd_wp d 147 19 [.ref 60, .int (vd_I b0), .int (vd_I st), .int (vd_I w), .int (vd_I (2 * w + 1)), .int (vd_I (b0 + -(w + 1) * st)), .int (vd_I k), a7, a8] [] (vd_mf M f) Q = vd_wp d 147 51 [.ref 60, .int (vd_I b0), .int (vd_I st), .int (vd_I w), .int (vd_I (2 * w + 1)), .int (vd_I (b0 + -(w + 1) * st)), .int (vd_I (2 * w + 2)), a7, a8] [] (vd_mf M f') Q) ∧ (∀ j : Int, 0 ≤ j → j < 2 * w + 2 → f' 62 j.toNat = vd_I (v (j - (w + 1)))) ∧ (∀ c i, c ≠ 62 → f' c i = f c i) := by
  obtain ⟨⟨hk7, hrs⟩, ⟨hks, hls⟩, hp1, hp2, hp3⟩ := id hp
  intro n
  induction n with
  | zero =>
    intro k f hk k0 lc hA
    have e : k = 2 * w + 2 := by omega
    subst e
    have c : 2 * w + 1 < 2 * w + 2 := by omega
    refine ⟨f, fun d Q => ?_, hA, fun _ _ _ => rfl⟩
    rw [vd_S147_19 hM]
    simp (disch := omega) only [vd_I_toInt, c, if_true]
  | succ n ih =>
    intro k f hk k0 lc hA
    obtain ⟨s0, s1, l⟩ := id lc
    obtain ⟨y0, y1, yv⟩ := l (k - (w + 1)) (by omega) (by omega)
    have c : ¬ (2 * w + 1 < k) := by omega
    have e1 : b0 + -(w + 1) * st + k * st = b0 + (k - (w + 1)) * st := by
      rw [show k - (w + 1) = -(w + 1) + k by omega, Int.add_mul]
      omega
    have kb : 0 ≤ k * st ∧ k * st ≤ 3072 := by
      have a1 : 0 ≤ k * st := Int.mul_nonneg k0 (by omega)
      have a2 : k * st ≤ 16 * st := Int.mul_le_mul_of_nonneg_right (by omega) (by omega)
      omega
    obtain ⟨t0, t1, tv⟩ := l (-(w + 1)) (by omega) (by omega)
    obtain ⟨f2, p1, p2, p3⟩ := ih (k + 1) (vd_up f 62 k.toNat (vd_I (v (k - (w + 1))))) (by omega) (by omega) ⟨s0, s1, fun i i0 i1 => by
      obtain ⟨z0, z1, zv⟩ := l i i0 i1
      refine ⟨z0, z1, ?_⟩
      rw [vd_up_ne (by omega)]
      exact zv⟩ (fun j j0 j1 => by
      by_cases e : j = k
      · rw [e, vd_up_eq]
      · rw [vd_up_ne (by omega)]; exact hA j j0 (by omega))
    refine ⟨f2, fun d Q => ?_, p2, fun c i h => by rw [p3 c i h, vd_up_ne (by omega)]⟩
    rw [← p1, vd_S147_19 hM]
    simp (disch := omega) only [vd_I_toInt, c, if_false, vd_S147_26 hM, vd_I_mul, vd_I_add, e1, h605, vd_vr_some]
    rw [vd_S147_43 hM _ _ _ _ _ _ _ _ _ _ _ _ _ _ y0 (by rw [hls]; exact y1) (by omega) hks, yv]
    simp (disch := omega) only [vd_S147_44 hM, vd_I_add]
theorem vd_L147b (hM : vd_SC M ow fa lo lf) (hv : vd_vb v) {f : Nat → Nat → Int32} (hw : w = 3 ∨ w = 7) {k : Int} (k0 : 1 ≤ k) (k1 : k ≤ 2 * w) (hA : ∀ j : Int, 0 ≤ j → j < 2 * w + 2 → f 62 j.toNat = vd_I (v (j - (w + 1)))) (x1 x2 x5 : Int32) (d : Nat) (Q : vd_M → (Option Value ⊕ Nat) → Prop) : ∀ (n : Nat) (j a : Int), j + n = k + w + 1 → k - w ≤ j → 0 ≤ a → a ≤ 5000 → a + 255 * n ≤ 5000 → vd_wp (d + 1) 147 76 [.ref 60, .int x1, .int x2, .int (vd_I w), .int (vd_I (2 * w + 1)), .int x5, .int (vd_I k), .int (vd_I a), .int (vd_I j)] [] (vd_mf M f) Q = vd_wp (d + 1) 147 109 [.ref 60, .int x1, .int x2, .int (vd_I w), .int (vd_I (2 * w + 1)), .int x5, .int (vd_I k), .int (vd_I (a + vd_su w v n (j - (w + 1)))), .int (vd_I (k + w + 1))] [] (vd_mf M f) Q := by
  intro n
  induction n with
  | zero =>
    intro j a hj _ a0 a1 _
    have e : j = k + w + 1 := by omega
    subst e
    have c : k + w < k + w + 1 := by omega
    rw [vd_S147_76 hM]
    simp (disch := omega) only [vd_I_add, vd_I_toInt, c, if_true, vd_su, Int.add_zero]
  | succ n ih =>
    intro j a hj hj0 a0 a1 hab
    have c : ¬ (k + w < j) := by omega
    have P58 := fun (d : Nat) (Q : vd_M → (Option Value ⊕ Nat) → Prop) => vd_P58 (f := f) (d := d) (Q := Q) (a := j) (b := 0) (c := 2 * w + 1) hM (by omega) (by omega) (by omega) (by omega) (by omega) (by omega)
    have wb := vd_wn_b (v := j) (lo := 0) (hi := 2 * w + 1) (by omega)
    have ew : vd_wn j 0 (2 * w + 1) - (w + 1) = vd_wn (j - (w + 1)) (-(w + 1)) w := by
      unfold vd_wn
      split
      · rw [if_pos (by omega)]; omega
      · split
        · rw [if_neg (by omega), if_pos (by omega)]; omega
        · rw [if_neg (by omega), if_neg (by omega)]
    have vv := hA (vd_wn j 0 (2 * w + 1)) (by omega) (by omega)
    rw [ew] at vv
    have vb := hv (vd_wn (j - (w + 1)) (-(w + 1)) w)
    have es : a + vd_su w v (n + 1) (j - (w + 1)) = a + v (vd_wn (j - (w + 1)) (-(w + 1)) w) + vd_su w v n (j + 1 - (w + 1)) := by
      simp only [vd_su]
      rw [show j - (w + 1) + 1 = j + 1 - (w + 1) by omega]
      omega
    rw [es, ← ih (j + 1) (a + v (vd_wn (j - (w + 1)) (-(w + 1)) w)) (by omega) (by omega) (by omega) (by omega) (by omega), vd_S147_76 hM]
    simp (disch := omega) only [vd_I_add, vd_I_toInt, c, if_false, vd_S147_85 hM, vd_S147_96 hM, P58, vd_S147_99 hM, vv, vd_rs_v, vd_rs_n]
theorem vd_L147c (hM : vd_SC M ow fa lo lf) (hp : vd_PC M p s) (h605 : vd_r M 60 5 = some s) (hv : vd_vb v) (hw : w = 3 ∨ w = 7) (hm : w + 1 ≤ m) (bb : 0 ≤ b0 ∧ b0 < 55296) : ∀ (n : Nat) (k c : Int) (f : Nat → Nat → Int32) (a7 a8 : Value), k + n = 2 * w + 1 → 1 ≤ k → vd_LC s b0 st m (vd_mpt w v (k - 1)) f → f 60 9 = vd_I c → vd_ch c v (vd_mpt w v (k - 1)) → (∀ j : Int, 0 ≤ j → j < 2 * w + 2 → f 62 j.toNat = vd_I (v (j - (w + 1)))) → ∃ (f' : Nat → Nat → Int32) (c' : Int), (∀ d Q, vd_wp (d + 1) 147 54 [.ref 60, .int (vd_I b0), .int (vd_I st), .int (vd_I w), .int (vd_I (2 * w + 1)), .int (vd_I (b0 + -(w + 1) * st)), .int (vd_I k), a7, a8] [] (vd_mf M f) Q = Q (vd_mf M f') (.inl none)) ∧ vd_LC s b0 st m (vd_mr w v) f' ∧ f' 60 9 = vd_I c' ∧ vd_ch c' v (vd_mr w v) ∧ vd_fL s b0 st m f f' := by
  obtain ⟨⟨hk7, hrs⟩, ⟨hks, hls⟩, hp1, hp2, hp3⟩ := id hp
  intro n
  induction n with
  | zero =>
    intro k c f a7 a8 hk k0 lc h9 hc hA
    have e : k = 2 * w + 1 := by omega
    subst e
    rw [show 2 * w + 1 - 1 = 2 * w by omega] at lc hc
    refine ⟨f, c, fun d Q => ?_, lc, h9, hc, fun _ _ _ _ _ => rfl, fun _ _ => rfl⟩
    rw [vd_S147_54 hM]
    simp (disch := omega) only [vd_I_toInt, Int.lt_irrefl, if_false, vd_S147_148 hM]
  | succ n ih =>
    intro k c f a7 a8 hk k0 lc h9 hc hA
    obtain ⟨s0, s1, l⟩ := id lc
    obtain ⟨y0, y1, yv⟩ := l (k - (w + 1)) (by omega) (by omega)
    have ck : k < 2 * w + 1 := by omega
    have e1 : b0 + -(w + 1) * st + k * st = b0 + (k - (w + 1)) * st := by
      rw [show k - (w + 1) = -(w + 1) + k by omega, Int.add_mul]
      omega
    have kb : 0 ≤ k * st ∧ k * st ≤ 3072 := by
      have a1 : 0 ≤ k * st := Int.mul_nonneg (by omega) (by omega)
      have a2 : k * st ≤ 16 * st := Int.mul_le_mul_of_nonneg_right (by omega) (by omega)
      omega
    obtain ⟨t0, t1, tv⟩ := l (-(w + 1)) (by omega) (by omega)
    have vk := hA k (by omega) (by omega)
    have vkb := hv (k - (w + 1))
    have ei : k - (w + 1) = -w + (k - 1) := by omega
    have mb := vd_mean_b (w := w) hv (k - (w + 1))
    have vid : vd_mpt w v (k - 1) (k - (w + 1)) = v (k - (w + 1)) := if_neg (by omega)
    obtain ⟨f1, p1, lc1, g1, F1, S1⟩ := vd_P146 (i := k - (w + 1)) (w := vd_mean w v (k - (w + 1))) hM hp h605 lc (vd_mpt_b hv _) h9 hc.1 (by omega) (by omega) mb
    have ch1 := hc.put (i := k - (w + 1)) (z := vd_mean w v (k - (w + 1))) vid
    have eu : vd_ui (vd_mpt w v (k - 1)) (k - (w + 1)) (vd_mean w v (k - (w + 1))) = vd_mpt w v (k + 1 - 1) := by
      rw [ei, vd_mpt_s w v (by omega), show k - 1 + 1 = k + 1 - 1 by omega]
    rw [eu] at lc1 ch1
    obtain ⟨f2, c2, q1, q2, q3, q4, q5⟩ := ih (k + 1) _ f1 (.int (vd_I (v (k - (w + 1)) + vd_su w v (2 * w + 1).toNat (k - w - (w + 1))))) (.int (vd_I (k + w + 1))) (by omega) (by omega) lc1 g1 ch1 (fun j j0 j1 => by rw [F1 _ _ (by omega) (by omega)]; exact hA j j0 j1)
    refine ⟨f2, c2, fun d Q => ?_, q2, q3, q4, vd_fL.trans ⟨fun k' j a1 a2 a3 => F1 k' j a1 a3, fun j a => S1 j (a _ (by omega) (by omega))⟩ q5⟩
    have lp := vd_L147b hM hv hw (by omega : 1 ≤ k) (by omega) hA (vd_I b0) (vd_I st) (vd_I (b0 + -(w + 1) * st)) d Q (2 * w + 1).toNat (k - w) (v (k - (w + 1))) (by omega) (by omega) vkb.1 (by omega) (by rcases hw with rfl | rfl <;> omega)
    have sb := vd_su_b (w := w) hv (2 * w + 1).toNat (k - w - (w + 1))
    rw [← q1 d Q, vd_S147_54 hM]
    simp (disch := omega) only [vd_I_toInt, ck, if_true, vd_S147_61 hM, vd_S147_67 hM, vk, vd_I_sub, lp, vd_S147_109 hM, vd_I_mul, vd_I_add, e1]
    rcases hw with rfl | rfl
    · have em : (v (k - (3 + 1)) + vd_su 3 v (2 * 3 + 1 : Int).toNat (k - 3 - (3 + 1)) + 4) / 8 = vd_mean 3 v (k - (3 + 1)) := by
        unfold vd_mean
        rw [if_neg (by decide), show k - 3 - (3 + 1) = k - (3 + 1) - 3 by omega]
        rfl
      simp (disch := omega) only [show ¬ ((3 : Int) = 7) by decide, if_false, vd_S147_133 hM, vd_I_add, vd_shr3, em, vd_S147_139 hM, p1, vd_S147_142 hM, vd_rs_v, vd_rs_n]
    · have em : (v (k - (7 + 1)) + vd_su 7 v (2 * 7 + 1 : Int).toNat (k - 7 - (7 + 1)) + 8) / 16 = vd_mean 7 v (k - (7 + 1)) := by
        unfold vd_mean
        rw [if_pos rfl, show k - 7 - (7 + 1) = k - (7 + 1) - 7 by omega]
        rfl
      simp (disch := omega) only [if_true, vd_S147_123 hM, vd_I_add, vd_shr4, em, vd_S147_139 hM, p1, vd_S147_142 hM, vd_rs_v, vd_rs_n]
theorem vd_P147 (hM : vd_SC M ow fa lo lf) (hp : vd_PC M p s) (h605 : vd_r M 60 5 = some s) {f : Nat → Nat → Int32} (lc : vd_LC s b0 st m v f) (hv : vd_vb v) (hw : w = 3 ∨ w = 7) (hm : w + 1 ≤ m) (h9 : f 60 9 = vd_I 0) : ∃ (f' : Nat → Nat → Int32) (c : Int), (∀ d Q, vd_wp (d + 1) 147 0 [.ref 60, .int (vd_I b0), .int (vd_I st), .int (vd_I w), vd_U, vd_U, vd_U, vd_U, vd_U] [] (vd_mf M f) Q = Q (vd_mf M f') (.inl none)) ∧ vd_LC s b0 st m (vd_mr w v) f' ∧ f' 60 9 = vd_I c ∧ vd_ch c v (vd_mr w v) ∧ vd_vb (vd_mr w v) ∧ vd_fL s b0 st m f f' := by
  obtain ⟨⟨hk7, hrs⟩, ⟨hks, hls⟩, hp1, hp2, hp3⟩ := id hp
  obtain ⟨s0, s1, l⟩ := id lc
  obtain ⟨u0, u1, uv⟩ := l 0 (by omega) (by omega)
  have bb : 0 ≤ b0 ∧ b0 < 55296 := by omega
  obtain ⟨f1, p1, p2, p3⟩ := vd_L147a hM hp h605 hw hm bb vd_U vd_U (2 * w + 2).toNat 0 f (by omega) (by omega) lc (fun j j0 j1 => by omega)
  have lc1 : vd_LC s b0 st m (vd_mpt w v (1 - 1)) f1 := by
    rw [show (1 : Int) - 1 = 0 from rfl, vd_mpt_0]
    exact ⟨s0, s1, fun i i0 i1 => by
      obtain ⟨z0, z1, zv⟩ := l i i0 i1
      refine ⟨z0, z1, ?_⟩
      rw [p3 _ _ (by omega)]
      exact zv⟩
  obtain ⟨f2, c, q1, q2, q3, q4, q5⟩ := vd_L147c hM hp h605 hv hw hm bb (2 * w).toNat 1 0 f1 vd_U vd_U (by omega) (by omega) lc1 (by rw [p3 _ _ (by omega)]; exact h9) (by rw [show (1 : Int) - 1 = 0 from rfl, vd_mpt_0]; exact vd_ch0 v) p2
  refine ⟨f2, c, fun d Q => ?_, q2, q3, q4, vd_mpt_b hv _, vd_fL.trans ⟨fun k j a1 a2 a3 => p3 k j a2, fun j a => p3 s j (by omega)⟩ q5⟩
  have e1 : b0 - (w + 1) * st = b0 + -(w + 1) * st := by rw [Int.neg_mul]; omega
  have wb : 0 ≤ (w + 1) * st ∧ (w + 1) * st ≤ 3072 := by
    have a1 : 0 ≤ (w + 1) * st := Int.mul_nonneg (by omega) (by omega)
    have a2 : (w + 1) * st ≤ 8 * st := Int.mul_le_mul_of_nonneg_right (by omega) (by omega)
    omega
  rw [← q1 d Q, vd_S147_0 hM]
  simp (disch := omega) only [vd_I_mul, vd_I_add, vd_I_sub, e1]
  rw [p1, vd_S147_51 hM]
end VDMU
