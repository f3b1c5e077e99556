/-! ===== the reference's end of a frame ===== -/
section VDFR
variable {N : vd_M}
def vd_lup (g : Nat → Nat → Int32) (u k : Nat) : Nat → Nat → Int32 := vd_up (vd_up (vd_up g 76 (2 * u + k) (if (g 90 u).toInt = 0 then vd_I (-1) else g 102 (2 * u + k))) 77 (2 * u + k) (g 103 (2 * u + k))) 78 (2 * u + k) (g 104 (2 * u + k))
theorem vd_L276k (hN : vd_SR N) (g : Nat → Nat → Int32) {u k : Nat} (hu : u < 576) (hk : k < 2) (d : Nat) (Q : vd_M → (Option Value ⊕ Nat) → Prop) : vd_wp d 276 223 [.ref 63, .int (vd_I (u : Int)), .int (vd_I (k : Int))] [] (vd_mf N g) Q = vd_wp d 276 223 [.ref 63, .int (vd_I (u : Int)), .int (vd_I ((k + 1 : Nat) : Int))] [] (vd_mf N (vd_lup g u k)) Q := by
  have ek : (k : Int) + 1 = ((k + 1 : Nat) : Int) := by omega
  have et : (2 * (u : Int) + (k : Int)).toNat = 2 * u + k := by omega
  conv => lhs; rw [vd_S276_223 hN]
  unfold vd_lup
  by_cases c : (g 90 u).toInt = 0
  · simp (disch := omega) only [vd_I_toInt, show ((k : Int) < 2) by omega, if_true, vd_S276_228 hN, vd_S276_242 hN, Int.toNat_natCast, c, eq_self, vd_S276_259 hN, vd_I_mul, vd_I_add, vd_S276_260 hN, et, vd_S276_279 hN, vd_S276_280 hN, vd_S276_299 hN, vd_S276_300 hN, ek]
    simp (disch := omega) only [vd_up_ne]
  · simp (disch := omega) only [vd_I_toInt, show ((k : Int) < 2) by omega, if_true, vd_S276_228 hN, vd_S276_242 hN, Int.toNat_natCast, c, if_false, vd_S276_246 hN, vd_I_mul, vd_I_add, vd_S276_255 hN, vd_S276_260 hN, et, vd_S276_279 hN, vd_S276_280 hN, vd_S276_299 hN, vd_S276_300 hN, ek]
    simp (disch := omega) only [vd_up_ne]
theorem vd_L276m (hN : vd_SR N) {W H : Nat} (hW : W ≤ 24) (hH : H ≤ 24) : ∀ (m u : Nat) (g : Nat → Nat → Int32) (a2 : Value), u + m = W * H → g 63 26 = vd_I (W : Int) → g 63 27 = vd_I (H : Int) → ∃ g' : Nat → Nat → Int32, (∀ d Q, vd_wp d 276 208 [.ref 63, .int (vd_I (u : Int)), a2] [] (vd_mf N g) Q = Q (vd_mf N g') (.inl none)) ∧ (∀ v k, u ≤ v → v < W * H → k < 2 → g' 76 (2 * v + k) = (if (g 90 v).toInt = 0 then vd_I (-1) else g 102 (2 * v + k)) ∧ g' 77 (2 * v + k) = g 103 (2 * v + k) ∧ g' 78 (2 * v + k) = g 104 (2 * v + k)) ∧ (∀ c i, ¬ (76 ≤ c ∧ c ≤ 78 ∧ 2 * u ≤ i) → g' c i = g c i) := by
  have hWH : W * H ≤ 24 * 24 := Nat.mul_le_mul hW hH
  intro m
  induction m with
  | zero =>
    intro u g a2 hu h26 h27
    refine ⟨g, fun d Q => ?_, fun v k a b => absurd b (by omega), fun _ _ _ => rfl⟩
    rw [vd_S276_208 hN]
    have e : ((W : Int) * (H : Int)) = ((W * H : Nat) : Int) := by rw [Int.natCast_mul]
    simp (disch := omega) only [h26, h27, vd_I_mul, e, vd_I_toInt, show ¬ ((u : Int) < ((W * H : Nat) : Int)) by omega, if_false, vd_S276_313 hN]
  | succ m ih =>
    intro u g a2 hu h26 h27
    have eu : (u : Int) + 1 = ((u + 1 : Nat) : Int) := by omega
    have hu5 : u < 576 := by omega
    have e : ((W : Int) * (H : Int)) = ((W * H : Nat) : Int) := by rw [Int.natCast_mul]
    have kp : ∀ c i, ¬ (76 ≤ c ∧ c ≤ 78 ∧ (i = 2 * u ∨ i = 2 * u + 1)) → vd_lup (vd_lup g u 0) u 1 c i = g c i := fun c i q => by
      unfold vd_lup
      rw [vd_up_ne (by omega), vd_up_ne (by omega), vd_up_ne (by omega), vd_up_ne (by omega), vd_up_ne (by omega), vd_up_ne (by omega)]
    obtain ⟨g', q1, q2, q3⟩ := ih (u + 1) (vd_lup (vd_lup g u 0) u 1) (.int (vd_I ((2 : Nat) : Int))) (by omega) (by rw [kp 63 26 (by omega), h26]) (by rw [kp 63 27 (by omega), h27])
    have k0 := fun d Q => vd_L276k hN g hu5 (show 0 < 2 by decide) d Q
    have k1 := fun d Q => vd_L276k hN (vd_lup g u 0) hu5 (show 1 < 2 by decide) d Q
    refine ⟨g', fun d Q => ?_, fun v k a b hk => ?_, fun c i q => by rw [q3 c i (by omega), kp c i (by omega)]⟩
    · rw [← q1 d Q]
      conv => lhs; rw [vd_S276_208 hN]
      simp (disch := omega) only [h26, h27, vd_I_mul, e, vd_I_toInt, show ((u : Int) < ((W * H : Nat) : Int)) by omega, if_true, vd_S276_221 hN]
      refine (k0 d Q).trans ((k1 d Q).trans ?_)
      rw [vd_S276_223 hN]
      simp (disch := omega) only [vd_I_toInt, show ¬ (((1 + 1 : Nat) : Int) < 2) by decide, if_false, vd_S276_307 hN, vd_I_add, eu]
    · by_cases ev : v = u
      · subst ev
        have hk2 : k = 0 ∨ k = 1 := by omega
        rw [q3 76 (2 * v + k) (by omega), q3 77 (2 * v + k) (by omega), q3 78 (2 * v + k) (by omega)]
        unfold vd_lup
        rcases hk2 with rfl | rfl
        · refine ⟨?_, ?_, ?_⟩
          · rw [vd_up_ne (by omega), vd_up_ne (by omega), vd_up_ne (by omega), vd_up_ne (by omega), vd_up_ne (by omega), vd_up_eq]
          · rw [vd_up_ne (by omega), vd_up_ne (by omega), vd_up_ne (by omega), vd_up_ne (by omega), vd_up_eq]
          · rw [vd_up_ne (by omega), vd_up_ne (by omega), vd_up_ne (by omega), vd_up_eq]
        · simp (disch := omega) only [vd_up_ne, vd_up_eq, and_self]
      · obtain ⟨r1, r2, r3⟩ := q2 v k (by omega) b hk
        rw [r1, r2, r3, kp 90 v (by omega), kp 102 _ (by omega), kp 103 _ (by omega), kp 104 _ (by omega)]
        exact ⟨rfl, rfl, rfl⟩
/-- finish, from the slots on -/
theorem vd_P276b (hN : vd_SR N) {g : Nat → Nat → Int32} (hd : vd_HDR N g) {j W H : Nat} {rfr sho : Int} (hj : j < 11) (hnow : vd_r N 63 23 = some (129 + 5 * j)) (h77 : g 63 77 = vd_I rfr) (r0 : 0 ≤ rfr) (r1 : rfr ≤ 255) (h79 : g 63 79 = vd_I sho) (s01 : sho = 0 ∨ sho = 1) (hW : W ≤ 24) (hH : H ≤ 24) (h26 : g 63 26 = vd_I (W : Int)) (h27 : g 63 27 = vd_I (H : Int)) : ∃ (N' : vd_M) (g' : Nat → Nat → Int32), (∀ a1 d Q, vd_wp (d + 1) 276 82 [.ref 63, a1, vd_U] [] (vd_mf N g) Q = Q (vd_mf N' g') (.inl none)) ∧ (vd_SR N' ∧ vd_HDR N' g' ∧ vd_Ms N N') ∧ (∀ c k, c ≠ 66 → ¬ (c = 63 ∧ k = 7) → vd_r N' c k = vd_r N c k) ∧ (∀ k, k < 8 → vd_r N' 66 k = if vd_bt rfr k = 1 then some (129 + 5 * j) else vd_r N 66 k) ∧ vd_r N' 63 7 = (if sho = 1 then some (129 + 5 * j) else vd_r N 63 7) ∧ (g' 63 20 = g 63 20 + vd_I 1 ∧ g' 63 14 = g 63 24 ∧ g' 63 15 = g 63 25 ∧ g' 63 16 = g 63 79 ∧ g' 63 21 = if sho = 1 then g 63 21 + vd_I 1 else g 63 21) ∧ (∀ v k, v < W * H → k < 2 → g' 76 (2 * v + k) = (if (g 90 v).toInt = 0 then vd_I (-1) else g 102 (2 * v + k)) ∧ g' 77 (2 * v + k) = g 103 (2 * v + k) ∧ g' 78 (2 * v + k) = g 104 (2 * v + k)) ∧ (∀ c i, ¬ (129 ≤ c ∧ i = 3 ∧ c ≤ 179 ∧ c % 5 = 4) → ¬ (c = 63 ∧ (i = 20 ∨ i = 21 ∨ (14 ≤ i ∧ i ≤ 16))) → ¬ (76 ≤ c ∧ c ≤ 78) → g' c i = g c i) := by
  obtain ⟨N1, g1, e1, hN1, hd1, s1, p1, p2, p3⟩ := vd_L276s hj r0 r1 vd_U 8 0 N g rfl hN hd hnow h77
  have p2' : ∀ k, k < 8 → vd_r N1 66 k = if vd_bt rfr k = 1 then some (129 + 5 * j) else vd_r N 66 k := fun k hk => by
    rw [p2 k hk]
    by_cases c : vd_bt rfr k = 1
    · rw [if_pos ⟨Nat.zero_le k, c⟩, if_pos c]
    · rw [if_neg (fun q => c q.2), if_neg c]
  have hnow1 : vd_r N1 63 23 = some (129 + 5 * j) := by rw [p1 63 23 (by decide), hnow]
  have e79 : g1 63 79 = vd_I sho := by rw [p3 63 79 (by omega), h79]
  have ok : vd_fok .boolean (vd_I sho) = true := by rcases s01 with rfl | rfl <;> decide
  obtain ⟨N2, g2, e2, hN2, hd2, s2, q1, q2, q3, q4⟩ : ∃ (N2 : vd_M) (g2 : Nat → Nat → Int32), (∀ d Q, vd_wp (d + 1) 276 157 [.ref 63, .int (vd_I 8), vd_U] [] (vd_mf N1 g1) Q = vd_wp (d + 1) 276 172 [.ref 63, .int (vd_I 8), vd_U] [] (vd_mf N2 g2) Q) ∧ vd_SR N2 ∧ vd_HDR N2 g2 ∧ vd_Ms N1 N2 ∧ (∀ c k, ¬ (c = 63 ∧ k = 7) → vd_r N2 c k = vd_r N1 c k) ∧ vd_r N2 63 7 = (if sho = 1 then some (129 + 5 * j) else vd_r N1 63 7) ∧ g2 63 21 = (if sho = 1 then g1 63 21 + vd_I 1 else g1 63 21) ∧ (∀ c i, ¬ (c = 63 ∧ i = 21) → ¬ (129 ≤ c ∧ i = 3 ∧ c ≤ 179 ∧ c % 5 = 4) → g2 c i = g1 c i) := by
    rcases s01 with rfl | rfl
    · refine ⟨N1, g1, fun d Q => ?_, hN1, hd1, vd_Ms.refl N1, fun _ _ _ => rfl, rfl, rfl, fun _ _ _ _ => rfl⟩
      simp (disch := omega) only [vd_S276_157 hN1, e79, vd_I_toInt, eq_self, if_true]
    · obtain ⟨g2, a, b, c, dd⟩ := vd_P178 hN1 hd1 hj
      refine ⟨vd_sr N1 63 7 (some (129 + 5 * j)), g2, fun d Q => ?_, hN1.sr637 _, b, vd_Ms.sr N1 63 7 _, fun c k q => by rw [vd_r_sr, if_neg q], by rw [if_pos rfl, vd_r_sr, if_pos ⟨rfl, rfl⟩], by rw [if_pos rfl, c], dd⟩
      simp (disch := omega) only [vd_S276_157 hN1, e79, vd_I_toInt, show ¬ ((1 : Int) = 0) by decide, if_false, vd_S276_164 hN1, hnow1, vd_vr_some, vd_S276_169 hN1, a, vd_rs_n, vd_rs_v]
  have e79' : g2 63 79 = vd_I sho := by rw [q4 63 79 (by omega) (by omega), e79]
  have ok2 : vd_fok .boolean (g2 63 79) = true := by rw [e79']; exact ok
  obtain ⟨g3, hg3⟩ : ∃ g3, g3 = vd_up (vd_up (vd_up (vd_up g2 63 20 ((g2 63 20) + (vd_I 1))) 63 14 (g2 63 24)) 63 15 (g2 63 25)) 63 16 (g2 63 79) := ⟨_, rfl⟩
  have kp3 : ∀ c i, ¬ (c = 63 ∧ (i = 20 ∨ (14 ≤ i ∧ i ≤ 16))) → g3 c i = g2 c i := fun c i q => by rw [hg3, vd_up_ne (by omega), vd_up_ne (by omega), vd_up_ne (by omega), vd_up_ne (by omega)]
  obtain ⟨g4, e4, r4, k4⟩ := vd_L276m hN2 hW hH (W * H) 0 g3 vd_U (Nat.zero_add _) (by rw [kp3 63 26 (by omega), q4 63 26 (by omega) (by omega), p3 63 26 (by omega), h26]) (by rw [kp3 63 27 (by omega), q4 63 27 (by omega) (by omega), p3 63 27 (by omega), h27])
  have all : ∀ c i, ¬ (129 ≤ c ∧ i = 3 ∧ c ≤ 179 ∧ c % 5 = 4) → ¬ (c = 63 ∧ (i = 20 ∨ i = 21 ∨ (14 ≤ i ∧ i ≤ 16))) → ¬ (76 ≤ c ∧ c ≤ 78) → g4 c i = g c i := fun c i a b e => by rw [k4 c i (by omega), kp3 c i (by omega), q4 c i (by omega) a, p3 c i a]
  have all3 : ∀ c i, ¬ (129 ≤ c ∧ i = 3 ∧ c ≤ 179 ∧ c % 5 = 4) → ¬ (c = 63 ∧ (i = 20 ∨ i = 21 ∨ (14 ≤ i ∧ i ≤ 16))) → g3 c i = g c i := fun c i a b => by rw [kp3 c i (by omega), q4 c i (by omega) a, p3 c i a]
  refine ⟨N2, g4, fun a1 d Q => ?_, ⟨hN2, hd2.keep (fun _ _ => rfl) (fun k hk => by rw [k4 _ _ (by omega), kp3 _ _ (by omega)]), s1.trans s2⟩, fun c k a b => by rw [q1 c k b, p1 c k a], fun k hk => by rw [q1 66 k (by omega), p2' k hk], by rw [q2, p1 63 7 (by decide)], ⟨?_, ?_, ?_, ?_, ?_⟩, fun v k hv hk => ?_, all⟩
  · rw [vd_S276_82 hN]
    refine (e1 (d + 1) Q).trans ((e2 d Q).trans ?_)
    simp (disch := assumption) only [vd_S276_172 hN2, ← hg3]
    exact e4 (d + 1) Q
  · rw [k4 _ _ (by omega), hg3, vd_up_ne (by omega), vd_up_ne (by omega), vd_up_ne (by omega), vd_up_eq, q4 63 20 (by omega) (by omega), p3 63 20 (by omega)]
  · rw [k4 _ _ (by omega), hg3, vd_up_ne (by omega), vd_up_ne (by omega), vd_up_eq, q4 63 24 (by omega) (by omega), p3 63 24 (by omega)]
  · rw [k4 _ _ (by omega), hg3, vd_up_ne (by omega), vd_up_eq, q4 63 25 (by omega) (by omega), p3 63 25 (by omega)]
  · rw [k4 _ _ (by omega), hg3, vd_up_eq, q4 63 79 (by omega) (by omega), p3 63 79 (by omega)]
  · rw [k4 _ _ (by omega), kp3 _ _ (by omega), q3, p3 63 21 (by omega)]
  · obtain ⟨a, b, c⟩ := r4 v k (Nat.zero_le v) hv hk
    rw [a, b, c, all3 90 v (by omega) (by omega), all3 102 _ (by omega) (by omega), all3 103 _ (by omega) (by omega), all3 104 _ (by omega) (by omega)]
    exact ⟨rfl, rfl, rfl⟩
/-- what is told of the frame -/
theorem vd_P186t (hN : vd_SR N) {g : Nat → Nat → Int32} {kd : Int} (k0 : 0 ≤ kd) (k1 : kd ≤ 2) (h83 : g 63 83 = vd_I (if kd = 1 then 1 else 0)) (h84 : g 63 84 = vd_I (if kd = 0 then 1 else 0)) (x1 x2 x3 ln : Int32) (a5 : Value) (d : Nat) (Q : vd_M → (Option Value ⊕ Nat) → Prop) : vd_wp d 186 289 [.ref 63, .int x1, .int x2, .int x3, .int ln, a5] [] (vd_mf N g) Q = Q (vd_mf N (vd_up (vd_up (vd_up (vd_up (vd_up g 79 0 (g 63 69)) 79 1 (g 63 46)) 79 2 (g 63 47)) 79 3 ln) 79 4 (vd_I kd))) (.inl none) := by
  have u : ∀ (h : Nat → Nat → Int32) (i j : Nat) (v : Int32), vd_up h 79 i v 63 j = h 63 j := fun h i j v => vd_up_ne (by omega)
  have t0 : (0 : Int).toNat = 0 := rfl
  have t1 : (1 : Int).toNat = 1 := rfl
  have t2 : (2 : Int).toNat = 2 := rfl
  have t3 : (3 : Int).toNat = 3 := rfl
  have t4 : (4 : Int).toNat = 4 := rfl
  have : kd = 0 ∨ kd = 1 ∨ kd = 2 := by omega
  rcases this with rfl | rfl | rfl
  · simp only [if_pos, if_neg, show ¬ ((0 : Int) = 1) by decide, if_false] at h83 h84
    simp (disch := omega) only [vd_S186_289 hN, vd_S186_298 hN, vd_S186_308 hN, vd_S186_318 hN, vd_S186_326 hN, u, t0, t1, t2, t3, t4, h84, vd_I_toInt, show ¬ ((1 : Int) = 0) by decide, if_false, vd_S186_339 hN, vd_S186_355 hN]
  · simp only [if_pos, if_neg, show ¬ ((1 : Int) = 0) by decide, if_false] at h83 h84
    simp (disch := omega) only [vd_S186_289 hN, vd_S186_298 hN, vd_S186_308 hN, vd_S186_318 hN, vd_S186_326 hN, u, t0, t1, t2, t3, t4, h84, h83, vd_I_toInt, eq_self, if_true, show ¬ ((1 : Int) = 0) by decide, if_false, vd_S186_343 hN, vd_S186_350 hN, vd_S186_355 hN]
  · simp only [show ¬ ((2 : Int) = 0) by decide, show ¬ ((2 : Int) = 1) by decide, if_false] at h83 h84
    simp (disch := omega) only [vd_S186_289 hN, vd_S186_298 hN, vd_S186_308 hN, vd_S186_318 hN, vd_S186_326 hN, u, t0, t1, t2, t3, t4, h84, h83, vd_I_toInt, eq_self, if_true, vd_S186_343 hN, vd_S186_354 hN, vd_S186_355 hN]
end VDFR
