/-! ===== models kept ===== -/
section VDKP
variable {M N : vd_M} {ow fa lo lf : Nat} {f : Nat → Nat → Int32} {d : Nat} {Q : vd_M → (Option Value ⊕ Nat) → Prop}
theorem vd_P149z (hM : vd_SC M ow fa lo lf) {k : Nat} {v a b : Int} (hk : k < 2941) (ha : f 36 (2 * k) = vd_I a) (hb : f 36 (2 * k + 1) = vd_I b) (a0 : 0 ≤ a) (b0 : 0 ≤ b) (hab : a + b ≤ 8000000) (v0 : 0 ≤ v) (v1 : v ≤ 255) : vd_wp (d + 1) 149 0 [.ref 34, .int (vd_I (k : Int)), .int (vd_I v), vd_U, vd_U, vd_U, vd_U] [] (vd_mf M f) Q = Q (vd_mf M f) (.inl (some (.int (vd_I (vd_lrn v a b))))) := by
  have e1 : (2 * (k : Int)).toNat = 2 * k := by omega
  have e2 : (2 * (k : Int) + 1).toNat = 2 * k + 1 := by omega
  unfold vd_lrn
  by_cases c : a + b = 0
  · simp (disch := omega) only [vd_S149_0 hM, vd_S149_28 hM, vd_S149_30 hM, vd_S149_7 hM, vd_S149_42 hM, vd_S149_19 hM, vd_S149_47 hM, vd_S149_50 hM, vd_S149_59 hM, vd_S149_62 hM, vd_I_mul, vd_I_add, e1, e2, ha, hb, vd_I_toInt, c, eq_self, if_true]
  · have hq : 0 ≤ (256 * a + (a + b) / 2) / (a + b) ∧ (256 * a + (a + b) / 2) / (a + b) ≤ 256 * a + (a + b) / 2 := ⟨Int.ediv_nonneg (by omega) (by omega), Int.ediv_le_self _ (by omega)⟩
    have h := vd_wn_b (v := (256 * a + (a + b) / 2) / (a + b)) (show (1 : Int) ≤ 255 by decide)
    have hF : 0 ≤ 128 * min (a + b) 20 / 20 ∧ 128 * min (a + b) 20 / 20 ≤ 128 := by omega
    simp (disch := omega) only [vd_S149_0 hM, vd_S149_28 hM, vd_S149_30 hM, vd_S149_7 hM, vd_S149_42 hM, vd_S149_19 hM, vd_S149_47 hM, vd_S149_50 hM, vd_S149_59 hM, vd_S149_62 hM, vd_I_mul, vd_I_add, vd_I_sub, e1, e2, ha, hb, vd_I_toInt, c, if_false, vd_I_div, vd_P58 hM, vd_P289, vd_rs_v, vd_rs_n]
    generalize vd_wn ((256 * a + (a + b) / 2) / (a + b)) 1 255 = w at *
    generalize 128 * min (a + b) 20 / 20 = F at *
    have k1 : (0 : Int) * (256 - F) ≤ v * (256 - F) := Int.mul_le_mul_of_nonneg_right v0 (by omega)
    have k2 : v * (256 - F) ≤ 255 * (256 - F) := Int.mul_le_mul_of_nonneg_right v1 (by omega)
    have k3 : (1 : Int) * F ≤ w * F := Int.mul_le_mul_of_nonneg_right h.1 hF.1
    have k4 : w * F ≤ 255 * F := Int.mul_le_mul_of_nonneg_right h.2 hF.1
    rw [vd_shr8 (by omega) (by omega)]
theorem vd_P277z (hN : vd_SR N) {v a b : Int} (a0 : 0 ≤ a) (b0 : 0 ≤ b) (hab : a + b ≤ 8000000) (v0 : 0 ≤ v) (v1 : v ≤ 255) : vd_wp (d + 1) 277 0 [.int (vd_I v), .int (vd_I a), .int (vd_I b), vd_U, vd_U, vd_U, vd_U] [] (vd_mf N f) Q = Q (vd_mf N f) (.inl (some (.int (vd_I (vd_lrn v a b))))) := by
  unfold vd_lrn
  by_cases c : a + b = 0
  · simp (disch := omega) only [vd_S277_0 hN, vd_S277_12 hN, vd_S277_14 hN, vd_S277_24 hN, vd_S277_27 hN, vd_S277_38 hN, vd_S277_41 hN, vd_S277_62 hN, vd_S277_65 hN, vd_S277_71 hN, vd_S277_74 hN, vd_J_of, vd_J_add, vd_J0, vd_J_cmp, c, Int.lt_irrefl, if_false, eq_self, if_true, vd_I_toInt]
  · have c' : 0 < a + b := by omega
    have hq : 0 ≤ (256 * a + (a + b) / 2) / (a + b) ∧ (256 * a + (a + b) / 2) / (a + b) ≤ 256 * a + (a + b) / 2 := ⟨Int.ediv_nonneg (by omega) (by omega), Int.ediv_le_self _ (by omega)⟩
    have h := vd_wn_b (v := (256 * a + (a + b) / 2) / (a + b)) (show (1 : Int) ≤ 255 by decide)
    have hF : 0 ≤ 128 * min (a + b) 20 / 20 ∧ 128 * min (a + b) 20 / 20 ≤ 128 := by omega
    have hne : ∀ {z : Int}, 0 < z → z < 9223372036854775808 → vd_J z ≠ 0 := fun {z} q1 q2 q => by
      have := congrArg Int64.toInt q
      rw [vd_J_toInt (by omega) q2] at this
      have e0 : (0 : Int64).toInt = 0 := by decide
      omega
    have n1 : vd_J 2 ≠ 0 := hne (by decide) (by decide)
    have n2 : vd_J (a + b) ≠ 0 := hne c' (by omega)
    have e8 : vd_I 1 <<< (vd_I 7 &&& 31) = vd_I 128 := by decide
    have hU : vd_long vd_U = false := vd_long_ra 0
    simp (disch := first | assumption | omega) only [vd_S277_0 hN, vd_S277_12 hN, vd_S277_14 hN, vd_S277_24 hN, vd_S277_27 hN, vd_S277_38 hN, vd_S277_41 hN, vd_S277_62 hN, vd_S277_65 hN, vd_S277_71 hN, vd_S277_74 hN, c, vd_J_of, vd_J_add, vd_J_mul, vd_J0, vd_J256, vd_J2, vd_J20, vd_J_cmp, c', if_true, vd_I_toInt, show ¬ ((1 : Int) = 0) by decide, if_false, vd_J_div, vd_J_to, vd_P295, vd_rs_v, vd_rs_n, vd_I_mul, vd_I_add, vd_I_sub, vd_I_div, vd_P194 hN, vd_S231_0 hN, show (8 - 1 : Int) = 7 by decide, e8]
    generalize vd_wn ((256 * a + (a + b) / 2) / (a + b)) 1 255 = w at *
    generalize 128 * min (a + b) 20 / 20 = F at *
    have k1 : (0 : Int) * (256 - F) ≤ v * (256 - F) := Int.mul_le_mul_of_nonneg_right v0 (by omega)
    have k2 : v * (256 - F) ≤ 255 * (256 - F) := Int.mul_le_mul_of_nonneg_right v1 (by omega)
    have k3 : (1 : Int) * F ≤ w * F := Int.mul_le_mul_of_nonneg_right h.1 hF.1
    have k4 : w * F ≤ 255 * F := Int.mul_le_mul_of_nonneg_right h.2 hF.1
    rw [vd_shr8 (by omega) (by omega)]

theorem vd_lrn_z {v a b : Int} (v0 : 0 ≤ v) (v1 : v ≤ 255) (a0 : 0 ≤ a) (b0 : 0 ≤ b) : 0 ≤ vd_lrn v a b ∧ vd_lrn v a b ≤ 255 := by
  unfold vd_lrn
  split
  · omega
  · have h := vd_wn_b (v := (256 * a + (a + b) / 2) / (a + b)) (show (1 : Int) ≤ 255 by decide)
    generalize vd_wn ((256 * a + (a + b) / 2) / (a + b)) 1 255 = w at *
    have hF : 0 ≤ 128 * min (a + b) 20 / 20 ∧ 128 * min (a + b) 20 / 20 ≤ 128 := by omega
    generalize 128 * min (a + b) 20 / 20 = F at *
    have k1 : (0 : Int) * (256 - F) ≤ v * (256 - F) := Int.mul_le_mul_of_nonneg_right v0 (by omega)
    have k2 : v * (256 - F) ≤ 255 * (256 - F) := Int.mul_le_mul_of_nonneg_right v1 (by omega)
    have k3 : (1 : Int) * F ≤ w * F := Int.mul_le_mul_of_nonneg_right h.1 hF.1
    have k4 : w * F ≤ 255 * F := Int.mul_le_mul_of_nonneg_right h.2 hF.1
    omega
end VDKP
/-- the four kept sets of chances -/
def vd_CXR (f g : Nat → Nat → Int32) : Prop := ∀ c k, c < 4 → k < 2941 → ∃ z : Int, (0 ≤ z ∧ z ≤ 255) ∧ f 14 (2941 * c + k) = vd_I z ∧ g (68 + c) k = vd_I z
theorem vd_CXR.keep {f g f' g' : Nat → Nat → Int32} (h : vd_CXR f g) (hf : ∀ i, f' 14 i = f 14 i) (hg : ∀ c i, 68 ≤ c → c ≤ 71 → g' c i = g c i) : vd_CXR f' g' := fun c k hc hk => by
  obtain ⟨z, a, b, e⟩ := h c k hc hk
  exact ⟨z, a, by rw [hf]; exact b, by rw [hg _ _ (by omega) (by omega)]; exact e⟩
theorem vd_CXR.up {f g : Nat → Nat → Int32} (h : vd_CXR f g) {c k : Nat} {v : Int} (hc : c < 4) (hk : k < 2941) (v0 : 0 ≤ v) (v1 : v ≤ 255) : vd_CXR (vd_up f 14 (2941 * c + k) (vd_I v)) (vd_up g (68 + c) k (vd_I v)) := fun c' k' hc' hk' => by
  by_cases e : c' = c ∧ k' = k
  · obtain ⟨rfl, rfl⟩ := e
    exact ⟨v, ⟨v0, v1⟩, vd_up_eq _ _ _ _, vd_up_eq _ _ _ _⟩
  · obtain ⟨z, a, b, x⟩ := h c' k' hc' hk'
    exact ⟨z, a, by rw [vd_up_ne (by omega)]; exact b, by rw [vd_up_ne (by omega)]; exact x⟩
section VDKQ
variable {M N : vd_M} {ow fa lo lf : Nat}
theorem vd_kpLoop (hM : vd_SC M ow fa lo lf) (hN : vd_SR N) {n c : Nat} {lr fx rs : Int} (hc : c < 4) (hn : n ≤ 8000000) (l01 : lr = 0 ∨ lr = 1) (f01 : fx = 0 ∨ fx = 1) (r01 : rs = 0 ∨ rs = 1) (hl : lr = 1 ↔ fx = 0 ∧ rs = 0) : ∀ (m k : Nat) (f g : Nat → Nat → Int32) (a2 : Value), k + m = 2941 → vd_RM f g → vd_RY n f g → vd_CXR f g → g 63 82 = vd_I fx → g 63 80 = vd_I rs → g 63 78 = vd_I (c : Int) → ∃ f' g' : Nat → Nat → Int32, (∀ d Q, vd_wp (d + 2) 148 51 [.ref 10, .int (vd_I (2941 * (c : Int))), .int (vd_I lr), .int (vd_I (k : Int))] [] (vd_mf M f) Q = Q (vd_mf M f') (.inl none)) ∧ (∀ d Q, vd_wp (d + 2) 276 9 [.ref 63, .int (vd_I (k : Int)), a2] [] (vd_mf N g) Q = vd_wp (d + 2) 276 82 [.ref 63, .int (vd_I 2941), a2] [] (vd_mf N g') Q) ∧ vd_CXR f' g' ∧ (∀ x i, x ≠ 14 → f' x i = f x i) ∧ (∀ x i, x ≠ 68 + c → g' x i = g x i) := by
  intro m
  induction m with
  | zero =>
    intro k f g a2 hk hRM hRY hCX h82 h80 h78
    have hk : k = 2941 := by omega
    subst hk
    refine ⟨f, g, fun d Q => ?_, fun d Q => ?_, hCX, fun _ _ _ => rfl, fun _ _ _ => rfl⟩
    · simp (disch := omega) only [vd_S148_51 hM, vd_S148_104 hM, vd_I_toInt, show ¬ (((2941 : Nat) : Int) < 2941) by decide, if_false]
    · simp (disch := omega) only [vd_S276_9 hN, vd_I_toInt, show ¬ (((2941 : Nat) : Int) < 2941) by decide, if_false]
      rfl
  | succ m ih =>
    intro k f g a2 hk hRM hRY hCX h82 h80 h78
    have hk9 : k < 2941 := by omega
    have ck : ((k : Int) < 2941) := by omega
    have ek : (k : Int) + 1 = ((k + 1 : Nat) : Int) := by omega
    have ei : (2941 * (c : Int) + (k : Int)).toNat = 2941 * c + k := by omega
    obtain ⟨z, ⟨z0, z1⟩, fz, gz⟩ := hCX c k hc hk9
    obtain ⟨rc, kc, lc⟩ := vd_ctx68 hN hc
    obtain ⟨em, mz, fm, m0, m1⟩ := hRM k hk9
    have gm : g 80 k = vd_I mz := by rw [← em]; exact fm
    obtain ⟨ea, eb, a, b, fa', fb, a0, b0, ab⟩ := hRY.1 k hk9
    have ga : g 81 k = vd_I a := by rw [← ea]; exact fa'
    have gb : g 82 k = vd_I b := by rw [← eb]; exact fb
    have hl1 : (k : Int) < (vd_l N (68 + c) : Int) := by rw [lc]; omega
    have go : ∀ v : Int, 0 ≤ v → v ≤ 255 → (∀ d Q, vd_wp (d + 2) 148 51 [.ref 10, .int (vd_I (2941 * (c : Int))), .int (vd_I lr), .int (vd_I (k : Int))] [] (vd_mf M f) Q = vd_wp (d + 2) 148 97 [.ref 10, .int (vd_I (2941 * (c : Int))), .int (vd_I lr), .int (vd_I (k : Int))] [.int (vd_I v), .int (vd_I (2941 * (c : Int) + (k : Int))), .ref 14] (vd_mf M f) Q) → (∀ d Q, vd_wp (d + 2) 276 9 [.ref 63, .int (vd_I (k : Int)), a2] [] (vd_mf N g) Q = vd_wp (d + 2) 276 75 [.ref 63, .int (vd_I (k : Int)), a2] [.int (vd_I v), .int (vd_I (k : Int)), .ref (68 + c)] (vd_mf N g) Q) → ∃ f' g' : Nat → Nat → Int32, (∀ d Q, vd_wp (d + 2) 148 51 [.ref 10, .int (vd_I (2941 * (c : Int))), .int (vd_I lr), .int (vd_I (k : Int))] [] (vd_mf M f) Q = Q (vd_mf M f') (.inl none)) ∧ (∀ d Q, vd_wp (d + 2) 276 9 [.ref 63, .int (vd_I (k : Int)), a2] [] (vd_mf N g) Q = vd_wp (d + 2) 276 82 [.ref 63, .int (vd_I 2941), a2] [] (vd_mf N g') Q) ∧ vd_CXR f' g' ∧ (∀ x i, x ≠ 14 → f' x i = f x i) ∧ (∀ x i, x ≠ 68 + c → g' x i = g x i) := by
      intro v v0 v1 eC eR
      obtain ⟨f', g', q1, q2, q3, q4, q5⟩ := ih (k + 1) (vd_up f 14 (2941 * c + k) (vd_I v)) (vd_up g (68 + c) k (vd_I v)) a2 (by omega) (fun j hj => by
        rw [vd_up_ne (by omega), vd_up_ne (by omega)]
        exact hRM j hj) ⟨fun j hj => by
        rw [vd_up_ne (by omega), vd_up_ne (by omega), vd_up_ne (by omega), vd_up_ne (by omega)]
        exact hRY.1 j hj, by
        rw [vd_up_ne (by omega), vd_up_ne (by omega)]
        exact hRY.2⟩ (hCX.up hc hk9 v0 v1) (by rw [vd_up_ne (by omega)]; exact h82) (by rw [vd_up_ne (by omega)]; exact h80) (by rw [vd_up_ne (by omega)]; exact h78)
      refine ⟨f', g', fun d Q => ?_, fun d Q => ?_, q3, fun x i q => by rw [q4 x i q, vd_up_ne (by omega)], fun x i q => by rw [q5 x i q, vd_up_ne (by omega)]⟩
      · rw [eC, ← q1 d Q]
        simp (disch := omega) only [vd_S148_97 hM, ei, vd_I_add, ek]
      · rw [eR, ← q2 d Q]
        simp (disch := first | assumption | omega) only [vd_S276_75 hN, Int.toNat_natCast, vd_I_add, ek]
    rcases l01 with hl0 | hl1'
    · -- as they are
      subst hl0
      refine go mz m0 m1 (fun d Q => ?_) (fun d Q => ?_)
      · simp (disch := omega) only [vd_S148_51 hM, vd_S148_58 hM, vd_S148_88 hM, vd_S148_96 hM, Int.toNat_natCast, fm, vd_I_toInt, ck, if_true, eq_self, vd_I_add]
      · by_cases c1 : fx = 0
        · have : rs = 1 := by
            rcases r01 with h | h
            · exact absurd (hl.mpr ⟨c1, h⟩) (by decide)
            · exact h
          subst this
          subst c1
          simp (disch := first | assumption | omega) only [vd_S276_9 hN, vd_S276_16 hN, h78, vd_S276_24 hN, Int.toNat_natCast, rc, vd_vr_some, h82, vd_S276_33 hN, h80, vd_S276_40 hN, vd_S276_45 hN, gm, vd_I_toInt, ck, if_true, eq_self, show ¬ ((1 : Int) = 0) by decide, if_false]
        · simp (disch := first | assumption | omega) only [vd_S276_9 hN, vd_S276_16 hN, h78, vd_S276_24 hN, Int.toNat_natCast, rc, vd_vr_some, h82, vd_S276_40 hN, vd_S276_45 hN, gm, vd_I_toInt, ck, if_true, c1, if_false]
    · subst hl1'
      obtain ⟨c1, c2⟩ := hl.mp rfl
      subst c1 c2
      have lb := vd_lrn_z (v := z) (a := a) (b := b) z0 z1 a0 b0
      have P149 := fun d Q => vd_P149z (f := f) (d := d) (Q := Q) (k := k) (v := z) (a := a) (b := b) hM hk9 fa' fb a0 b0 (by omega) z0 z1
      have P277 := fun d Q => vd_P277z (f := g) (d := d) (Q := Q) (v := z) (a := a) (b := b) hN a0 b0 (by omega) z0 z1
      refine go (vd_lrn z a b) lb.1 lb.2 (fun d Q => ?_) (fun d Q => ?_)
      · simp (disch := first | assumption | omega) only [vd_S148_51 hM, vd_S148_58 hM, vd_S148_69 hM, vd_S148_81 hM, vd_S148_82 hM, vd_I_add, ei, fz, P149, vd_rs_v, vd_rs_n, vd_S148_85 hM, vd_I_toInt, ck, if_true, show ¬ ((1 : Int) = 0) by decide, if_false]
      · have cs : vd_cs [Value.int (vd_I (k : Int)), Value.ref (68 + c)] ≤ 8 := by
          rw [vd_cs_int, vd_cs_ref, vd_cs_nil]
          decide
        simp (disch := first | assumption | omega) only [vd_S276_9 hN, vd_S276_16 hN, h78, vd_S276_24 hN, Int.toNat_natCast, rc, vd_vr_some, h82, vd_S276_33 hN, h80, vd_S276_49 hN, vd_S276_57 hN, vd_S276_59 hN, gz, vd_S276_65 hN, ga, vd_S276_71 hN, gb, vd_S276_72 hN, P277, vd_rs_v, vd_rs_n, vd_I_toInt, ck, if_true, eq_self]
/-- keepModels, and the first part of finish -/
theorem vd_keepM (hM : vd_SC M ow fa lo lf) (hN : vd_SR N) {n c : Nat} {kp fx rs : Int} {f g : Nat → Nat → Int32} (hc : c < 4) (hn : n ≤ 8000000) (k01 : kp = 0 ∨ kp = 1) (f01 : fx = 0 ∨ fx = 1) (r01 : rs = 0 ∨ rs = 1) (hRM : vd_RM f g) (hRY : vd_RY n f g) (hCX : vd_CXR f g) (h12 : f 17 12 = vd_I kp) (h13 : f 17 13 = vd_I fx) (h3 : f 17 3 = vd_I rs) (h14 : f 17 14 = vd_I (c : Int)) (h81 : g 63 81 = vd_I kp) (h82 : g 63 82 = vd_I fx) (h80 : g 63 80 = vd_I rs) (h78 : g 63 78 = vd_I (c : Int)) : ∃ f' g' : Nat → Nat → Int32, (∀ d Q, vd_wp (d + 2) 148 0 [.ref 10, vd_U, vd_U, vd_U] [] (vd_mf M f) Q = Q (vd_mf M f') (.inl none)) ∧ (∃ a1 : Value, ∀ d Q, vd_wp (d + 2) 276 0 [.ref 63, vd_U, vd_U] [] (vd_mf N g) Q = vd_wp (d + 2) 276 82 [.ref 63, a1, vd_U] [] (vd_mf N g') Q) ∧ vd_CXR f' g' ∧ (∀ x i, x ≠ 14 → f' x i = f x i) ∧ (∀ x i, ¬ (68 ≤ x ∧ x ≤ 71) → g' x i = g x i) := by
  rcases k01 with rfl | rfl
  · refine ⟨f, g, fun d Q => ?_, ⟨vd_U, fun d Q => ?_⟩, hCX, fun _ _ _ => rfl, fun _ _ _ => rfl⟩
    · simp (disch := omega) only [vd_S148_0 hM, vd_S148_10 hM, h12, vd_I_toInt, eq_self, if_true]
    · simp (disch := omega) only [vd_S276_0 hN, h81, vd_I_toInt, eq_self, if_true]
  · obtain ⟨lr, l01, hl, e0⟩ : ∃ lr : Int, (lr = 0 ∨ lr = 1) ∧ (lr = 1 ↔ fx = 0 ∧ rs = 0) ∧ ∀ d Q, vd_wp (d + 2) 148 0 [.ref 10, vd_U, vd_U, vd_U] [] (vd_mf M f) Q = vd_wp (d + 2) 148 51 [.ref 10, .int (vd_I (2941 * (c : Int))), .int (vd_I lr), .int (vd_I ((0 : Nat) : Int))] [] (vd_mf M f) Q := by
      have em : (c : Int) * 2941 = 2941 * (c : Int) := by omega
      rcases f01 with rfl | rfl
      · rcases r01 with rfl | rfl
        · refine ⟨1, Or.inr rfl, by decide, fun d Q => ?_⟩
          simp (disch := omega) only [vd_S148_0 hM, vd_S148_11 hM, vd_S148_33 hM, vd_S148_43 hM, vd_S148_48 hM, h12, h13, h3, h14, vd_I_mul, em, vd_I_toInt, eq_self, if_true, show ¬ ((1 : Int) = 0) by decide, if_false]
          rfl
        · refine ⟨0, Or.inl rfl, by decide, fun d Q => ?_⟩
          simp (disch := omega) only [vd_S148_0 hM, vd_S148_11 hM, vd_S148_33 hM, vd_S148_47 hM, vd_S148_48 hM, h12, h13, h3, h14, vd_I_mul, em, vd_I_toInt, eq_self, if_true, show ¬ ((1 : Int) = 0) by decide, if_false]
          rfl
      · refine ⟨0, Or.inl rfl, by omega, fun d Q => ?_⟩
        simp (disch := omega) only [vd_S148_0 hM, vd_S148_11 hM, vd_S148_47 hM, vd_S148_48 hM, h12, h13, h14, vd_I_mul, em, vd_I_toInt, show ¬ ((1 : Int) = 0) by decide, if_false]
        rfl
    obtain ⟨f', g', q1, q2, q3, q4, q5⟩ := vd_kpLoop hM hN hc hn l01 f01 r01 hl 2941 0 f g vd_U rfl hRM hRY hCX h82 h80 h78
    refine ⟨f', g', fun d Q => by rw [e0, q1], ⟨.int (vd_I 2941), fun d Q => ?_⟩, q3, q4, fun x i q => q5 x i (by omega)⟩
    rw [← q2 d Q]
    simp (disch := omega) only [vd_S276_0 hN, vd_S276_7 hN, h81, vd_I_toInt, show ¬ ((1 : Int) = 0) by decide, if_false]
    rfl
end VDKQ
