/-! ===== a frame's settings, on both sides ===== -/
theorem vd_fgt_28 (F : Nat → Nat → Int32) {i : Nat} (hi : i < 6) : vd_fgt F 28 i = vd_I (vd_fst i) := by
  have : i = 0 ∨ i = 1 ∨ i = 2 ∨ i = 3 ∨ i = 4 ∨ i = 5 := by omega
  unfold vd_fgt
  rcases this with rfl | rfl | rfl | rfl | rfl | rfl
  · rw [vd_up_ne (by omega), vd_up_ne (by omega), vd_up_eq]; rfl
  · rw [vd_up_ne (by omega), vd_up_ne (by omega), vd_up_ne (by omega), vd_uf_in (by omega) (by omega)]; rfl
  · rw [vd_up_ne (by omega), vd_up_eq]; rfl
  · rw [vd_up_eq]; rfl
  · rw [vd_up_ne (by omega), vd_up_ne (by omega), vd_up_ne (by omega), vd_uf_in (by omega) (by omega)]; rfl
  · rw [vd_up_ne (by omega), vd_up_ne (by omega), vd_up_ne (by omega), vd_uf_in (by omega) (by omega)]; rfl
theorem vd_fgt_32 (F : Nat → Nat → Int32) {i : Nat} (hi : i < 32) : vd_fgt F 32 i = vd_I 0 ∧ vd_fgt F 33 i = vd_I 0 := by
  unfold vd_fgt
  constructor
  · rw [vd_up_ne (by omega), vd_up_ne (by omega), vd_up_ne (by omega), vd_uf_ne (by omega), vd_uf_ne (by omega), vd_uf_in (by omega) hi]
  · rw [vd_up_ne (by omega), vd_up_ne (by omega), vd_up_ne (by omega), vd_uf_ne (by omega), vd_uf_in (by omega) hi]
theorem vd_fst_b (i : Nat) : -64 ≤ vd_fst i ∧ vd_fst i ≤ 64 := by
  unfold vd_fst
  split
  · decide
  · split <;> decide
def vd_cp20 (F f' : Nat → Nat → Int32) : Prop := (f' 20 0 = F 27 0 ∧ f' 20 1 = F 27 1 ∧ f' 20 2 = F 27 2 ∧ f' 20 4 = F 27 4 ∧ f' 20 6 = F 27 6 ∧ f' 20 7 = F 27 7 ∧ f' 20 8 = F 27 8 ∧ f' 20 11 = F 27 11) ∧ ((∀ i, i < 6 → f' 21 i = F 28 i) ∧ (∀ i, i < 3 → f' 22 i = F 29 i) ∧ (∀ i, i < 7 → f' 23 i = F 30 i) ∧ (∀ i, i < 3 → f' 24 i = F 31 i) ∧ (∀ i, i < 32 → f' 25 i = F 32 i) ∧ (∀ i, i < 32 → f' 26 i = F 33 i))
theorem vd_S2of {F F1 G1 f' g' : Nat → Nat → Int32} {kd rs ft : Int} (hs1 : kd = 2 ∧ rs = 0 → ∀ i, i < 6 → ∃ z : Int, (-64 ≤ z ∧ z ≤ 64) ∧ F1 21 i = vd_I z ∧ G1 73 i = vd_I z) (hs2 : ∀ k, k < 32 → ∃ on z : Int, (on = 0 ∨ on = 1) ∧ (-256 ≤ z ∧ z ≤ 256 ∧ (k % 4 = 2 → 0 ≤ z ∧ z ≤ 3)) ∧ F1 25 k = vd_I on ∧ G1 74 k = vd_I on ∧ (k % 4 ≠ 3 → F1 26 k = vd_I z ∧ G1 75 k = vd_I z)) (hs3 : ∃ ab : Int, (ab = 0 ∨ ab = 1) ∧ F1 20 11 = vd_I ab ∧ G1 63 13 = vd_I ab) (c11 : F 27 11 = F1 20 11) (c28 : ∀ i, i < 6 → F 28 i = F1 21 i) (c32 : ∀ i, i < 32 → F 32 i = F1 25 i) (c33 : ∀ i, i < 32 → F 33 i = F1 26 i) (hS : vd_SET (if kd = 2 ∧ rs = 0 then F else vd_fgt F) F1 G1) (h85 : G1 63 85 = vd_I ft) (f01 : ft = 0 ∨ ft = 1) (cp : vd_cp20 F1 f') (g74 : ∀ k, k < 32 → g' 74 k = (if ft = 1 then G1 114 k else if kd = 2 ∧ rs = 0 then G1 74 k else vd_I 0) ∧ g' 75 k = if ft = 1 then G1 116 k else if kd = 2 ∧ rs = 0 then G1 75 k else vd_I 0) (g73 : ∀ i, i < 6 → g' 73 i = if (G1 113 i).toInt = 1 then G1 115 i else if kd = 2 ∧ rs = 0 then G1 73 i else vd_I (vd_fst i)) (g13 : g' 63 13 = (if ft = 1 then G1 63 86 else G1 63 13)) (hg : ∀ c i, (c = 63 ∧ (i = 35 ∨ i = 36 ∨ i = 37 ∨ i = 38 ∨ i = 41 ∨ i = 42 ∨ i = 43 ∨ i = 48)) ∨ (85 ≤ c ∧ c ≤ 87) → g' c i = G1 c i) : vd_S2 f' g' := by
  obtain ⟨⟨lv, sh, ec, v1, ⟨a1, a2, a3⟩, ⟨a4, a5, a6⟩⟩, hx, ⟨bs, dl, l, ⟨b1, b2, b3, b4⟩, b5, b6, b7, b8⟩, ⟨iu, mt, gu, ft', ⟨c1, c2, c3, c3'⟩, ⟨c4, c5, c6⟩, ⟨c7, c8, c9, c9'⟩, c10, c11', c12, c13⟩⟩ := hS
  have hft : ft' = ft := by
    have q1 := vd_toI c9' (by rcases c3' with h | h <;> rw [h] <;> decide) (by rcases c3' with h | h <;> rw [h] <;> decide)
    have q2 := vd_toI h85 (by rcases f01 with h | h <;> rw [h] <;> decide) (by rcases f01 with h | h <;> rw [h] <;> decide)
    exact q1.symm.trans q2
  subst hft
  obtain ⟨⟨t0, t1, t2, t4, t6, t7, t8, t11⟩, ⟨u1, u2, u3, u4, u5, u6⟩⟩ := cp
  have s2 := hs2
  obtain ⟨ab0, s3, s4, s5⟩ := hs3
  have e0 : ∀ c j, c ≠ 28 ∧ c ≠ 32 ∧ c ≠ 33 → (if kd = 2 ∧ rs = 0 then F else vd_fgt F) c j = F c j := fun c j q => by
    split
    · rfl
    · exact vd_fgt_ne q
  refine ⟨⟨lv, sh, ec, v1, ⟨by rw [t0, a1], by rw [t1, a2], by rw [t2, a3]⟩, ⟨by rw [hg _ _ (by omega), a4], by rw [hg _ _ (by omega), a5], by rw [hg _ _ (by omega), a6]⟩⟩, ⟨bs, dl, l, ⟨b1, b2, by rw [t4, b3], by rw [hg _ _ (by omega), b4]⟩, fun j hj => ⟨by rw [u2 j hj, (b5 j hj).1], by rw [hg _ _ (by omega), (b5 j hj).2.1], (b5 j hj).2.2⟩, by rw [hg _ _ (by omega), b6], b7, b8⟩, ⟨iu, mt, gu, ⟨c1, c2, c3⟩, ⟨by rw [t6, c4], by rw [t7, c5], by rw [t8, c6]⟩, ⟨by rw [hg _ _ (by omega), c7], by rw [hg _ _ (by omega), c8], by rw [hg _ _ (by omega), c9]⟩, fun q j hj => ?_, fun q j hj => ?_⟩, fun i hi => ?_, fun k hk => ?_, ?_⟩
  · obtain ⟨z, z1, z2, z3⟩ := c10 q j hj
    exact ⟨z, z1, by rw [u3 j hj, z2], by rw [hg _ _ (by omega), z3]⟩
  · obtain ⟨z, z1, z2, z3⟩ := c11' q j hj
    exact ⟨z, z1, by rw [u4 j hj, z2], by rw [hg _ _ (by omega), z3]⟩
  · rw [u1 i hi, g73 i hi]
    rcases hx i hi with ⟨x1, x2⟩ | ⟨x1, z, z1, z2, z3, z4⟩
    · rw [x1, if_neg (by decide), x2]
      by_cases q : kd = 2 ∧ rs = 0
      · rw [if_pos q, if_pos q, c28 i hi]
        exact hs1 q i hi
      · rw [if_neg q, if_neg q, vd_fgt_28 F hi]
        exact ⟨vd_fst i, vd_fst_b i, rfl, rfl⟩
    · rw [x1, if_pos (by decide)]
      exact ⟨z, ⟨z1, z2⟩, z3, z4⟩
  · rw [u5 k hk, u6 k hk, (g74 k hk).1, (g74 k hk).2]
    rcases f01 with q0 | q1
    · obtain ⟨_, y⟩ := c13 q0
      rw [(y k).1, (y k).2, if_neg (show ¬ (ft' = 1) by omega), if_neg (show ¬ (ft' = 1) by omega)]
      by_cases q : kd = 2 ∧ rs = 0
      · simp only [if_pos q]
        rw [c32 k hk, c33 k hk]
        exact s2 k hk
      · simp only [if_neg q]
        rw [(vd_fgt_32 F hk).1, (vd_fgt_32 F hk).2]
        exact ⟨0, 0, Or.inl rfl, ⟨by decide, by decide, fun _ => ⟨by decide, by decide⟩⟩, rfl, rfl, fun _ => ⟨rfl, rfl⟩⟩
    · rw [if_pos q1, if_pos q1]
      exact (c12 q1).1 k hk
  · rw [t11, g13]
    rcases f01 with q0 | q1
    · obtain ⟨y, _⟩ := c13 q0
      rw [y, if_neg (show ¬ (ft' = 1) by omega), e0 27 11 (by omega), c11]
      exact ⟨ab0, s3, s4, s5⟩
    · rw [if_pos q1]
      exact (c12 q1).2
