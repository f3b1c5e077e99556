/-! ===== decode whole ===== -/
/-- one step of the check sum -/
def vd_crs (x : Int32) : Int32 := if (x &&& vd_I 1).toInt = 0 then (x.toUInt32 >>> ((vd_I 1).toUInt32 &&& Int32.toUInt32 31)).toInt32 else (x.toUInt32 >>> ((vd_I 1).toUInt32 &&& Int32.toUInt32 31)).toInt32 ^^^ vd_I (-306674912)
def vd_cr : Nat → Int32 → Int32
  | 0, x => x
  | n + 1, x => vd_cr n (vd_crs x)
def vd_crcT (f : Nat → Nat → Int32) : Prop := ∀ k, k < 256 → f 15 k = vd_cr 8 (vd_I ((k : Nat) : Int))
/-- what holds between calls -/
def vd_API (M N : vd_M) (ow fa lo lf : Nat) (Z : Nat → Nat → Nat → Nat) (f g : Nat → Nat → Int32) : Prop := vd_INV M N ow fa lo lf Z f g ∧ (∃ n : Nat, n ≤ 65536 ∧ f 10 1 = vd_I (n : Int) ∧ g 63 1 = vd_I (n : Int)) ∧ (f 10 2 = g 63 3 ∧ f 10 3 = g 63 4) ∧ vd_crcT f
/-- what a call of the reference leaves -/
def vd_Lz (N N' : vd_M) (g g' : Nat → Nat → Int32) (a b : Nat) : Prop := (∀ c i, c < vd_n N → (c < 63 ∨ 196 ≤ c) → g' c i = g c i) ∧ (∀ c, c < vd_n N → vd_k N' c = vd_k N c ∧ vd_l N' c = vd_l N c) ∧ (∀ c i, c < vd_n N → (c < 63 ∨ 196 ≤ c) → vd_r N' c i = vd_r N c i) ∧ ((∀ c i, c < vd_n N → vd_j N' c i = vd_j N c i) ∧ vd_n N ≤ vd_n N') ∧ (vd_c N' ≤ vd_c N + a ∧ vd_s N' ≤ vd_s N + b)
theorem vd_Lq.z {N N' : vd_M} {g g' : Nat → Nat → Int32} {a b : Nat} (h : vd_Lq N N' g g' a b) : vd_Lz N N' g g' a b := ⟨fun c i q1 q2 => h.1 c i q1 (by omega), h.2⟩
theorem vd_Lz.trans {N N' N'' : vd_M} {g g' g'' : Nat → Nat → Int32} {a b a' b' : Nat} (h : vd_Lz N N' g g' a b) (h' : vd_Lz N' N'' g' g'' a' b') : vd_Lz N N'' g g'' (a + a') (b + b') :=
  ⟨fun c i q1 q2 => (h'.1 c i (Nat.lt_of_lt_of_le q1 h.2.2.2.1.2) q2).trans (h.1 c i q1 q2), fun c q => ⟨((h'.2.1 c (Nat.lt_of_lt_of_le q h.2.2.2.1.2)).1).trans (h.2.1 c q).1, ((h'.2.1 c (Nat.lt_of_lt_of_le q h.2.2.2.1.2)).2).trans (h.2.1 c q).2⟩, fun c i q1 q2 => (h'.2.2.1 c i (Nat.lt_of_lt_of_le q1 h.2.2.2.1.2) q2).trans (h.2.2.1 c i q1 q2), ⟨fun c i q => (h'.2.2.2.1.1 c i (Nat.lt_of_lt_of_le q h.2.2.2.1.2)).trans (h.2.2.2.1.1 c i q), Nat.le_trans h.2.2.2.1.2 h'.2.2.2.1.2⟩, by have := h.2.2.2.2; have := h'.2.2.2.2; omega⟩
theorem vd_Lz.mono {N N' : vd_M} {g g' : Nat → Nat → Int32} {a b a' b' : Nat} (h : vd_Lz N N' g g' a b) (ha : a ≤ a') (hb : b ≤ b') : vd_Lz N N' g g' a' b' := ⟨h.1, h.2.1, h.2.2.1, h.2.2.2.1, by have := h.2.2.2.2; omega⟩
theorem vd_Lz.ints {N : vd_M} {g g' : Nat → Nat → Int32} (h : ∀ c i, (c < 63 ∨ 196 ≤ c) → g' c i = g c i) : vd_Lz N N g g' 0 0 := ⟨fun c i _ q => h c i q, fun _ _ => ⟨rfl, rfl⟩, fun _ _ _ _ => rfl, ⟨fun _ _ _ => rfl, Nat.le_refl _⟩, Nat.le_refl _, Nat.le_refl _⟩
/-- a call of the class and one of the reference answer alike -/
def vd_AP (M N : vd_M) (Z : Nat → Nat → Nat → Nat) (f g : Nat → Nat → Int32) (mc kc : Nat) (ac : List Value) (mr kr : Nat) (ar : List Value) (kd1 kd2 a b : Nat) : Prop := ∃ (M' N' : vd_M) (ow' fa' lo' lf' : Nat) (f' g' : Nat → Nat → Int32) (t : Int) (v v' : Int32), (t = 0 → ∀ d Q, vd_wp (d + mc) kc 0 ac [] (vd_mf M f) Q = Q (vd_mf M' f') (.inl (some (.int v)))) ∧ (t = 1 → ∀ d Q, vd_wp (d + mc) kc 0 ac [] (vd_mf M f) Q = Q (vd_new (vd_mf M' f') kd1 0 6) (.inr (vd_n M'))) ∧ (t = 2 → ∀ d Q, vd_wp (d + mc) kc 0 ac [] (vd_mf M f) Q = Q (vd_new (vd_mf M' f') kd2 0 6) (.inr (vd_n M'))) ∧ (∀ d Q, vd_wp (d + mr) kr 0 ar [] (vd_mf N g) Q = Q (vd_mf N' g') (.inl (some (.int v')))) ∧ (t = 0 → v = v') ∧ (t = 0 ∨ (t = 1 ∧ kd1 ≠ 0) ∨ (t = 2 ∧ kd2 ≠ 0)) ∧ g' 63 2 = vd_I t ∧ vd_API M' N' ow' fa' lo' lf' Z f' g' ∧ vd_Le M M' f f' 0 0 ∧ vd_Lz N N' g g' a b
section VDDE
variable {M N : vd_M} {ow fa lo lf : Nat} {Z : Nat → Nat → Nat → Nat} {f g : Nat → Nat → Int32}
theorem vd_P168 (hN : vd_SR N) (x1 : Int32) {b : Int} (hb : b = 0 ∨ b = 1) (d : Nat) (Q : vd_M → (Option Value ⊕ Nat) → Prop) : vd_wp d 168 0 [.ref 63, .int x1, .int (vd_I b)] [] (vd_mf N g) Q = Q (vd_mf N (if b = 0 then g else vd_up g 63 2 x1)) (.inl (some (.int (vd_I b)))) := by
  rcases hb with rfl | rfl
  · simp (disch := first | decide | omega) only [vd_S168_0 hN, vd_I_toInt, eq_self, if_true, vd_S168_9 hN, vd_rok0]
  · simp (disch := first | decide | omega) only [vd_S168_0 hN, vd_I_toInt, show ¬ ((1 : Int) = 0) by decide, if_false, vd_S168_4 hN, vd_S168_9 hN, vd_rok1]
theorem vd_R131 (hN : vd_SR N) {b : Int} (b0 : 0 ≤ b ∧ b ≤ 8) (h3 : g 63 3 = vd_I b) (h2 : g 63 2 = vd_I 0) (x1 x2 x3 x4 x5 x6 : Int32) : ∃ (g' : Nat → Nat → Int32) (v' : Int32), (∀ d Q, vd_wp (d + 1) 170 131 [.ref 63, .int x1, .int x2, .int x3, .int x4, .int x5, .int x6] [] (vd_mf N g) Q = Q (vd_mf N g') (.inl (some (.int v')))) ∧ (b = 0 → v' = g 63 21 - x1) ∧ g' 63 2 = vd_I (if b = 0 then 0 else 1) ∧ (∀ c i, ¬ (c = 63 ∧ i = 2) → g' c i = g c i) := by
  by_cases c : b = 0
  · subst c
    refine ⟨g, g 63 21 - x1, fun d Q => ?_, fun _ => rfl, by rw [if_pos rfl]; exact h2, fun _ _ _ => rfl⟩
    have p := fun Q => vd_P168 hN (g := g) (vd_I 1) (b := 0) (Or.inl rfl) d Q
    simp (disch := omega) only [vd_S170_131 hN, h3, vd_I_toInt, eq_self, if_true, vd_S170_144 hN, vd_S170_145 hN, p, vd_rs_v, vd_S170_148 hN, vd_S170_160 hN, vd_S170_166 hN]
  · refine ⟨vd_up g 63 2 (vd_I 1), vd_I 0, fun d Q => ?_, fun q => absurd q c, by rw [if_neg c, vd_up_eq], fun c' i q => vd_up_ne q⟩
    have p := fun Q => vd_P168 hN (g := g) (vd_I 1) (b := 1) (Or.inr rfl) d Q
    have k3 : vd_up g 63 2 (vd_I 1) 63 3 = vd_I b := by rw [vd_up_ne (by omega)]; exact h3
    simp (disch := omega) only [vd_S170_131 hN, h3, vd_I_toInt, c, if_false, vd_S170_140 hN, vd_S170_145 hN, p, show ¬ ((1 : Int) = 0) by decide, vd_rs_v, vd_S170_148 hN, k3, vd_S170_156 hN, vd_S170_166 hN]
theorem vd_P166 (hM : vd_SC M ow fa lo lf) {b : Int} (b0 : 0 ≤ b ∧ b ≤ 8) (h2 : f 10 2 = vd_I b) (x1 x2 x3 x4 x5 x6 : Int32) (a7 : Value) (d : Nat) (Q : vd_M → (Option Value ⊕ Nat) → Prop) : vd_wp d 22 166 [.ref 10, .int x1, .int x2, .int x3, .int x4, .int x5, .int x6, a7] [] (vd_mf M f) Q = if b = 0 then Q (vd_mf M f) (.inl (some (.int (f 10 5 - x2)))) else Q (vd_new (vd_mf M f) 16 0 6) (.inr (vd_n M)) := by
  by_cases c : b = 0
  · subst c
    rw [if_pos rfl]
    simp (disch := omega) only [vd_S22_166 hM, h2, vd_I_toInt, eq_self, if_true, vd_S22_181 hM]
  · rw [if_neg c]
    simp (disch := omega) only [vd_S22_166 hM, h2, vd_I_toInt, c, if_false, vd_S22_173 hM]
/-- both decodes from their frames' end on -/
theorem vd_dcEnd {M N M1 N1 : vd_M} {f g F G F1 G1 : Nat → Nat → Int32} {b : Int} (b0 : 0 ≤ b ∧ b ≤ 8) (hI : vd_INV M N ow fa lo lf Z f g) (hcr : vd_crcT f) (kF : ∀ c i, ¬ (c = 10 ∧ 1 ≤ i ∧ i ≤ 3) → F c i = f c i) (F1' : F 10 1 = vd_I 0) (kG : ∀ c i, ¬ (c = 63 ∧ 1 ≤ i ∧ i ≤ 4) → G c i = g c i) (G1' : G 63 1 = vd_I 0) (G2' : G 63 2 = vd_I 0) {ow' fa' lo' lf' : Nat} (hI1 : vd_INV M1 N1 ow' fa' lo' lf' Z F1 G1) (e1 : F1 10 2 = vd_I b ∧ G1 63 3 = vd_I b) (e2 : F1 10 3 = G1 63 4) (e3 : F1 10 1 = F 10 1) (hLe : vd_Le M M1 F F1 0 0) (hLq : vd_Lq N N1 G G1 8 48) {y1 y3 y4 y5 y6 z2 z3 z4 z5 z6 : Int32} {a7 : Value} (c1 : ∀ d Q, vd_wp (d + 11) 22 0 [.ref 10, vd_U, vd_U, vd_U, vd_U, vd_U, vd_U, vd_U] [] (vd_mf M f) Q = vd_wp (d + 11) 22 166 [.ref 10, .int y1, .int (f 10 5), .int y3, .int y4, .int y5, .int y6, a7] [] (vd_mf M1 F1) Q) (c2 : ∀ d Q, vd_wp (d + 16) 170 0 [.ref 63, vd_U, vd_U, vd_U, vd_U, vd_U, vd_U] [] (vd_mf N g) Q = vd_wp (d + 16) 170 131 [.ref 63, .int (g 63 21), .int z2, .int z3, .int z4, .int z5, .int z6] [] (vd_mf N1 G1) Q) : vd_AP M N Z f g 11 22 [.ref 10, vd_U, vd_U, vd_U, vd_U, vd_U, vd_U, vd_U] 16 170 [.ref 63, vd_U, vd_U, vd_U, vd_U, vd_U, vd_U] 16 0 8 48 := by
  have hM1 := hI1.1.1
  have hN1 := hI1.1.2.1
  have n1 := hI.1.2.2.2
  have g21 : G1 63 2 = vd_I 0 := by rw [hLq.1 63 2 (by omega) (by omega), G2']
  have g11 : G1 63 1 = vd_I 0 := by rw [hLq.1 63 1 (by omega) (by omega), G1']
  obtain ⟨g2, v', r1, r2, r3, r4⟩ := vd_R131 hN1 b0 e1.2 g21 (g 63 21) z2 z3 z4 z5 z6
  have cnt := hI.2.2.2.2.2.1.1.2.1
  have cnt1 := hI1.2.2.2.2.2.1.1.2.1
  have hI2 : vd_INV M1 N1 ow' fa' lo' lf' Z F1 g2 := hI1.num (fun _ _ _ => rfl) (fun c i q => r4 c i (by omega))
  have hcr2 : vd_crcT F1 := fun k hk => by rw [hLe.1 15 k (by omega), kF 15 k (by omega)]; exact hcr k hk
  refine ⟨M1, N1, ow', fa', lo', lf', F1, g2, (if b = 0 then 0 else 1), F1 10 5 - f 10 5, v', fun q d Q => ?_, fun q d Q => ?_, fun q => ?_, fun d Q => ?_, fun q => ?_, ?_, r3, ⟨hI2, ⟨0, by omega, by rw [e3]; exact F1', by rw [r4 63 1 (by omega)]; exact g11⟩, ⟨by rw [e1.1, r4 63 3 (by omega), e1.2], by rw [e2, r4 63 4 (by omega)]⟩, hcr2⟩, ?_, ?_⟩
  · have c : b = 0 := by
      by_cases c : b = 0
      · exact c
      · rw [if_neg c] at q; exact absurd q (by decide)
    rw [c1 d Q, vd_P166 hM1 b0 e1.1, if_pos c]
  · have c : ¬ b = 0 := by
      intro c
      rw [if_pos c] at q; exact absurd q (by decide)
    rw [c1 d Q, vd_P166 hM1 b0 e1.1, if_neg c]
  · split at q
    · exact absurd q (by decide)
    · exact absurd q (by decide)
  · rw [c2 d Q]
    exact r1 (d + 15) Q
  · have c : b = 0 := by
      by_cases c : b = 0
      · exact c
      · rw [if_neg c] at q; exact absurd q (by decide)
    rw [r2 c, cnt, cnt1]
  · split
    · exact Or.inl rfl
    · exact Or.inr (Or.inl ⟨rfl, by decide⟩)
  · have l0 : vd_Le M M f F 0 0 := vd_Le.ints (fun c i q => kF c i (by omega))
    exact l0.trans hLe
  · have l0 : vd_Lz N N g G 0 0 := vd_Lz.ints (fun c i q => kG c i (by omega))
    have l2 : vd_Lz N1 N1 G1 g2 0 0 := vd_Lz.ints (fun c i q => r4 c i (by omega))
    exact ((l0.trans hLq.z).trans l2).mono (by omega) (by omega)
theorem vd_decode (hA : vd_API M N ow fa lo lf Z f g) : vd_AP M N Z f g 11 22 [.ref 10, vd_U, vd_U, vd_U, vd_U, vd_U, vd_U, vd_U] 16 170 [.ref 63, vd_U, vd_U, vd_U, vd_U, vd_U, vd_U] 16 0 8 48 := by
  obtain ⟨hI, ⟨n, hn, f101, g631⟩, _, hcr⟩ := hA
  have hM := hI.1.1
  have hN := hI.1.2.1
  have hRT := hI.2.1.1
  obtain ⟨F, hF⟩ : ∃ F, F = vd_up (vd_up (vd_up f 10 1 (vd_I 0)) 10 2 (vd_I 0)) 10 3 (vd_I (-1)) := ⟨_, rfl⟩
  have kF : ∀ c i, ¬ (c = 10 ∧ 1 ≤ i ∧ i ≤ 3) → F c i = f c i := fun c i q => by rw [hF, vd_up_ne (by omega), vd_up_ne (by omega), vd_up_ne (by omega)]
  have F1' : F 10 1 = vd_I 0 := by rw [hF, vd_up_ne (by omega), vd_up_ne (by omega), vd_up_eq]
  have F2' : F 10 2 = vd_I 0 := by rw [hF, vd_up_ne (by omega), vd_up_eq]
  have F3' : F 10 3 = vd_I (-1) := by rw [hF, vd_up_eq]
  obtain ⟨G, hG⟩ : ∃ G, G = vd_up (vd_up (vd_up (vd_up g 63 2 (vd_I 0)) 63 3 (vd_I 0)) 63 4 (vd_I (-1))) 63 1 (vd_I 0) := ⟨_, rfl⟩
  have kG : ∀ c i, ¬ (c = 63 ∧ 1 ≤ i ∧ i ≤ 4) → G c i = g c i := fun c i q => by rw [hG, vd_up_ne (by omega), vd_up_ne (by omega), vd_up_ne (by omega), vd_up_ne (by omega)]
  have G1' : G 63 1 = vd_I 0 := by rw [hG, vd_up_eq]
  have G2' : G 63 2 = vd_I 0 := by rw [hG, vd_up_ne (by omega), vd_up_ne (by omega), vd_up_ne (by omega), vd_up_eq]
  have G3' : G 63 3 = vd_I 0 := by rw [hG, vd_up_ne (by omega), vd_up_ne (by omega), vd_up_eq]
  have G4' : G 63 4 = vd_I (-1) := by rw [hG, vd_up_ne (by omega), vd_up_eq]
  have hI0 : vd_INV M N ow fa lo lf Z F G := hI.num (fun c i q => kF c i (by omega)) (fun c i q => kG c i (by omega))
  have hRT0 := hI0.2.1.1
  obtain ⟨T, hT⟩ : ∃ T, T = vd_Tp F 11 := ⟨_, rfl⟩
  have hTg : ∀ i, i < 65536 → vd_Tp G 64 i = T i := fun i hi => by
    rw [hT]
    unfold vd_Tp
    rw [hRT0 i hi]
  have p23 := fun (d : Nat) Q => vd_P23 hM (f := F) hn d Q
  rw [← hT] at p23
  have eC0 : ∀ d Q, vd_wp (d + 11) 22 0 [.ref 10, vd_U, vd_U, vd_U, vd_U, vd_U, vd_U, vd_U] [] (vd_mf M f) Q = vd_wp (d + 11) 22 30 [.ref 10, .int (vd_I (n : Int)), .int (f 10 5), vd_U, vd_U, vd_U, vd_U, vd_U] [.int (vd_I ((vd_ixl T n : Nat) : Int))] (vd_mf M F) Q := fun d Q => by
    simp only [vd_S22_0 hM, ← hF, f101, vd_S22_27 hM, p23, vd_rs_v]
  by_cases cn : n = 0
  · subst cn
    have ix0 : vd_ixl T 0 = 0 := if_pos rfl
    rw [ix0] at eC0
    refine vd_dcEnd (b := 0) ⟨by decide, by decide⟩ hI hcr kF F1' kG G1' G2' hI0 ⟨F2', G3'⟩ (by rw [F3', G4']) rfl (vd_Le.ints (fun _ _ _ => rfl)) ((vd_Lq.ints (fun _ _ _ => rfl)).mono (by omega) (by omega)) (a7 := .int (vd_I 0)) (y1 := vd_I ((0 : Nat) : Int)) (y3 := vd_I 0) (y4 := vd_I 1) (y5 := vd_I 0) (y6 := vd_I 1) (z2 := vd_I ((0 : Nat) : Int)) (z3 := vd_I 0) (z4 := vd_I 1) (z5 := vd_I 1) (z6 := vd_I 3) (fun d Q => ?_) (fun d Q => ?_)
    · rw [eC0 d Q]
      have z0 : vd_I ((0 : Nat) : Int) = vd_I 0 := rfl
      have e01 : vd_I 0 + vd_I 0 = vd_I 0 := by decide
      have e11 : vd_I 0 + 1 = vd_I 1 := by decide
      simp (disch := omega) only [vd_S22_30 hM, z0, vd_I_toInt, eq_self, if_true, vd_S22_35 hM, vd_S22_52 hM, show ¬ ((0 : Int) < 0) by decide, if_false, vd_S22_78 hM]
      rw [vd_S22_84 hM]
      simp (disch := omega) only [vd_I_toInt, show ((0 : Int) < 1) by decide, if_true, vd_S22_91 hM, F2', eq_self, vd_S22_98 hM, vd_S22_104 hM, vd_S22_117 hM, vd_I_add, Int.add_zero, show ¬ ((0 : Int) < 0) by decide, if_false, vd_S22_156 hM, Int.zero_add]
      rw [vd_S22_84 hM]
      simp (disch := omega) only [vd_I_toInt, show ¬ ((1 : Int) < 1) by decide, if_false]
    · have z0 : vd_I ((0 : Nat) : Int) = vd_I 0 := rfl
      have s5 : ¬ ((vd_I 0 >>> (vd_I 5 &&& 31)).toInt = (vd_I 6).toInt) := by decide
      have s3 : ((vd_I 0 >>> (vd_I 3 &&& 31)) &&& vd_I 3) + vd_I 1 = vd_I 1 := by decide
      have s7 : (vd_I 0 &&& vd_I 7) + vd_I 1 = vd_I 1 := by decide
      have s2 : vd_I 2 + vd_I 1 * vd_I 1 = vd_I 3 := by decide
      simp (disch := omega) only [vd_S170_0 hN, ← hG, g631, z0, vd_I_toInt, show ¬ ((0 : Int) < 0) by decide, if_false, vd_S170_49 hN, vd_S170_50 hN]
      rw [if_neg (by decide)]
      simp (disch := omega) only [s3, s7, s2, vd_S170_120 hN, vd_I_toInt, show ¬ ((0 : Int) < 0) by decide, if_false]
  · obtain ⟨m, hm⟩ : ∃ m, m = T (n - 1) := ⟨_, rfl⟩
    have mb : m ≤ 255 := by rw [hm, hT]; exact vd_Tp_b F 11 (n - 1)
    obtain ⟨s, hs⟩ : ∃ s, s = m / 8 % 4 + 1 := ⟨_, rfl⟩
    obtain ⟨mn, hmn⟩ : ∃ mn, mn = m % 8 + 1 := ⟨_, rfl⟩
    have s4 : s ≤ 4 := by omega
    have m8 : mn ≤ 8 := by omega
    have smn : s * mn ≤ 4 * 8 := Nat.mul_le_mul s4 m8
    have e1 : (n : Int) - 1 = ((n - 1 : Nat) : Int) := by omega
    have gand : G 64 (n - 1) &&& vd_I 255 = vd_I (m : Int) := by rw [vd_Tp_and, hTg (n - 1) (by omega), hm]
    have e3 := vd_mm3 mb
    have e7 := vd_m7 m
    have e5 := vd_m5 mb
    have es : ((m / 8 % 4 : Nat) : Int) + 1 = (s : Int) := by omega
    have em : ((m % 8 : Nat) : Int) + 1 = (mn : Int) := by omega
    have eix : 2 + (s : Int) * (mn : Int) = ((2 + s * mn : Nat) : Int) := by
      have : ((s * mn : Nat) : Int) = (s : Int) * (mn : Int) := Int.natCast_mul s mn
      omega
    have six : (vd_I 6).toInt = 6 := by decide
    have eR0 : ∀ d Q, vd_wp (d + 16) 170 0 [.ref 63, vd_U, vd_U, vd_U, vd_U, vd_U, vd_U] [] (vd_mf N g) Q = if m / 32 = 6 then vd_wp (d + 16) 170 85 [.ref 63, .int (g 63 21), .int (vd_I (n : Int)), .int (vd_I (m : Int)), .int (vd_I (s : Int)), .int (vd_I (mn : Int)), .int (vd_I ((2 + s * mn : Nat) : Int))] [] (vd_mf N G) Q else vd_wp (d + 16) 170 120 [.ref 63, .int (g 63 21), .int (vd_I (n : Int)), .int (vd_I (m : Int)), .int (vd_I (s : Int)), .int (vd_I (mn : Int)), .int (vd_I ((2 + s * mn : Nat) : Int))] [] (vd_mf N G) Q := fun d Q => by
      simp (disch := omega) only [vd_S170_0 hN, ← hG, g631, vd_I_toInt, show (0 < (n : Int)) by omega, if_true, vd_S170_34 hN, vd_I_sub, e1, vd_S170_41 hN, Int.toNat_natCast, gand, vd_S170_50 hN, e3, e7, e5, vd_I_add, es, em, vd_I_mul, eix]
      by_cases c : m / 32 = 6
      · rw [if_pos (by omega), if_pos c]
      · rw [if_neg (by omega), if_neg c]
    have hix : vd_ixl T n = if m / 32 = 6 ∧ 2 + s * mn ≤ n ∧ T (n - (2 + s * mn)) = m then 2 + s * mn else 0 := by
      unfold vd_ixl
      rw [if_neg cn, ← hm, ← hs, ← hmn]
    by_cases C : m / 32 = 6 ∧ 2 + s * mn ≤ n ∧ T (n - (2 + s * mn)) = m
    · rw [if_pos C] at hix
      obtain ⟨C1, C2, C3⟩ := C
      obtain ⟨at_, hat⟩ : ∃ at_, at_ + 2 + s * mn = n := ⟨n - (2 + s * mn), by omega⟩
      have ixn : 2 + s * mn = n - at_ := by omega
      have IX : vd_IX T n s mn at_ := ⟨⟨by omega, hn⟩, by rw [hs, hm], by rw [hmn, hm], hat, s4, by omega, m8, by omega⟩
      have eR1 : ∀ d Q, vd_wp (d + 16) 170 0 [.ref 63, vd_U, vd_U, vd_U, vd_U, vd_U, vd_U] [] (vd_mf N g) Q = vd_wp (d + 15) 171 0 [.ref 63, .int (vd_I (n : Int)), .int (vd_I (s : Int)), .int (vd_I (mn : Int)), vd_U, vd_U, vd_U, vd_U, vd_U, vd_U] [] (vd_mf N G) (fun M1 r => vd_rs r [] (fun st => vd_wp (d + 16) 170 117 [.ref 63, .int (g 63 21), .int (vd_I (n : Int)), .int (vd_I (m : Int)), .int (vd_I (s : Int)), .int (vd_I (mn : Int)), .int (vd_I ((2 + s * mn : Nat) : Int))] st M1 Q)) := fun d Q => by
        have en : (n : Int) - ((2 + s * mn : Nat) : Int) = ((n - (2 + s * mn) : Nat) : Int) := by omega
        have gand2 : G 64 (n - (2 + s * mn)) &&& vd_I 255 = vd_I (m : Int) := by rw [vd_Tp_and, hTg (n - (2 + s * mn)) (by omega), C3]
        rw [eR0 d Q, if_pos C1]
        simp (disch := omega) only [vd_S170_85 hN, vd_I_toInt, show ¬ ((n : Int) < ((2 + s * mn : Nat) : Int)) by omega, if_false, vd_S170_91 hN, vd_I_sub, en, vd_S170_99 hN, Int.toNat_natCast, gand2, eq_self, if_true, vd_S170_108 hN, vd_S170_114 hN]
      have tgt := hTg
      have lU := vd_lgU
      have eat : (n : Int) - 2 - (s : Int) * (mn : Int) = (at_ : Int) := by
        have : ((s * mn : Nat) : Int) = (s : Int) * (mn : Int) := Int.natCast_mul s mn
        omega
      have l171 := fun (d : Nat) Q => vd_L171 hN hTg IX vd_U vd_U d Q mn 0 (by omega)
      have e171 : ∀ d Q, vd_wp (d + 15) 171 0 [.ref 63, .int (vd_I (n : Int)), .int (vd_I (s : Int)), .int (vd_I (mn : Int)), vd_U, vd_U, vd_U, vd_U, vd_U, vd_U] [] (vd_mf N G) Q = vd_wp (d + 15) 171 46 [.ref 63, .int (vd_I (n : Int)), .int (vd_I (s : Int)), .int (vd_I (mn : Int)), .int (vd_I (at_ : Int)), .long (vd_J ((vd_sm (vd_Lx T s at_) mn : Nat) : Int)), vd_U, .int (vd_I (mn : Int)), vd_U, vd_U] [] (vd_mf N G) Q := fun d Q => by
        rw [← l171 (d + 14) Q]
        simp (disch := first | assumption | omega) only [vd_S171_0 hN, vd_I_sub, vd_I_mul, eat, vd_J0]
        rfl
      have p24 := fun (d : Nat) Q => vd_P24 hM (f := F) (by rw [← hT]; exact IX) d Q
      rw [← hT] at p24
      have smb : vd_sm (vd_Lx T s at_) mn ≤ mn * 4294967296 := vd_sm_b (fun k => vd_ll_b (fun i => by rw [hT]; exact vd_Tp_b F 11 i) s 0 (by unfold vd_llb; omega)) mn
      have smb2 : vd_sm (vd_Lx T s at_) mn ≤ 34359738368 := by
        have : mn * 4294967296 ≤ 8 * 4294967296 := Nat.mul_le_mul_right _ m8
        omega
      obtain ⟨sm, hsm⟩ : ∃ sm, sm = vd_sm (vd_Lx T s at_) mn := ⟨_, rfl⟩
      rw [← hsm] at e171 p24 smb2
      have e11 : 1 + ((m % 8 : Nat) : Int) = (mn : Int) := by omega
      have F7 : F 11 (n - 1) &&& vd_I 7 = vd_I ((m % 8 : Nat) : Int) := by rw [vd_Tp_7, ← hT, ← hm]
      have eat2 : (n : Int) - ((n - at_ : Nat) : Int) = (at_ : Int) := by omega
      have eC1 : ∀ d Q, vd_wp (d + 11) 22 0 [.ref 10, vd_U, vd_U, vd_U, vd_U, vd_U, vd_U, vd_U] [] (vd_mf M f) Q = if (at_ : Int) < (sm : Int) then vd_wp (d + 11) 22 72 [.ref 10, .int (vd_I (n : Int)), .int (f 10 5), .int (vd_I ((n - at_ : Nat) : Int)), .int (vd_I (mn : Int)), vd_U, vd_U, vd_U] [] (vd_mf M F) Q else vd_wp (d + 11) 22 78 [.ref 10, .int (vd_I (n : Int)), .int (f 10 5), .int (vd_I ((n - at_ : Nat) : Int)), .int (vd_I (mn : Int)), vd_U, vd_U, vd_U] [] (vd_mf M F) Q := fun d Q => by
        have p24' : ∀ Q, vd_wp (d + 10) 24 0 [.ref 10, .int (vd_I (n : Int)), .int (vd_I ((n - at_ : Nat) : Int)), vd_U, vd_U, vd_U, vd_U] [] (vd_mf M F) Q = Q (vd_mf M F) (.inl (some (.long (vd_J (sm : Int))))) := fun Q => p24 (d + 9) Q
        rw [eC0 d Q, hix, ixn]
        simp (disch := omega) only [vd_S22_30 hM, vd_I_toInt, show ¬ (((n - at_ : Nat) : Int) = 0) by omega, if_false, vd_S22_39 hM, vd_I_sub, e1, vd_S22_47 hM, Int.toNat_natCast, F7, vd_I_add, e11, vd_S22_52 hM, show (0 < ((n - at_ : Nat) : Int)) by omega, if_true, vd_S22_58 hM, vd_S22_61 hM, p24', vd_rs_v, vd_S22_64 hM, eat2, vd_J_of, vd_J_cmp]
        by_cases c : (at_ : Int) < (sm : Int)
        · rw [if_pos c, if_pos c, if_pos (by decide)]
        · rw [if_neg c, if_neg c]
          exact if_neg (by split <;> decide)
      by_cases cs : at_ < sm
      · obtain ⟨F2, hF2⟩ : ∃ F2, F2 = vd_up F 10 2 (vd_I 8) := ⟨_, rfl⟩
        obtain ⟨G2, hG2⟩ : ∃ G2, G2 = vd_up G 63 3 (vd_I 8) := ⟨_, rfl⟩
        have kF2 : ∀ c i, ¬ (c = 10 ∧ i = 2) → F2 c i = F c i := fun c i q => by rw [hF2, vd_up_ne q]
        have kG2 : ∀ c i, ¬ (c = 63 ∧ i = 3) → G2 c i = G c i := fun c i q => by rw [hG2, vd_up_ne q]
        have F22 : F2 10 2 = vd_I 8 := by rw [hF2, vd_up_eq]
        refine vd_dcEnd (b := 8) ⟨by decide, by decide⟩ hI hcr kF F1' kG G1' G2' (hI0.num (fun c i q => kF2 c i (by omega)) (fun c i q => kG2 c i (by omega))) ⟨F22, by rw [hG2, vd_up_eq]⟩ (by rw [kF2 10 3 (by omega), kG2 63 4 (by omega), F3', G4']) (kF2 10 1 (by omega)) (vd_Le.ints (fun c i q => kF2 c i (by omega))) ((vd_Lq.ints (fun c i q => kG2 c i (by omega))).mono (by omega) (by omega)) (a7 := vd_U) (y1 := vd_I (n : Int)) (y3 := vd_I ((n - at_ : Nat) : Int)) (y4 := vd_I (mn : Int)) (y5 := vd_I 0) (y6 := vd_I 0) (z2 := vd_I (n : Int)) (z3 := vd_I (m : Int)) (z4 := vd_I (s : Int)) (z5 := vd_I (mn : Int)) (z6 := vd_I ((2 + s * mn : Nat) : Int)) (fun d Q => ?_) (fun d Q => ?_)
        · rw [eC1 d Q, if_pos (by omega)]
          simp (disch := omega) only [vd_S22_72 hM, ← hF2, vd_S22_78 hM]
          rw [vd_S22_84 hM]
          simp (disch := omega) only [vd_I_toInt, show ((0 : Int) < (mn : Int)) by omega, if_true, vd_S22_91 hM, F22, show ¬ ((8 : Int) = 0) by decide, if_false]
        · rw [eR1 d Q, e171 d _]
          simp (disch := omega) only [vd_S171_46 hN, vd_J_of, vd_J_cmp]
          rw [if_pos (show (at_ : Int) < (sm : Int) by omega), if_pos (by decide)]
          simp only [vd_S171_55 hN, ← hG2, vd_rs_n, vd_S170_117 hN]
      · obtain ⟨M', N', ow', fa', lo', lf', f', g', x5, x6, c7, q1, q2, q3, ⟨q4, b, hb, bb⟩, ⟨q5, q5'⟩, q6, q7⟩ := vd_dcLoop (Z := Z) IX (by rw [← hsm]; omega) (f 10 5) (vd_J (sm : Int)) mn 0 M N ow fa lo lf F G vd_U vd_U (by omega) hI0 F2' F3' G3' G4' hT.symm
        refine vd_dcEnd (b := b) bb hI hcr kF F1' kG G1' G2' q3 ⟨by rw [q4.1, hb], hb⟩ q4.2 q5' q6 (q7.mono (by omega) (by omega)) (a7 := c7) (y1 := vd_I (n : Int)) (y3 := vd_I ((n - at_ : Nat) : Int)) (y4 := vd_I (mn : Int)) (y5 := x5) (y6 := x6) (z2 := vd_I (n : Int)) (z3 := vd_I (m : Int)) (z4 := vd_I (s : Int)) (z5 := vd_I (mn : Int)) (z6 := vd_I ((2 + s * mn : Nat) : Int)) (fun d Q => ?_) (fun d Q => ?_)
        · rw [eC1 d Q, if_neg (by omega), vd_S22_78 hM]
          exact q1 d Q
        · rw [eR1 d Q, e171 d _]
          simp (disch := omega) only [vd_S171_46 hN, vd_J_of, vd_J_cmp]
          rw [if_neg (show ¬ ((at_ : Int) < (sm : Int)) by omega)]
          rw [if_neg (by split <;> decide)]
          simp (disch := assumption) only [vd_S171_62 hN]
          have q2' := q2 d (fun M1 r => vd_rs r [] (fun st => vd_wp (d + 16) 170 117 [.ref 63, .int (g 63 21), .int (vd_I (n : Int)), .int (vd_I (m : Int)), .int (vd_I (s : Int)), .int (vd_I (mn : Int)), .int (vd_I ((2 + s * mn : Nat) : Int))] st M1 Q))
          refine Eq.trans q2' ?_
          simp only [vd_rs_n, vd_S170_117 q3.1.2.1]
    · rw [if_neg C] at hix
      obtain ⟨M1, N1, f1, g1, ow1, fa1, lo1, lf1, b, e1', e2', bb, hI1, lc, lq, g3, g4⟩ := vd_frame hI0 (fr := 0) (to := (n : Int)) (by omega) (by omega) (by omega) (vd_I 0)
      have hM1 := hI1.1.1
      have hN1 := hI1.1.2.1
      obtain ⟨F2, hF2⟩ : ∃ F2, F2 = vd_up (vd_up f1 10 2 (vd_I b)) 10 3 (if b = 0 then vd_I (-1) else vd_I 0) := ⟨_, rfl⟩
      have kF2 : ∀ c i, ¬ (c = 10 ∧ (i = 2 ∨ i = 3)) → F2 c i = f1 c i := fun c i q => by rw [hF2, vd_up_ne (by omega), vd_up_ne (by omega)]
      have F22 : F2 10 2 = vd_I b := by rw [hF2, vd_up_ne (by omega), vd_up_eq]
      refine vd_dcEnd (b := b) bb hI hcr kF F1' kG G1' G2' (hI1.num (fun c i q => kF2 c i (by omega)) (fun _ _ _ => rfl)) ⟨F22, ?_⟩ ?_ (by rw [kF2 10 1 (by omega)]; exact lc.1 10 1 (by omega)) (lc.e.trans (vd_Le.ints (fun c i q => kF2 c i (by omega)))) (lq.mono (by omega) (by omega)) (a7 := .int (vd_I (n : Int))) (y1 := vd_I (n : Int)) (y3 := vd_I 0) (y4 := vd_I 1) (y5 := vd_I (n : Int)) (y6 := vd_I 1) (z2 := vd_I (n : Int)) (z3 := vd_I (m : Int)) (z4 := vd_I (s : Int)) (z5 := vd_I (mn : Int)) (z6 := vd_I ((2 + s * mn : Nat) : Int)) (fun d Q => ?_) (fun d Q => ?_)
      · rw [g3]
        by_cases c : b = 0
        · rw [if_pos c, G3', c]
        · rw [if_neg c]
      · rw [hF2, vd_up_eq, g4]
        by_cases c : b = 0
        · rw [if_pos c, if_pos c, G4']
        · rw [if_neg c, if_neg c]
      · have z0 : vd_I ((0 : Nat) : Int) = vd_I 0 := rfl
        rw [eC0 d Q, hix]
        simp (disch := omega) only [vd_S22_30 hM, z0, vd_I_toInt, eq_self, if_true, vd_S22_35 hM, vd_S22_52 hM, show ¬ ((0 : Int) < 0) by decide, if_false, vd_S22_78 hM]
        rw [vd_S22_84 hM]
        simp (disch := omega) only [vd_I_toInt, show ((0 : Int) < 1) by decide, if_true, vd_S22_91 hM, F2', eq_self, vd_S22_98 hM, vd_S22_104 hM, vd_S22_117 hM, vd_I_add, Int.zero_add, show ((0 : Int) < (n : Int)) by omega, vd_S22_127 hM, vd_S22_133 hM, e1', vd_rs_v, vd_S22_136 hM1]
        by_cases c : b = 0
        · rw [if_pos c] at hF2
          simp only [c, eq_self, if_true] at hF2 ⊢
          simp only [vd_S22_147 hM1, vd_S22_153 hM1, ← hF2, vd_S22_156 hM1, vd_I_add, Int.zero_add]
          rw [vd_S22_84 hM1]
          simp (disch := omega) only [vd_I_toInt, show ¬ ((1 : Int) < 1) by decide, if_false]
        · rw [if_neg c] at hF2
          simp only [c, if_false]
          simp only [vd_S22_151 hM1, vd_S22_153 hM1, ← hF2, vd_S22_156 hM1, vd_I_add, Int.zero_add]
          rw [vd_S22_84 hM1]
          simp (disch := omega) only [vd_I_toInt, show ¬ ((1 : Int) < 1) by decide, if_false]
      · have e120 : vd_wp (d + 16) 170 120 [.ref 63, .int (g 63 21), .int (vd_I (n : Int)), .int (vd_I (m : Int)), .int (vd_I (s : Int)), .int (vd_I (mn : Int)), .int (vd_I ((2 + s * mn : Nat) : Int))] [] (vd_mf N G) Q = vd_wp (d + 16) 170 131 [.ref 63, .int (g 63 21), .int (vd_I (n : Int)), .int (vd_I (m : Int)), .int (vd_I (s : Int)), .int (vd_I (mn : Int)), .int (vd_I ((2 + s * mn : Nat) : Int))] [] (vd_mf N1 g1) Q := by
          have e2'' : ∀ Q, vd_wp (d + 15) 173 0 [.ref 63, .int (vd_I 0), .int (vd_I (n : Int)), .int (vd_I 0)] [] (vd_mf N G) Q = Q (vd_mf N1 g1) (.inl none) := fun Q => e2' (d + 1) Q
          simp (disch := omega) only [vd_S170_120 hN, vd_I_toInt, show (0 < (n : Int)) by omega, if_true, vd_S170_124 hN, vd_S170_128 hN, e2'', vd_rs_n]
        rw [eR0 d Q]
        by_cases c1 : m / 32 = 6
        · rw [if_pos c1]
          by_cases c2 : n < 2 + s * mn
          · simp (disch := omega) only [vd_S170_85 hN, vd_I_toInt, show ((n : Int) < ((2 + s * mn : Nat) : Int)) by omega, if_true]
            exact e120
          · have en : (n : Int) - ((2 + s * mn : Nat) : Int) = ((n - (2 + s * mn) : Nat) : Int) := by omega
            have tb2 : T (n - (2 + s * mn)) ≤ 255 := by rw [hT]; exact vd_Tp_b F 11 _
            have gand2 : G 64 (n - (2 + s * mn)) &&& vd_I 255 = vd_I ((T (n - (2 + s * mn)) : Nat) : Int) := by rw [vd_Tp_and, hTg (n - (2 + s * mn)) (by omega)]
            have c3 : T (n - (2 + s * mn)) ≠ m := fun q => C ⟨c1, by omega, q⟩
            simp (disch := omega) only [vd_S170_85 hN, vd_I_toInt, show ¬ ((n : Int) < ((2 + s * mn : Nat) : Int)) by omega, if_false, vd_S170_91 hN, vd_I_sub, en, vd_S170_99 hN, Int.toNat_natCast, gand2, show ¬ (((T (n - (2 + s * mn)) : Nat) : Int) = (m : Int)) by omega]
            exact e120
        · rw [if_neg c1]
          exact e120
end VDDE
