/-! ===== the face: count, fault, end, model ===== -/
section VDA1
variable {M N : vd_M} {ow fa lo lf : Nat} {Z : Nat → Nat → Nat → Nat} {f g : Nat → Nat → Int32}
theorem vd_API.t2 {g' : Nat → Nat → Int32} (h : vd_API M N ow fa lo lf Z f g) (kg : ∀ c i, ¬ (c = 63 ∧ i = 2) → g' c i = g c i) : vd_API M N ow fa lo lf Z f g' := by
  obtain ⟨hI, ⟨n, n1, n2, n3⟩, ⟨e1, e2⟩, hc⟩ := h
  exact ⟨hI.num (fun _ _ _ => rfl) (fun c i q => kg c i (by omega)), ⟨n, n1, n2, by rw [kg 63 1 (by omega), n3]⟩, ⟨by rw [e1, kg 63 3 (by omega)], by rw [e2, kg 63 4 (by omega)]⟩, hc⟩
theorem vd_AP.ro {mc kc mr kr kd1 kd2 a b : Nat} {ac ar : List Value} {g' : Nat → Nat → Int32} {t : Int} {v v' : Int32} (hA : vd_API M N ow fa lo lf Z f g) (c0 : t = 0 → ∀ d Q, vd_wp (d + mc) kc 0 ac [] (vd_mf M f) Q = Q (vd_mf M f) (.inl (some (.int v)))) (c1 : t = 1 → ∀ d Q, vd_wp (d + mc) kc 0 ac [] (vd_mf M f) Q = Q (vd_new (vd_mf M f) kd1 0 6) (.inr (vd_n M))) (c2 : t = 2 → ∀ d Q, vd_wp (d + mc) kc 0 ac [] (vd_mf M f) Q = Q (vd_new (vd_mf M f) kd2 0 6) (.inr (vd_n M))) (r : ∀ d Q, vd_wp (d + mr) kr 0 ar [] (vd_mf N g) Q = Q (vd_mf N g') (.inl (some (.int v')))) (hv : t = 0 → v = v') (ht : t = 0 ∨ (t = 1 ∧ kd1 ≠ 0) ∨ (t = 2 ∧ kd2 ≠ 0)) (g2 : g' 63 2 = vd_I t) (kg : ∀ c i, ¬ (c = 63 ∧ i = 2) → g' c i = g c i) : vd_AP M N Z f g mc kc ac mr kr ar kd1 kd2 a b :=
  ⟨M, N, ow, fa, lo, lf, f, g', t, v, v', c0, c1, c2, r, hv, ht, g2, hA.t2 kg, vd_Le.ints (fun _ _ _ => rfl), (vd_Lz.ints (fun c i q => kg c i (by omega))).mono (Nat.zero_le a) (Nat.zero_le b)⟩
theorem vd_count (hA : vd_API M N ow fa lo lf Z f g) (x : Int32) : vd_AP M N Z f g 1 15 [.ref 10, .int x] 1 285 [.ref 63, .int x] 0 0 0 0 := by
  have hA' := hA
  obtain ⟨hI, ⟨n, n1, n2, n3⟩, _, _⟩ := hA
  have hM := hI.1.1
  have hN := hI.1.2.1
  obtain ⟨⟨c4, c5, c6⟩, ⟨d0, d1, d2, d3⟩⟩ := hI.2.2.2.2.2.1
  obtain ⟨z, hz, z0, z1⟩ := vd_I_of x
  subst hz
  obtain ⟨g', hg⟩ : ∃ g', g' = vd_up g 63 2 (vd_I 0) := ⟨_, rfl⟩
  have kg : ∀ c i, ¬ (c = 63 ∧ i = 2) → g' c i = g c i := fun c i q => by rw [hg, vd_up_ne q]
  have g2 : g' 63 2 = vd_I 0 := by rw [hg, vd_up_eq]
  have go : ∀ (v v' : Int32), v = v' → (∀ d Q, vd_wp (d + 1) 15 0 [.ref 10, .int (vd_I z)] [] (vd_mf M f) Q = Q (vd_mf M f) (.inl (some (.int v)))) → (∀ d Q, vd_wp (d + 1) 285 0 [.ref 63, .int (vd_I z)] [] (vd_mf N g) Q = Q (vd_mf N g') (.inl (some (.int v')))) → vd_AP M N Z f g 1 15 [.ref 10, .int (vd_I z)] 1 285 [.ref 63, .int (vd_I z)] 0 0 0 0 := fun v v' e p q => vd_AP.ro hA' (fun _ => p) (fun h => absurd h (by decide)) (fun h => absurd h (by decide)) q (fun _ => e) (Or.inl rfl) g2 kg
  by_cases c : 0 ≤ z ∧ z ≤ 7
  · have : z = 0 ∨ z = 1 ∨ z = 2 ∨ z = 3 ∨ z = 4 ∨ z = 5 ∨ z = 6 ∨ z = 7 := by omega
    have t0 : (0 : Int).toNat = 0 := rfl
    have t1 : (1 : Int).toNat = 1 := rfl
    have t2 : (2 : Int).toNat = 2 := rfl
    have t3 : (3 : Int).toNat = 3 := rfl
    have t4 : (4 : Int).toNat = 4 := rfl
    have u : ∀ c i, c ≠ 63 → vd_up g 63 2 (vd_I 0) c i = g c i := fun c i q => vd_up_ne (by omega)
    rcases this with rfl | rfl | rfl | rfl | rfl | rfl | rfl | rfl
    · refine go (f 10 1) (g' 63 1) (by rw [kg 63 1 (by omega), n2, n3]) (fun d Q => ?_) (fun d Q => ?_)
      · simp only [vd_S15_0 hM, vd_S15_1 hM, show vd_tsw 1 102 0 7 #[47, 52, 57, 62, 70, 78, 89, 97] (vd_I 0) = 48 by decide, vd_S15_48 hM]
      · simp (disch := omega) only [vd_S285_0 hN, ← hg, vd_I_toInt, eq_self, if_true, vd_S285_9 hN]
    · refine go (f 10 4) (g' 63 20) (by rw [kg 63 20 (by omega), c4]) (fun d Q => ?_) (fun d Q => ?_)
      · simp only [vd_S15_0 hM, vd_S15_1 hM, show vd_tsw 1 102 0 7 #[47, 52, 57, 62, 70, 78, 89, 97] (vd_I 1) = 53 by decide, vd_S15_53 hM]
      · simp (disch := omega) only [vd_S285_0 hN, ← hg, vd_I_toInt, eq_self, if_true, show ¬ ((1 : Int) = 0) by decide, if_false, vd_S285_14 hN, vd_S285_19 hN]
    · refine go (f 10 5) (g' 63 21) (by rw [kg 63 21 (by omega), c5]) (fun d Q => ?_) (fun d Q => ?_)
      · simp only [vd_S15_0 hM, vd_S15_1 hM, show vd_tsw 1 102 0 7 #[47, 52, 57, 62, 70, 78, 89, 97] (vd_I 2) = 58 by decide, vd_S15_58 hM]
      · simp (disch := omega) only [vd_S285_0 hN, ← hg, vd_I_toInt, eq_self, if_true, show ¬ ((2 : Int) = 0) by decide, show ¬ ((2 : Int) = 1) by decide, if_false, vd_S285_14 hN, vd_S285_24 hN, vd_S285_29 hN]
    · refine go (f 37 4) (g' 79 0) (by rw [kg 79 0 (by omega), d0]) (fun d Q => ?_) (fun d Q => ?_)
      · simp only [vd_S15_0 hM, vd_S15_1 hM, show vd_tsw 1 102 0 7 #[47, 52, 57, 62, 70, 78, 89, 97] (vd_I 3) = 63 by decide, vd_S15_63 hM]
      · simp (disch := omega) only [vd_S285_0 hN, ← hg, vd_I_toInt, show ¬ ((3 : Int) = 0) by decide, show ¬ ((3 : Int) = 1) by decide, show ¬ ((3 : Int) = 2) by decide, show ((2 : Int) < 3) by decide, show ((3 : Int) < 8) by decide, if_true, if_false, vd_S285_14 hN, vd_S285_24 hN, vd_S285_34 hN, vd_S285_39 hN, vd_S285_45 hN, vd_I_sub, show (3 : Int) - 3 = 0 by decide, vd_S285_52 hN, t0, vd_S285_57 hN]
    · refine go (f 34 3) (g' 79 1) (by rw [kg 79 1 (by omega), d1]) (fun d Q => ?_) (fun d Q => ?_)
      · simp only [vd_S15_0 hM, vd_S15_1 hM, show vd_tsw 1 102 0 7 #[47, 52, 57, 62, 70, 78, 89, 97] (vd_I 4) = 71 by decide, vd_S15_71 hM]
      · simp (disch := omega) only [vd_S285_0 hN, ← hg, vd_I_toInt, show ¬ ((4 : Int) = 0) by decide, show ¬ ((4 : Int) = 1) by decide, show ¬ ((4 : Int) = 2) by decide, show ((2 : Int) < 4) by decide, show ((4 : Int) < 8) by decide, if_true, if_false, vd_S285_14 hN, vd_S285_24 hN, vd_S285_34 hN, vd_S285_39 hN, vd_S285_45 hN, vd_I_sub, show (4 : Int) - 3 = 1 by decide, vd_S285_52 hN, t1, vd_S285_57 hN]
    · refine go (f 45 3) (g' 79 2) (by rw [kg 79 2 (by omega), d2]) (fun d Q => ?_) (fun d Q => ?_)
      · simp only [vd_S15_0 hM, vd_S15_1 hM, show vd_tsw 1 102 0 7 #[47, 52, 57, 62, 70, 78, 89, 97] (vd_I 5) = 79 by decide, vd_S15_79 hM]
      · simp (disch := omega) only [vd_S285_0 hN, ← hg, vd_I_toInt, show ¬ ((5 : Int) = 0) by decide, show ¬ ((5 : Int) = 1) by decide, show ¬ ((5 : Int) = 2) by decide, show ((2 : Int) < 5) by decide, show ((5 : Int) < 8) by decide, if_true, if_false, vd_S285_14 hN, vd_S285_24 hN, vd_S285_34 hN, vd_S285_39 hN, vd_S285_45 hN, vd_I_sub, show (5 : Int) - 3 = 2 by decide, vd_S285_52 hN, t2, vd_S285_57 hN]
    · refine go (f 60 2) (g' 79 3) (by rw [kg 79 3 (by omega), d3]) (fun d Q => ?_) (fun d Q => ?_)
      · simp only [vd_S15_0 hM, vd_S15_1 hM, show vd_tsw 1 102 0 7 #[47, 52, 57, 62, 70, 78, 89, 97] (vd_I 6) = 90 by decide, vd_S15_90 hM]
      · simp (disch := omega) only [vd_S285_0 hN, ← hg, vd_I_toInt, show ¬ ((6 : Int) = 0) by decide, show ¬ ((6 : Int) = 1) by decide, show ¬ ((6 : Int) = 2) by decide, show ((2 : Int) < 6) by decide, show ((6 : Int) < 8) by decide, if_true, if_false, vd_S285_14 hN, vd_S285_24 hN, vd_S285_34 hN, vd_S285_39 hN, vd_S285_45 hN, vd_I_sub, show (6 : Int) - 3 = 3 by decide, vd_S285_52 hN, t3, vd_S285_57 hN]
    · refine go (f 10 6) (g' 79 4) (by rw [kg 79 4 (by omega), c6]) (fun d Q => ?_) (fun d Q => ?_)
      · simp only [vd_S15_0 hM, vd_S15_1 hM, show vd_tsw 1 102 0 7 #[47, 52, 57, 62, 70, 78, 89, 97] (vd_I 7) = 98 by decide, vd_S15_98 hM]
      · simp (disch := omega) only [vd_S285_0 hN, ← hg, vd_I_toInt, show ¬ ((7 : Int) = 0) by decide, show ¬ ((7 : Int) = 1) by decide, show ¬ ((7 : Int) = 2) by decide, show ((2 : Int) < 7) by decide, show ((7 : Int) < 8) by decide, if_true, if_false, vd_S285_14 hN, vd_S285_24 hN, vd_S285_34 hN, vd_S285_39 hN, vd_S285_45 hN, vd_I_sub, show (7 : Int) - 3 = 4 by decide, vd_S285_52 hN, t4, vd_S285_57 hN]
  · refine go (vd_I (-1)) (vd_I (-1)) rfl (fun d Q => ?_) (fun d Q => ?_)
    · have e : vd_tsw 1 102 0 7 #[47, 52, 57, 62, 70, 78, 89, 97] (vd_I z) = 103 := by
        unfold vd_tsw
        rw [vd_I_toInt z0 z1, if_pos (by omega)]
        rfl
      simp only [vd_S15_0 hM, vd_S15_1 hM, e, vd_S15_103 hM]
    · by_cases c2 : 2 < z
      · simp (disch := omega) only [vd_S285_0 hN, ← hg, vd_I_toInt, show ¬ (z = 0) by omega, show ¬ (z = 1) by omega, show ¬ (z = 2) by omega, c2, show ¬ (z < 8) by omega, if_true, if_false, vd_S285_14 hN, vd_S285_24 hN, vd_S285_34 hN, vd_S285_39 hN, vd_S285_56 hN, vd_S285_57 hN]
      · simp (disch := omega) only [vd_S285_0 hN, ← hg, vd_I_toInt, show ¬ (z = 0) by omega, show ¬ (z = 1) by omega, show ¬ (z = 2) by omega, c2, if_false, vd_S285_14 hN, vd_S285_24 hN, vd_S285_34 hN, vd_S285_56 hN, vd_S285_57 hN]
theorem vd_fault (hA : vd_API M N ow fa lo lf Z f g) (x : Int32) : vd_AP M N Z f g 1 151 [.ref 10, .int x] 1 284 [.ref 63, .int x] 15 0 0 0 := by
  have hA' := hA
  obtain ⟨hI, _, ⟨e3, e4⟩, _⟩ := hA
  have hM := hI.1.1
  have hN := hI.1.2.1
  obtain ⟨z, hz, z0, z1⟩ := vd_I_of x
  subst hz
  obtain ⟨g', hg⟩ : ∃ g', g' = vd_up g 63 2 (vd_I 0) := ⟨_, rfl⟩
  have kg : ∀ c i, ¬ (c = 63 ∧ i = 2) → g' c i = g c i := fun c i q => by rw [hg, vd_up_ne q]
  have g2 : g' 63 2 = vd_I 0 := by rw [hg, vd_up_eq]
  have p0 := fun (d : Nat) Q => vd_P168 hN (g := g') (vd_I 1) (b := 0) (Or.inl rfl) d Q
  have p1 := fun (d : Nat) Q => vd_P168 hN (g := g') (vd_I 1) (b := 1) (Or.inr rfl) d Q
  by_cases c : z < 0 ∨ 1 < z
  · refine vd_AP.ro hA' (t := 1) (v := 0) (v' := vd_I 0) (g' := vd_up g' 63 2 (vd_I 1)) (fun h => absurd h (by decide)) (fun _ d Q => ?_) (fun h => absurd h (by decide)) (fun d Q => ?_) (fun h => absurd h (by decide)) (Or.inr (Or.inl ⟨rfl, by decide⟩)) (by rw [vd_up_eq]) (fun c i q => by rw [vd_up_ne q, kg c i q])
    · by_cases c2 : z < 0
      · simp (disch := omega) only [vd_S151_0 hM, vd_I_toInt, c2, if_true, vd_S151_9 hM]
      · simp (disch := omega) only [vd_S151_0 hM, vd_I_toInt, c2, if_false, vd_S151_4 hM, show (1 < z) by omega, if_true, vd_S151_9 hM]
    · have e : vd_wp (d + 1) 284 16 [.ref 63, .int (vd_I z)] [.int (vd_I 1), .ref 63] (vd_mf N g') Q = Q (vd_mf N (vd_up g' 63 2 (vd_I 1))) (.inl (some (.int (vd_I 0)))) := by
        simp (disch := omega) only [vd_S284_16 hN, vd_S284_21 hN, p1, show ¬ ((1 : Int) = 0) by decide, if_false, vd_rs_v, vd_S284_24 hN, vd_I_toInt, vd_S284_27 hN]
      by_cases c2 : z < 0
      · simp (disch := omega) only [vd_S284_0 hN, ← hg, vd_I_toInt, c2, if_true]
        exact e
      · simp (disch := omega) only [vd_S284_0 hN, ← hg, vd_I_toInt, c2, if_false, vd_S284_11 hN, show (1 < z) by omega, if_true]
        exact e
  · have eR : ∀ d Q, vd_wp (d + 1) 284 0 [.ref 63, .int (vd_I z)] [] (vd_mf N g) Q = vd_wp (d + 1) 284 29 [.ref 63, .int (vd_I z)] [] (vd_mf N g') Q := fun d Q => by
      simp (disch := omega) only [vd_S284_0 hN, ← hg, vd_I_toInt, show ¬ (z < 0) by omega, if_false, vd_S284_11 hN, show ¬ (1 < z) by omega, vd_S284_20 hN, vd_S284_21 hN, p0, eq_self, if_true, vd_rs_v, vd_S284_24 hN]
    have eC : ∀ d Q, vd_wp (d + 1) 151 0 [.ref 10, .int (vd_I z)] [] (vd_mf M f) Q = vd_wp (d + 1) 151 17 [.ref 10, .int (vd_I z)] [] (vd_mf M f) Q := fun d Q => by
      simp (disch := omega) only [vd_S151_0 hM, vd_I_toInt, show ¬ (z < 0) by omega, if_false, vd_S151_4 hM, show ¬ (1 < z) by omega]
    by_cases c3 : z = 0
    · subst c3
      refine vd_AP.ro hA' (t := 0) (v := f 10 2) (v' := g' 63 3) (g' := g') (fun _ d Q => ?_) (fun h => absurd h (by decide)) (fun h => absurd h (by decide)) (fun d Q => ?_) (fun _ => by rw [e3, kg 63 3 (by omega)]) (Or.inl rfl) g2 kg
      · rw [eC d Q]
        simp (disch := omega) only [vd_S151_17 hM, vd_I_toInt, eq_self, if_true, vd_S151_21 hM, vd_S151_32 hM]
      · rw [eR d Q]
        simp (disch := omega) only [vd_S284_29 hN, vd_I_toInt, eq_self, if_true, vd_S284_33 hN, vd_S284_44 hN]
    · refine vd_AP.ro hA' (t := 0) (v := f 10 3) (v' := g' 63 4) (g' := g') (fun _ d Q => ?_) (fun h => absurd h (by decide)) (fun h => absurd h (by decide)) (fun d Q => ?_) (fun _ => by rw [e4, kg 63 4 (by omega)]) (Or.inl rfl) g2 kg
      · rw [eC d Q]
        simp (disch := omega) only [vd_S151_17 hM, vd_I_toInt, c3, if_false, vd_S151_28 hM, vd_S151_32 hM]
      · rw [eR d Q]
        simp (disch := omega) only [vd_S284_29 hN, vd_I_toInt, c3, if_false, vd_S284_40 hN, vd_S284_44 hN]
theorem vd_end (hA : vd_API M N ow fa lo lf Z f g) (x : Int32) : vd_AP M N Z f g 1 20 [.ref 10, .int x] 1 169 [.ref 63, .int x] 15 0 0 0 := by
  have hA' := hA
  obtain ⟨hI, ⟨n, n1, n2, n3⟩, ⟨e3, e4⟩, hcr⟩ := hA
  have hM := hI.1.1
  have hN := hI.1.2.1
  obtain ⟨z, hz, z0, z1⟩ := vd_I_of x
  subst hz
  obtain ⟨g', hg⟩ : ∃ g', g' = vd_up g 63 2 (vd_I 0) := ⟨_, rfl⟩
  have kg : ∀ c i, ¬ (c = 63 ∧ i = 2) → g' c i = g c i := fun c i q => by rw [hg, vd_up_ne q]
  have g2 : g' 63 2 = vd_I 0 := by rw [hg, vd_up_eq]
  have n3' : g' 63 1 = vd_I (n : Int) := by rw [kg 63 1 (by omega), n3]
  have p0 := fun (d : Nat) Q => vd_P168 hN (g := g') (vd_I 1) (b := 0) (Or.inl rfl) d Q
  have p1 := fun (d : Nat) Q => vd_P168 hN (g := g') (vd_I 1) (b := 1) (Or.inr rfl) d Q
  by_cases c : z < 0 ∨ (n : Int) < z
  · refine vd_AP.ro hA' (t := 1) (v := 0) (v' := vd_I 0) (g' := vd_up g' 63 2 (vd_I 1)) (fun h => absurd h (by decide)) (fun _ d Q => ?_) (fun h => absurd h (by decide)) (fun d Q => ?_) (fun h => absurd h (by decide)) (Or.inr (Or.inl ⟨rfl, by decide⟩)) (by rw [vd_up_eq]) (fun c i q => by rw [vd_up_ne q, kg c i q])
    · by_cases c2 : z < 0
      · simp (disch := omega) only [vd_S20_0 hM, vd_I_toInt, c2, if_true, vd_S20_12 hM]
      · simp (disch := omega) only [vd_S20_0 hM, vd_I_toInt, c2, if_false, vd_S20_4 hM, n2, show ((n : Int) < z) by omega, if_true, vd_S20_12 hM]
    · have e : vd_wp (d + 1) 169 19 [.ref 63, .int (vd_I z)] [.int (vd_I 1), .ref 63] (vd_mf N g') Q = Q (vd_mf N (vd_up g' 63 2 (vd_I 1))) (.inl (some (.int (vd_I 0)))) := by
        simp (disch := omega) only [vd_S169_19 hN, vd_S169_24 hN, p1, show ¬ ((1 : Int) = 0) by decide, if_false, vd_rs_v, vd_S169_27 hN, vd_I_toInt, vd_S169_30 hN]
      by_cases c2 : z < 0
      · simp (disch := omega) only [vd_S169_0 hN, ← hg, vd_I_toInt, c2, if_true]
        exact e
      · simp (disch := omega) only [vd_S169_0 hN, ← hg, vd_I_toInt, c2, if_false, vd_S169_11 hN, n3', show ((n : Int) < z) by omega, if_true]
        exact e
  · have kk : ∀ c i, ¬ (c = 63 ∧ (i = 1 ∨ i = 2)) → vd_up g' 63 1 (vd_I z) c i = g c i := fun c i q => by rw [vd_up_ne (by omega), kg c i (by omega)]
    refine ⟨M, N, ow, fa, lo, lf, vd_up f 10 1 (vd_I z), vd_up g' 63 1 (vd_I z), 0, vd_I z, vd_I z, fun _ d Q => ?_, fun h => absurd h (by decide), fun h => absurd h (by decide), fun d Q => ?_, fun _ => rfl, Or.inl rfl, by rw [vd_up_ne (by omega), g2], ⟨hI.num (fun c i q => vd_up_ne (by omega)) (fun c i q => kk c i (by omega)), ⟨z.toNat, by omega, by rw [vd_up_eq]; congr 1; omega, by rw [vd_up_eq]; congr 1; omega⟩, ⟨by rw [vd_up_ne (by omega), e3, kk 63 3 (by omega)], by rw [vd_up_ne (by omega), e4, kk 63 4 (by omega)]⟩, fun k hk => by rw [vd_up_ne (by omega)]; exact hcr k hk⟩, vd_Le.ints (fun c i q => vd_up_ne (by omega)), vd_Lz.ints (fun c i q => kk c i (by omega))⟩
    · simp (disch := omega) only [vd_S20_0 hM, vd_I_toInt, show ¬ (z < 0) by omega, if_false, vd_S20_4 hM, n2, show ¬ ((n : Int) < z) by omega, vd_S20_20 hM]
    · simp (disch := omega) only [vd_S169_0 hN, ← hg, vd_I_toInt, show ¬ (z < 0) by omega, if_false, vd_S169_11 hN, n3', show ¬ ((n : Int) < z) by omega, vd_S169_23 hN, vd_S169_24 hN, p0, eq_self, if_true, vd_rs_v, vd_S169_27 hN, vd_S169_32 hN]
theorem vd_model (hA : vd_API M N ow fa lo lf Z f g) (x y : Int32) : vd_AP M N Z f g 1 160 [.ref 10, .int x, .int y] 1 282 [.ref 63, .int x, .int y] 18 0 0 0 := by
  have hA' := hA
  obtain ⟨hI, _, _, _⟩ := hA
  have hM := hI.1.1
  have hN := hI.1.2.1
  have hC := hI.2.1.2.1
  obtain ⟨z, hz, z0, z1⟩ := vd_I_of x
  obtain ⟨k, hk, k0, k1⟩ := vd_I_of y
  subst hz hk
  obtain ⟨g', hg⟩ : ∃ g', g' = vd_up g 63 2 (vd_I 0) := ⟨_, rfl⟩
  have kg : ∀ c i, ¬ (c = 63 ∧ i = 2) → g' c i = g c i := fun c i q => by rw [hg, vd_up_ne q]
  have g2 : g' 63 2 = vd_I 0 := by rw [hg, vd_up_eq]
  have p0 := fun (d : Nat) Q => vd_P168 hN (g := g') (vd_I 1) (b := 0) (Or.inl rfl) d Q
  have p1 := fun (d : Nat) Q => vd_P168 hN (g := g') (vd_I 1) (b := 1) (Or.inr rfl) d Q
  by_cases c : 0 ≤ z ∧ z < 4 ∧ 0 ≤ k ∧ k < 2941
  · obtain ⟨v, _, v1, v2⟩ := hC z.toNat k.toNat (by omega) (by omega)
    obtain ⟨q1, q2, q3⟩ := vd_ctx68 hN (c := z.toNat) (by omega)
    have ez : (z * 2941 + k).toNat = 2941 * z.toNat + k.toNat := by omega
    refine vd_AP.ro hA' (t := 0) (v := f 14 (2941 * z.toNat + k.toNat)) (v' := g' (68 + z.toNat) k.toNat) (g' := g') (fun _ d Q => ?_) (fun h => absurd h (by decide)) (fun h => absurd h (by decide)) (fun d Q => ?_) (fun _ => by rw [v1, kg _ _ (by omega), v2]) (Or.inl rfl) g2 kg
    · simp (disch := omega) only [vd_S160_0 hM, vd_I_toInt, show ¬ (z < 0) by omega, if_false, vd_S160_4 hM, show (z < 4) by omega, if_true, vd_S160_9 hM, show ¬ (k < 0) by omega, vd_S160_13 hM, show (k < 2941) by omega, vd_S160_28 hM, vd_I_mul, vd_I_add, vd_S160_39 hM, ez]
    · have l : k < (vd_l N (68 + z.toNat) : Int) := by rw [q3]; omega
      simp (disch := first | assumption | omega) only [vd_S282_0 hN, ← hg, vd_I_toInt, show ¬ (z < 0) by omega, if_false, vd_S282_11 hN, show ¬ (3 < z) by omega, vd_S282_16 hN, show ¬ (k < 0) by omega, vd_S282_20 hN, show (k < 2941) by omega, if_true, vd_S282_31 hN, vd_S282_32 hN, p0, eq_self, vd_rs_v, vd_S282_35 hN, vd_S282_40 hN, vd_S282_45 hN, q1, vd_vr_some, vd_S282_47 hN]
  · refine vd_AP.ro hA' (t := 1) (v := 0) (v' := vd_I 0) (g' := vd_up g' 63 2 (vd_I 1)) (fun h => absurd h (by decide)) (fun _ d Q => ?_) (fun h => absurd h (by decide)) (fun d Q => ?_) (fun h => absurd h (by decide)) (Or.inr (Or.inl ⟨rfl, by decide⟩)) (by rw [vd_up_eq]) (fun c i q => by rw [vd_up_ne q, kg c i q])
    · simp (disch := omega) only [vd_S160_0 hM, vd_I_toInt, vd_S160_4 hM, vd_S160_9 hM, vd_S160_13 hM, vd_S160_20 hM]
      repeat' split
      all_goals first
        | rfl
        | (exfalso; omega)
    · have e : vd_wp (d + 1) 282 27 [.ref 63, .int (vd_I z), .int (vd_I k)] [.int (vd_I 1), .ref 63] (vd_mf N g') Q = Q (vd_mf N (vd_up g' 63 2 (vd_I 1))) (.inl (some (.int (vd_I 0)))) := by
        simp (disch := omega) only [vd_S282_27 hN, vd_S282_32 hN, p1, show ¬ ((1 : Int) = 0) by decide, if_false, vd_rs_v, vd_S282_35 hN, vd_I_toInt, vd_S282_38 hN]
      simp (disch := omega) only [vd_S282_0 hN, ← hg, vd_I_toInt, vd_S282_11 hN, vd_S282_16 hN, vd_S282_20 hN, e]
      repeat' split
      all_goals first
        | rfl
        | (exfalso; omega)
end VDA1
