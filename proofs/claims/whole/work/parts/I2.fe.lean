/-! ===== the face: feed ===== -/
theorem vd_sg8 (x : Int32) {k : Nat} (hk : k ≤ 24) : (x.toBitVec.sshiftRight k).signExtend 8 = (x.toBitVec >>> k).signExtend 8 := by
  apply BitVec.eq_of_getLsbD_eq
  intro i hi
  rw [BitVec.getLsbD_signExtend, BitVec.getLsbD_signExtend, if_pos (by omega), if_pos (by omega), BitVec.getLsbD_sshiftRight, BitVec.getLsbD_ushiftRight, if_pos (by omega)]
  simp only [decide_eq_false (show ¬ (32 ≤ i) by omega), Bool.not_false, Bool.true_and]
/-- byte j of a number -/
def vd_fby (x : Int32) (j : Nat) : Int32 := ((x >>> (vd_I (24 - 8 * (j : Int)) &&& 31)).toInt8.toInt32).toInt8.toInt32
theorem vd_fby_u (x : Int32) {j : Nat} (hj : j < 4) : (((x.toUInt32 >>> ((vd_I (24 - 8 * (j : Int))).toUInt32 &&& Int32.toUInt32 31)).toInt32).toInt8.toInt32).toInt8.toInt32 = vd_fby x j := by
  have key : ((x.toUInt32 >>> ((vd_I (24 - 8 * (j : Int))).toUInt32 &&& Int32.toUInt32 31)).toInt32).toInt8 = (x >>> (vd_I (24 - 8 * (j : Int)) &&& 31)).toInt8 := by
    apply Int8.toBitVec.inj
    have : j = 0 ∨ j = 1 ∨ j = 2 ∨ j = 3 := by omega
    rcases this with rfl | rfl | rfl | rfl
    · exact (vd_sg8 x (k := 24) (by omega)).symm
    · exact (vd_sg8 x (k := 16) (by omega)).symm
    · exact (vd_sg8 x (k := 8) (by omega)).symm
    · exact (vd_sg8 x (k := 0) (by omega)).symm
  unfold vd_fby
  rw [key]
section VDFE
variable {M N : vd_M} {ow fa lo lf : Nat} {Z : Nat → Nat → Nat → Nat} {f g : Nat → Nat → Int32}
theorem vd_L18 (hM : vd_SC M ow fa lo lf) (x : Int32) {n : Nat} (hn : n + 4 ≤ 65536) (m : Nat) : ∀ (j : Nat) (f : Nat → Nat → Int32), j + m = 4 → f 10 1 = vd_I ((n + j : Nat) : Int) → ∃ f' : Nat → Nat → Int32, (∀ d Q, vd_wp d 18 3 [.ref 10, .int x, .int (vd_I (24 - 8 * (j : Int)))] [] (vd_mf M f) Q = Q (vd_mf M f') (.inl none)) ∧ f' 10 1 = vd_I ((n + 4 : Nat) : Int) ∧ (∀ i, j ≤ i → i < 4 → f' 11 (n + i) = vd_fby x i) ∧ (∀ c i, ¬ (c = 10 ∧ i = 1) → ¬ (c = 11 ∧ n + j ≤ i ∧ i < n + 4) → f' c i = f c i) := by
  induction m with
  | zero =>
    intro j f h h1
    have hj : j = 4 := by omega
    subst hj
    refine ⟨f, fun d Q => ?_, h1, fun i h1 h2 => by omega, fun _ _ _ _ => rfl⟩
    rw [vd_S18_3 hM, if_pos (by decide), vd_S18_36 hM]
  | succ m ih =>
    intro j f h h1
    have e8 : (24 - 8 * (j : Int)) + -8 = 24 - 8 * ((j + 1 : Nat) : Int) := by omega
    have e1 : ((n + j : Nat) : Int) + 1 = ((n + (j + 1) : Nat) : Int) := by omega
    obtain ⟨f1, hf1⟩ : ∃ f1, f1 = vd_up (vd_up f 11 (n + j) (vd_fby x j)) 10 1 (vd_I ((n + (j + 1) : Nat) : Int)) := ⟨_, rfl⟩
    have k1 : f1 10 1 = vd_I ((n + (j + 1) : Nat) : Int) := by rw [hf1, vd_up_eq]
    have k2 : f1 11 (n + j) = vd_fby x j := by rw [hf1, vd_up_ne (by omega), vd_up_eq]
    have k3 : ∀ c i, ¬ (c = 10 ∧ i = 1) → ¬ (c = 11 ∧ i = n + j) → f1 c i = f c i := fun c i q1 q2 => by rw [hf1, vd_up_ne q1, vd_up_ne q2]
    obtain ⟨f', a1, a2, a3, a4⟩ := ih (j + 1) f1 (by omega) k1
    refine ⟨f', fun d Q => ?_, a2, fun i q1 q2 => ?_, fun c i q1 q2 => by rw [a4 c i q1 (by omega), k3 c i q1 (by omega)]⟩
    · rw [← a1 d Q, vd_S18_3 hM, if_neg (by rw [vd_I_toInt (by omega) (by omega)]; omega), vd_S18_7 hM, h1]
      simp (disch := omega) only [vd_S18_19 hM, Int.toNat_natCast, h1, vd_I_add, e1, e8]
      rw [hf1]
      rfl
    · by_cases c : i = j
      · subst c
        rw [a4 11 (n + i) (by omega) (by omega), k2]
      · exact a3 i (by omega) q2
theorem vd_P18 (hM : vd_SC M ow fa lo lf) (x : Int32) {n : Nat} (hn : n + 4 ≤ 65536) (h1 : f 10 1 = vd_I ((n : Nat) : Int)) : ∃ f' : Nat → Nat → Int32, (∀ d Q, vd_wp d 18 0 [.ref 10, .int x, vd_U] [] (vd_mf M f) Q = Q (vd_mf M f') (.inl none)) ∧ f' 10 1 = vd_I ((n + 4 : Nat) : Int) ∧ (∀ i, i < 4 → f' 11 (n + i) = vd_fby x i) ∧ (∀ c i, ¬ (c = 10 ∧ i = 1) → ¬ (c = 11 ∧ n ≤ i ∧ i < n + 4) → f' c i = f c i) := by
  obtain ⟨f', a1, a2, a3, a4⟩ := vd_L18 hM x hn 4 0 f (by omega) h1
  exact ⟨f', fun d Q => by rw [vd_S18_0 hM]; exact a1 d Q, a2, fun i hi => a3 i (by omega) hi, a4⟩
def vd_fdv (x1 x2 x3 x4 x5 : Int32) (j : Nat) : Int32 := if j = 0 then x1 else if j = 1 then x2 else if j = 2 then x3 else if j = 3 then x4 else x5
theorem vd_P17 (hM : vd_SC M ow fa lo lf) (x1 x2 x3 x4 x5 : Int32) {n : Nat} (hn : n + 20 ≤ 65536) (h1 : f 10 1 = vd_I ((n : Nat) : Int)) : ∃ f' : Nat → Nat → Int32, (∀ d Q, vd_wp (d + 1) 17 0 [.ref 10, .int x1, .int x2, .int x3, .int x4, .int x5] [] (vd_mf M f) Q = Q (vd_mf M f') (.inl (some (.int (vd_I ((n + 20 : Nat) : Int)))))) ∧ f' 10 1 = vd_I ((n + 20 : Nat) : Int) ∧ (∀ i, i < 20 → f' 11 (n + i) = vd_fby (vd_fdv x1 x2 x3 x4 x5 (i / 4)) (i % 4)) ∧ (∀ c i, ¬ (c = 10 ∧ i = 1) → ¬ (c = 11 ∧ n ≤ i ∧ i < n + 20) → f' c i = f c i) := by
  obtain ⟨f1, a1, b1, c1, d1⟩ := vd_P18 hM x1 (n := n) (by omega) h1
  obtain ⟨f2, a2, b2, c2, d2⟩ := vd_P18 hM x2 (n := n + 4) (by omega) b1
  obtain ⟨f3, a3, b3, c3, d3⟩ := vd_P18 hM x3 (n := n + 4 + 4) (by omega) b2
  obtain ⟨f4, a4, b4, c4, d4⟩ := vd_P18 hM x4 (n := n + 4 + 4 + 4) (by omega) b3
  obtain ⟨f5, a5, b5, c5, d5⟩ := vd_P18 hM x5 (n := n + 4 + 4 + 4 + 4) (by omega) b4
  have en : n + 4 + 4 + 4 + 4 + 4 = n + 20 := by omega
  rw [en] at b5
  refine ⟨f5, fun d Q => ?_, b5, fun i hi => ?_, fun c i q1 q2 => by rw [d5 c i q1 (by omega), d4 c i q1 (by omega), d3 c i q1 (by omega), d2 c i q1 (by omega), d1 c i q1 (by omega)]⟩
  · have e : ((n : Nat) : Int) + 20 = ((n + 20 : Nat) : Int) := by omega
    have l : ¬ (65536 < ((n + 20 : Nat) : Int)) := by omega
    simp (disch := omega) only [vd_S17_0 hM, h1, vd_I_add, e, vd_I_toInt, l, if_false, vd_S17_20 hM, vd_S17_22 hM, a1, vd_rs_n, vd_S17_25 hM, vd_S17_27 hM, a2, vd_S17_30 hM, vd_S17_32 hM, a3, vd_S17_35 hM, vd_S17_38 hM, a4, vd_S17_41 hM, vd_S17_44 hM, a5, vd_S17_47 hM, b5]
  · by_cases q1 : i < 4
    · have e1 : i / 4 = 0 := by omega
      have e2 : i % 4 = i := by omega
      rw [d5 11 (n + i) (by omega) (by omega), d4 11 (n + i) (by omega) (by omega), d3 11 (n + i) (by omega) (by omega), d2 11 (n + i) (by omega) (by omega), c1 i q1, e1, e2]
      rfl
    by_cases q2 : i < 8
    · have e1 : i / 4 = 1 := by omega
      have e2 : i % 4 = i - 4 := by omega
      have e3 : n + i = n + 4 + (i - 4) := by omega
      rw [d5 11 (n + i) (by omega) (by omega), d4 11 (n + i) (by omega) (by omega), d3 11 (n + i) (by omega) (by omega), e3, c2 (i - 4) (by omega), e1, e2]
      rfl
    by_cases q3 : i < 12
    · have e1 : i / 4 = 2 := by omega
      have e2 : i % 4 = i - 8 := by omega
      have e3 : n + i = n + 4 + 4 + (i - 8) := by omega
      rw [d5 11 (n + i) (by omega) (by omega), d4 11 (n + i) (by omega) (by omega), e3, c3 (i - 8) (by omega), e1, e2]
      rfl
    by_cases q4 : i < 16
    · have e1 : i / 4 = 3 := by omega
      have e2 : i % 4 = i - 12 := by omega
      have e3 : n + i = n + 4 + 4 + 4 + (i - 12) := by omega
      rw [d5 11 (n + i) (by omega) (by omega), e3, c4 (i - 12) (by omega), e1, e2]
      rfl
    · have e1 : i / 4 = 4 := by omega
      have e2 : i % 4 = i - 16 := by omega
      have e3 : n + i = n + 4 + 4 + 4 + 4 + (i - 16) := by omega
      rw [e3, c5 (i - 16) (by omega), e1, e2]
      rfl
theorem vd_L167 (hN : vd_SR N) (x1 x2 x3 x4 x5 : Int32) {o n : Nat} (hn : n + 20 ≤ 65536) (ko : vd_k N o = 32) (l_o : vd_l N o = 5) (o64 : 197 ≤ o) {X : Nat → Int32} (m : Nat) : ∀ (j : Nat) (g : Nat → Nat → Int32), j + m = 20 → (∀ k, k < 5 → g o k = X k) → g 63 1 = vd_I ((n + j : Nat) : Int) → ∃ g' : Nat → Nat → Int32, (∀ d Q, vd_wp d 167 60 [.ref 63, .int x1, .int x2, .int x3, .int x4, .int x5, .ref o, .int (vd_I (j : Int))] [] (vd_mf N g) Q = Q (vd_mf N g') (.inl (some (.int (vd_I ((n + 20 : Nat) : Int)))))) ∧ g' 63 1 = vd_I ((n + 20 : Nat) : Int) ∧ (∀ i, j ≤ i → i < 20 → g' 64 (n + i) = vd_fby (X (i / 4)) (i % 4)) ∧ (∀ c i, ¬ (c = 63 ∧ i = 1) → ¬ (c = 64 ∧ n + j ≤ i ∧ i < n + 20) → g' c i = g c i) := by
  induction m with
  | zero =>
    intro j g h ho h1
    have hj : j = 20 := by omega
    subst hj
    refine ⟨g, fun d Q => ?_, h1, fun i h1 h2 => by omega, fun _ _ _ _ => rfl⟩
    rw [vd_S167_60 hN, if_neg (by decide), vd_S167_108 hN, h1]
  | succ m ih =>
    intro j g h ho h1
    have e1 : ((n + j : Nat) : Int) + 1 = ((n + (j + 1) : Nat) : Int) := by omega
    have ej : (j : Int) + 1 = ((j + 1 : Nat) : Int) := by omega
    have ed : (vd_I (j : Int)) / vd_I 4 = vd_I ((j / 4 : Nat) : Int) := by rw [vd_I_div (by omega) (by omega) (by omega) (by omega)]; congr 1
    have es : vd_I 24 - (vd_I 8 * (vd_I (j : Int) - vd_I ((j / 4 : Nat) : Int) * vd_I 4)) = vd_I (24 - 8 * ((j % 4 : Nat) : Int)) := by
      rw [vd_I_mul, vd_I_sub, vd_I_mul, vd_I_sub]
      congr 1
      omega
    obtain ⟨g1, hg1⟩ : ∃ g1, g1 = vd_up (vd_up g 63 1 (vd_I ((n + (j + 1) : Nat) : Int))) 64 (n + j) (vd_fby (X (j / 4)) (j % 4)) := ⟨_, rfl⟩
    have k1 : g1 63 1 = vd_I ((n + (j + 1) : Nat) : Int) := by rw [hg1, vd_up_ne (by omega), vd_up_eq]
    have k2 : g1 64 (n + j) = vd_fby (X (j / 4)) (j % 4) := by rw [hg1, vd_up_eq]
    have k3 : ∀ c i, ¬ (c = 63 ∧ i = 1) → ¬ (c = 64 ∧ i = n + j) → g1 c i = g c i := fun c i q1 q2 => by rw [hg1, vd_up_ne q2, vd_up_ne q1]
    obtain ⟨g', a1, a2, a3, a4⟩ := ih (j + 1) g1 (by omega) (fun k hk => by rw [k3 o k (by omega) (by omega)]; exact ho k hk) k1
    refine ⟨g', fun d Q => ?_, a2, fun i q1 q2 => ?_, fun c i q1 q2 => by rw [a4 c i q1 (by omega), k3 c i q1 (by omega)]⟩
    · have lt : ((j / 4 : Nat) : Int) < (vd_l N o : Int) := by rw [l_o]; omega
      have u1 : vd_up g 63 1 (vd_I ((n + (j + 1) : Nat) : Int)) o (j / 4) = X (j / 4) := by rw [vd_up_ne (by omega)]; exact ho _ (by omega)
      have bu := vd_fby_u (X (j / 4)) (j := j % 4) (by omega)
      rw [← a1 d Q, vd_S167_60 hN, if_pos (by rw [vd_I_toInt (by omega) (by omega), show (vd_I 20).toInt = 20 by decide]; omega), vd_S167_67 hN, h1, vd_I_add, e1, ed]
      simp (disch := first | assumption | omega) only [vd_S167_88 hN, Int.toNat_natCast, u1, ed, es, vd_S167_101 hN, bu, vd_I_add, ej]
      rw [hg1]
    · by_cases c : i = j
      · subst c
        rw [a4 64 (n + i) (by omega) (by omega), k2]
      · exact a3 i (by omega) q2
theorem vd_feed (hA : vd_API M N ow fa lo lf Z f g) (x1 x2 x3 x4 x5 : Int32) : vd_AP M N Z f g 1 17 [.ref 10, .int x1, .int x2, .int x3, .int x4, .int x5] 1 167 [.ref 63, .int x1, .int x2, .int x3, .int x4, .int x5, vd_U, vd_U] 14 0 1 5 := by
  have hA' := hA
  obtain ⟨hI, ⟨n, n1, n2, n3⟩, ⟨e3, e4⟩, hcr⟩ := hA
  have hM := hI.1.1
  have hN := hI.1.2.1
  have nN := hI.1.2.2.2
  obtain ⟨g0, hg⟩ : ∃ g0, g0 = vd_up g 63 2 (vd_I 0) := ⟨_, rfl⟩
  have kg : ∀ c i, ¬ (c = 63 ∧ i = 2) → g0 c i = g c i := fun c i q => by rw [hg, vd_up_ne q]
  have g2 : g0 63 2 = vd_I 0 := by rw [hg, vd_up_eq]
  have p0 := fun (x : Int32) (d : Nat) Q => vd_P168 hN (g := g0) x (b := 0) (Or.inl rfl) d Q
  have p1 := fun (x : Int32) (d : Nat) Q => vd_P168 hN (g := g0) x (b := 1) (Or.inr rfl) d Q
  by_cases c : 65516 < n
  · refine vd_AP.ro hA' (t := 1) (v := 0) (v' := vd_I 0) (g' := vd_up g0 63 2 (vd_I 1)) (fun h => absurd h (by decide)) (fun _ d Q => ?_) (fun h => absurd h (by decide)) (fun d Q => ?_) (fun h => absurd h (by decide)) (Or.inr (Or.inl ⟨rfl, by decide⟩)) (by rw [vd_up_eq]) (fun c i q => by rw [vd_up_ne q, kg c i q])
    · simp (disch := omega) only [vd_S17_0 hM, n2, vd_I_add, vd_I_toInt, show (65536 < (n : Int) + 20) by omega, if_true, vd_S17_12 hM]
    · simp (disch := omega) only [vd_S167_0 hN, n3, vd_I_toInt, show (65516 < (n : Int)) by omega, if_true, ← hg, vd_S167_17 hN, vd_S167_22 hN, p1, show ¬ ((1 : Int) = 0) by decide, if_false, vd_rs_v, vd_S167_25 hN, vd_S167_28 hN]
  · obtain ⟨f', a1, a2, a3, a4⟩ := vd_P17 hM x1 x2 x3 x4 x5 (n := n) (by omega) n2
    have nn : vd_n N ≠ 63 ∧ vd_n N ≠ 64 := by omega
    obtain ⟨N1, hN1⟩ : ∃ N1, N1 = vd_new N 32 5 5 := ⟨_, rfl⟩
    have hS1 : vd_SR N1 := by rw [hN1]; exact hN.new nN 32 5 5
    have kn : vd_k N1 (vd_n N) = 32 := by rw [hN1, vd_k_new, if_pos rfl]
    have ln : vd_l N1 (vd_n N) = 5 := by rw [hN1, vd_l_new, if_pos rfl]
    obtain ⟨g1, hg1⟩ : ∃ g1, g1 = vd_up (vd_up (vd_up (vd_up (vd_up (vd_nz0 g0 (vd_n N)) (vd_n N) 0 x1) (vd_n N) 1 x2) (vd_n N) 2 x3) (vd_n N) 3 x4) (vd_n N) 4 x5 := ⟨_, rfl⟩
    have k1 : ∀ c i, c ≠ vd_n N → g1 c i = g0 c i := fun c i q => by rw [hg1, vd_up_ne (by omega), vd_up_ne (by omega), vd_up_ne (by omega), vd_up_ne (by omega), vd_up_ne (by omega), vd_nz0_ne q]
    have k2 : ∀ k, k < 5 → g1 (vd_n N) k = vd_fdv x1 x2 x3 x4 x5 k := fun k hk => by
      have : k = 0 ∨ k = 1 ∨ k = 2 ∨ k = 3 ∨ k = 4 := by omega
      rw [hg1]
      rcases this with rfl | rfl | rfl | rfl | rfl
      · rw [vd_up_ne (by omega), vd_up_ne (by omega), vd_up_ne (by omega), vd_up_ne (by omega), vd_up_eq]; rfl
      · rw [vd_up_ne (by omega), vd_up_ne (by omega), vd_up_ne (by omega), vd_up_eq]; rfl
      · rw [vd_up_ne (by omega), vd_up_ne (by omega), vd_up_eq]; rfl
      · rw [vd_up_ne (by omega), vd_up_eq]; rfl
      · rw [vd_up_eq]; rfl
    obtain ⟨g', b1, b2, b3, b4⟩ := vd_L167 hS1 x1 x2 x3 x4 x5 (n := n) (X := vd_fdv x1 x2 x3 x4 x5) (by omega) kn ln nN 20 0 g1 (by omega) k2 (by rw [k1 63 1 (by omega), kg 63 1 (by omega), n3]; rfl)
    rw [show vd_I ((0 : Nat) : Int) = vd_I 0 from rfl] at b1
    have kk : ∀ c i, c ≠ vd_n N → ¬ (c = 63 ∧ (i = 1 ∨ i = 2)) → ¬ (c = 64 ∧ n ≤ i ∧ i < n + 20) → g' c i = g c i := fun c i q1 q2 q3 => by rw [b4 c i (by omega) (by omega), k1 c i q1, kg c i (by omega)]
    have rt : vd_RT f' g' := fun i hi => by
      by_cases q : n ≤ i ∧ i < n + 20
      · obtain ⟨j, hj⟩ : ∃ j, i = n + j := ⟨i - n, by omega⟩
        subst hj
        rw [a3 j (by omega), b3 j (by omega) (by omega)]
      · rw [a4 11 i (by omega) (by omega), kk 64 i (by omega) (by omega) (by omega)]
        exact hI.2.1.1 i hi
    have hI' : vd_INV M N1 ow fa lo lf Z f' g' := hI.keep (fun c _ => ⟨rfl, rfl⟩) (fun _ _ _ => rfl) (Nat.le_refl _) (fun c i q => a4 c i (by omega) (by omega)) (fun c hc => ⟨by rw [hN1, vd_k_new, if_neg (by omega)], by rw [hN1, vd_l_new, if_neg (by omega)]⟩) (fun c i hc => by rw [hN1, vd_r_new, if_neg (by omega)]) (by rw [hN1]; show 197 ≤ vd_n N + 1; omega) (fun c i q => kk c i (by omega) (by omega) (by omega)) rt
    refine ⟨M, N1, ow, fa, lo, lf, f', g', 0, vd_I ((n + 20 : Nat) : Int), vd_I ((n + 20 : Nat) : Int), fun _ => a1, fun h => absurd h (by decide), fun h => absurd h (by decide), fun d Q => ?_, fun _ => rfl, Or.inl rfl, by rw [b4 63 2 (by omega) (by omega), k1 63 2 (by omega), g2], ⟨hI', ⟨n + 20, by omega, a2, b2⟩, ⟨by rw [a4 10 2 (by omega) (by omega), e3, kk 63 3 (by omega) (by omega) (by omega)], by rw [a4 10 3 (by omega) (by omega), e4, kk 63 4 (by omega) (by omega) (by omega)]⟩, fun k hk => by rw [a4 15 k (by omega) (by omega)]; exact hcr k hk⟩, vd_Le.ints (fun c i q => a4 c i (by omega) (by omega)), ⟨fun c i q1 q2 => kk c i (by omega) (by omega) (by omega), fun c q => ⟨by rw [hN1, vd_k_new, if_neg (by omega)], by rw [hN1, vd_l_new, if_neg (by omega)]⟩, fun c i q1 q2 => by rw [hN1, vd_r_new, if_neg (by omega)], ⟨fun c i q => by rw [hN1, vd_j_new, if_neg (by omega)], by rw [hN1]; show vd_n N ≤ vd_n N + 1; omega⟩, by rw [hN1]; show vd_c N + 1 ≤ vd_c N + 1 ∧ vd_s N + 5 ≤ vd_s N + 5; omega⟩⟩
    have l0 : (0 : Int) < (vd_l N1 (vd_n N) : Int) := by rw [ln]; omega
    have l1 : (1 : Int) < (vd_l N1 (vd_n N) : Int) := by rw [ln]; omega
    have l2 : (2 : Int) < (vd_l N1 (vd_n N) : Int) := by rw [ln]; omega
    have l3 : (3 : Int) < (vd_l N1 (vd_n N) : Int) := by rw [ln]; omega
    have l4 : (4 : Int) < (vd_l N1 (vd_n N) : Int) := by rw [ln]; omega
    have n10 : 10 ≤ vd_n N := by omega
    have eN : vd_new (vd_mf N g0) 32 (5 : Int).toNat (5 : Int).toNat = vd_mf N1 (vd_nz0 g0 (vd_n N)) := by rw [hN1]; exact vd_new_mf N g0 32 5 5
    have t0 : (0 : Int).toNat = 0 := rfl
    have t1 : (1 : Int).toNat = 1 := rfl
    have t2 : (2 : Int).toNat = 2 := rfl
    have t3 : (3 : Int).toNat = 3 := rfl
    have t4 : (4 : Int).toNat = 4 := rfl
    simp (disch := first | assumption | omega) only [vd_S167_0 hN, n3, vd_I_toInt, show ¬ (65516 < (n : Int)) by omega, if_false, ← hg, vd_S167_21 hN, vd_S167_22 hN, p0, eq_self, if_true, vd_rs_v, vd_S167_25 hN, vd_S167_30 hN, vd_S167_31 hN, eN]
    simp (disch := first | assumption | omega) only [vd_S167_33 hS1, vd_S167_36 hS1, vd_S167_40 hS1, vd_S167_44 hS1, vd_S167_49 hS1, vd_S167_54 hS1, t0, t1, t2, t3, t4, ← hg1]
    exact b1 (d + 1) Q
end VDFE
