/-! ===== the start of the law, and the law ===== -/
set_option maxRecDepth 20000 in
theorem vd_tb0 : ∀ j : Nat, j < 33 → vd_tab 0 j = vd_I (vd_gL.getD j 0) := by decide +kernel
set_option maxRecDepth 20000 in
theorem vd_tb1 : ∀ j : Nat, j < 16 → vd_tab 1 j = vd_I (vd_sL.getD j 0) := by decide +kernel
set_option maxRecDepth 20000 in
theorem vd_tb2 : ∀ j : Nat, j < 21 → vd_tab 2 j = vd_I (vd_bd j) := by decide +kernel
set_option maxRecDepth 20000 in
theorem vd_tb3 : ∀ j : Nat, j < 11 → vd_tab 3 j = vd_I (vd_nr (j : Int)) := by decide +kernel
set_option maxRecDepth 20000 in
theorem vd_tb4 : ∀ j : Nat, j < 72 → vd_tab 4 j = vd_I (vd_tapL.getD j 0) := by decide +kernel
set_option maxRecDepth 20000 in
theorem vd_tb5 : ∀ j : Nat, j < 33 → vd_tab 5 j = vd_I (vd_gL.getD j 0) := by decide +kernel
set_option maxRecDepth 20000 in
theorem vd_tb6 : ∀ j : Nat, j < 16 → vd_tab 6 j = vd_I (vd_sL.getD j 0) := by decide +kernel
set_option maxRecDepth 20000 in
theorem vd_tb7 : ∀ j : Nat, j < 72 → vd_tab 7 j = vd_I (vd_tapL.getD j 0) := by decide +kernel
section VDSW
variable (L : Nat) (xs : Nat → Int32)
set_option maxRecDepth 20000 in
theorem vd_begin : ∃ f : Nat → Nat → Int32, (∀ d Q, vd_wp (d + 4) 0 0 [.ref 9, vd_U, vd_U, vd_U, vd_U, vd_U, vd_U] [] (vd_M0 L xs) Q = vd_wp (d + 4) 0 23 [.ref 9, .ref 10, .ref 63, .ref 196, .int (vd_I 0), vd_U, vd_U] [] (vd_mf (vd_KM51 L xs) f) Q) ∧ vd_Zi 197 f ∧ vd_cls0 f ∧ vd_ref0 f ∧ (∀ c i, c < 10 → c ≠ 8 → f c i = vd_i (vd_M0 L xs) c i) := by
  obtain ⟨g0, hg0⟩ : ∃ g, g = vd_i (vd_M0 L xs) := ⟨_, rfl⟩
  have hz : vd_Zi 10 g0 := fun c i h1 h2 _ => by omega
  obtain ⟨g1, hg1⟩ : ∃ g, g = (vd_nz0 g0 10) := ⟨_, rfl⟩
  have F_vd_C0a := vd_C0a_f g0
  rw [← hg1] at F_vd_C0a
  have e_vd_C0a := fun (d : Nat) Q => vd_C0a L xs d g0 Q
  rw [← hg1] at e_vd_C0a
  have z_g1 := F_vd_C0a.1 hz
  obtain ⟨g2, w0, z0, s0, c0⟩ := vd_ct1 L xs (f := g1) (fun i hi => by rw [F_vd_C0a.2 0 i (by omega) (by omega), hg0]; exact vd_tb0 i hi) (fun i hi => by rw [F_vd_C0a.2 4 i (by omega) (by omega), hg0]; exact vd_tb4 i hi) z_g1
  have z_g2 : vd_Zi 63 g2 := z0
  obtain ⟨g3, hg3⟩ : ∃ g, g = (vd_nz0 g2 63) := ⟨_, rfl⟩
  have F_vd_C0b := vd_C0b_f g2
  rw [← hg3] at F_vd_C0b
  have e_vd_C0b := fun (d : Nat) Q => vd_C0b L xs d g2 Q
  rw [← hg3] at e_vd_C0b
  have z_g3 := F_vd_C0b.1 z_g2
  obtain ⟨g4, w1, z1, s1, c1⟩ := vd_ct163 L xs (f := g3) z_g3
  have z_g4 : vd_Zi 196 g4 := z1
  obtain ⟨g5, hg5⟩ : ∃ g, g = (vd_nz0 g4 196) := ⟨_, rfl⟩
  have F_vd_C0c := vd_C0c_f g4
  rw [← hg5] at F_vd_C0c
  have e_vd_C0c := fun (d : Nat) Q => vd_C0c L xs d g4 Q
  rw [← hg5] at e_vd_C0c
  have z_g5 := F_vd_C0c.1 z_g4
  have w1' : ∀ d Q, vd_wp (d + 3) 163 0 [.ref 63, vd_U, vd_U] [] (vd_mf (vd_KM11 L xs) g3) Q = Q (vd_mf (vd_KM50 L xs) g4) (.inl none) := fun d Q => w1 (d + 2) Q
  have e0 : vd_M0 L xs = vd_mf (vd_M0 L xs) g0 := by rw [hg0]; exact (vd_mf_self _).symm
  have kc : ∀ c i, c < 63 → c ≠ 8 → g5 c i = g2 c i := fun c i q1 q2 => by rw [F_vd_C0c.2 c i (by omega) (by omega), c1 c i q1 q2, F_vd_C0b.2 c i (by omega) (by omega)]
  have kr : ∀ c i, c < 196 → c ≠ 8 → g5 c i = g4 c i := fun c i q1 q2 => F_vd_C0c.2 c i q1 q2
  refine ⟨g5, fun d Q => ?_, z_g5, s0.keep (fun c i q1 q2 => kc c i q2 (by omega)), ?_, fun c i h1 h2 => by rw [kc c i (by omega) h2, c0 c i h1 h2, F_vd_C0a.2 c i h1 h2, hg0]⟩
  · rw [e0]
    simp only [e_vd_C0a, w0, e_vd_C0b, w1', e_vd_C0c, vd_rs_n]
  · obtain ⟨r0, r1, r2, t184, t185, t186, t187, t188, t189, t190, t191, t192, t193, t194, t195⟩ := s1
    refine ⟨fun p k h1 h2 => by rw [kr (68 + p) k (by omega) (by omega)]; exact r0 p k h1 h2, by rw [kr 63 4 (by omega) (by omega)]; exact r1, by rw [kr 79 4 (by omega) (by omega)]; exact r2, fun i hi => by rw [kr 184 i (by omega) (by omega)]; exact t184 i hi, fun i hi => by rw [kr 185 i (by omega) (by omega)]; exact t185 i hi, fun i hi => by rw [kr 186 i (by omega) (by omega)]; exact t186 i hi, fun i hi => by rw [kr 187 i (by omega) (by omega)]; exact t187 i hi, fun i hi => by rw [kr 188 i (by omega) (by omega)]; exact t188 i hi, fun i hi => by rw [kr 189 i (by omega) (by omega)]; exact t189 i hi, fun i hi => by rw [kr 190 i (by omega) (by omega)]; exact t190 i hi, fun i hi => by rw [kr 191 i (by omega) (by omega)]; exact t191 i hi, fun i hi => by rw [kr 192 i (by omega) (by omega)]; exact t192 i hi, fun i hi => by rw [kr 193 i (by omega) (by omega)]; exact t193 i hi, fun i hi => by rw [kr 194 i (by omega) (by omega)]; exact t194 i hi, fun i hi => by rw [kr 195 i (by omega) (by omega)]; exact t195 i hi⟩
set_option maxHeartbeats 4000000 in
set_option maxRecDepth 20000 in
theorem vd_KM51_SC : vd_SC (vd_KM51 L xs) 38 39 40 41 := by
  unfold vd_SC
  repeat' apply And.intro
  all_goals first
    | rfl
    | exact Or.inl ⟨rfl, rfl, rfl, rfl⟩
set_option maxHeartbeats 4000000 in
set_option maxRecDepth 20000 in
theorem vd_KM51_SR : vd_SR (vd_KM51 L xs) := by
  unfold vd_SR
  repeat' apply And.intro
  all_goals rfl
theorem vd_s_nwc (M : vd_M) (n k l sl : Nat) : vd_s (vd_nwc M n k l sl) = vd_s M + sl := rfl
theorem vd_s_mw (M : vd_M) (n z : Nat) : vd_s (vd_mw M n z) = vd_s M + 4 + z + z + z + z := rfl
theorem vd_s_M0 : vd_s (vd_M0 L xs) = 0 := rfl
set_option maxRecDepth 20000 in
theorem vd_KM51_s : vd_s (vd_KM51 L xs) ≤ 6000000 := by
  simp only [vd_KM51, vd_KM50, vd_KM49, vd_KM48, vd_KM47, vd_KM46, vd_KM45, vd_KM44, vd_KM43, vd_KM42, vd_KM41, vd_KM40, vd_KM39, vd_KM38, vd_KM37, vd_KM36, vd_KM35, vd_KM34, vd_KM33, vd_KM32, vd_KM31, vd_KM30, vd_KM29, vd_KM28, vd_KM27, vd_KM26, vd_KM25, vd_KM24, vd_KM23, vd_KM22, vd_KM21, vd_KM20, vd_KM19, vd_KM18, vd_KM17, vd_KM16, vd_KM15, vd_KM14, vd_KM13, vd_KM12, vd_KM11, vd_KM10, vd_KM9, vd_KM8, vd_KM7, vd_KM6, vd_KM5, vd_KM4, vd_KM3, vd_KM2, vd_KM1, vd_s_nwc, vd_s_sr, vd_s_mw, vd_s_M0]
  omega
set_option maxRecDepth 20000 in
theorem vd_ct0 {h : Nat → Option Nat} (hn : ∀ x, h x = none) (p : Nat) : ∀ n, vd_ct h p n = 0 := by
  intro n
  induction n with
  | zero => rfl
  | succ n ih =>
    unfold vd_ct
    rw [ih, hn n]
    rfl
set_option maxRecDepth 20000 in
theorem vd_LW0 : ∃ (c s : Nat) (f : Nat → Nat → Int32), (∀ d Q, vd_wp (d + 4) 0 0 [.ref 9, vd_U, vd_U, vd_U, vd_U, vd_U, vd_U] [] (vd_M0 L xs) Q = vd_wp (d + 4) 0 23 [.ref 9, .ref 10, .ref 63, .ref 196, .int (vd_I 0), vd_U, vd_U] [] (vd_mf (vd_KM51 L xs) f) Q) ∧ vd_LW L xs vd_ZZ c s (vd_KM51 L xs) f ∧ c ≤ 500000 ∧ s ≤ 7000000 := by
  obtain ⟨f, e, hz, hC, hR, hS⟩ := vd_begin L xs
  obtain ⟨C46, C47, C57, C15, C14, C103, C106⟩ := hC
  obtain ⟨R68, R634, R794, t184, t185, t186, t187, t188, t189, t190, t191, t192, t193, t194, t195⟩ := hR
  have z : ∀ c i, 10 ≤ c → c < 197 → ¬ vd_sp c i → f c i = vd_I 0 := hz
  have nsp : ∀ c i, c = 11 ∨ c = 64 ∨ c = 18 ∨ c = 25 ∨ c = 26 ∨ c = 74 ∨ c = 75 ∨ c = 20 ∨ c = 37 ∨ c = 34 ∨ c = 45 ∨ c = 60 ∨ (c = 10 ∧ i ≠ 3 ∧ i ≠ 6) ∨ (c = 63 ∧ i ≠ 4) ∨ (c = 79 ∧ i ≠ 4) ∨ (129 ≤ c ∧ c ≤ 183) → f c i = vd_I 0 := fun c i q => z c i (by omega) (by omega) (by unfold vd_sp; omega)
  have hol : ∀ h, vd_hol (vd_KM51 L xs) h = none := fun h => by
    unfold vd_hol
    split <;> rfl
  have hor : ∀ h, vd_hor (vd_KM51 L xs) h = none := fun h => by
    unfold vd_hor
    split <;> rfl
  have r12 : ∀ i, vd_r (vd_KM51 L xs) 12 i = none := fun i => rfl
  have hPL : vd_PL (vd_KM51 L xs) := by
    unfold vd_PL
    refine ⟨fun i _ => Or.inl (r12 i), ?_, ?_, Nat.le_refl 197⟩
    · intro i j p p' s s' _ _ _ q
      rw [r12 i] at q
      cases q
    · intro h k _ q
      rw [hol h] at q
      cases q
  have st : ∀ c i, c < 8 → f c i = vd_tab c i := fun c i q => by
    rw [hS c i (by omega) (by omega)]
    show (if c < 8 then vd_tab c i else if c = 9 then xs i else 0) = _
    rw [if_pos q]
  have hI : vd_INV (vd_KM51 L xs) (vd_KM51 L xs) 38 39 40 41 vd_ZZ f f := by
    refine ⟨⟨vd_KM51_SC L xs, vd_KM51_SR L xs, hPL, hPL.2.2.2⟩, ⟨fun i hi => ?_, fun c k hc hk => ⟨128, ⟨by decide, by decide⟩, C14 _ (by omega), R68 c k hc hk⟩, fun j hj => ⟨0, by decide, nsp 18 j (by omega)⟩⟩, ⟨fun h hh => Or.inl ⟨hol h, hor h⟩, fun k hk => ?_, fun h p hh q => by rw [hor h] at q; cases q⟩, ⟨⟨Or.inr (fun h hh => rfl), fun k hk => ⟨0, 0, Or.inl rfl, ⟨by decide, by decide, fun _ => ⟨by decide, by decide⟩⟩, nsp 25 k (by omega), nsp 74 k (by omega), fun _ => ⟨nsp 26 k (by omega), nsp 75 k (by omega)⟩⟩, 0, Or.inl rfl, nsp 20 11 (by omega), nsp 63 13 (by omega)⟩, ?_⟩, ⟨0, 0, 0, ⟨nsp 37 0 (by omega), nsp 37 1 (by omega), nsp 37 5 (by omega)⟩, ⟨nsp 63 14 (by omega), nsp 63 15 (by omega), nsp 63 16 (by omega)⟩, Or.inl rfl, Or.inl ⟨rfl, rfl, ⟨nsp 37 2 (by omega), nsp 37 3 (by omega)⟩, nsp 63 70 (by omega), nsp 63 71 (by omega)⟩⟩, ⟨⟨?_, ?_, ?_⟩, ⟨?_, ?_, ?_, ?_⟩⟩, ?_⟩
    · rw [nsp 11 i (by omega), nsp 64 i (by omega)]
    · rw [vd_ct0 hor, nsp (129 + 5 * k) 3 (by omega)]
      rfl
    · refine ⟨?_, ?_, ?_, ?_⟩
      · rw [nsp 20 2 (by omega)]; decide
      · rw [nsp 20 6 (by omega)]; decide
      · rw [nsp 20 7 (by omega)]; decide
      · rw [nsp 20 8 (by omega)]; decide
    · rw [nsp 10 4 (by omega), nsp 63 20 (by omega)]
    · rw [nsp 10 5 (by omega), nsp 63 21 (by omega)]
    · rw [C106, R794]
    · rw [nsp 37 4 (by omega), nsp 79 0 (by omega)]
    · rw [nsp 34 3 (by omega), nsp 79 1 (by omega)]
    · rw [nsp 45 3 (by omega), nsp 79 2 (by omega)]
    · rw [nsp 60 2 (by omega), nsp 79 3 (by omega)]
    · refine ⟨⟨⟨fun j hj => ?_, fun j hj => ?_⟩, ⟨fun j hj => ?_, fun k p hk hp => ?_⟩, C57⟩, fun o s i ho hs h2 hi => ?_, ⟨⟨fun j hj => ?_, fun j hj => ?_⟩, fun j hj => ?_⟩, vd_ZZ_V⟩
      · rw [st 2 j (by omega)]; exact vd_tb2 j hj
      · rw [st 3 j (by omega)]; exact vd_tb3 j hj
      · rw [st 1 j (by omega)]; exact vd_tb1 j hj
      · have q1 : (32 * k + p) / 32 = k := by omega
        have q2 : (32 * k + p) % 32 = p := by omega
        rw [C47 (32 * k + p) (by omega), q1, q2]
      · obtain ⟨A0, A1, A2, A3, A4, A5, A6, A7⟩ := C46
        have key : (o = 0 ∧ (s = 0 ∨ s = 1 ∨ s = 2 ∨ s = 3)) ∨ (o = 1 ∧ (s = 0 ∨ s = 1)) ∨ (o = 2 ∧ (s = 0 ∨ s = 1)) := by omega
        rcases key with ⟨rfl, rfl | rfl | rfl | rfl⟩ | ⟨rfl, rfl | rfl⟩ | ⟨rfl, rfl | rfl⟩
        · exact ⟨A0 i hi, t184 i hi⟩
        · exact ⟨A1 i hi, t185 i hi⟩
        · exact ⟨A2 i hi, t186 i hi⟩
        · exact ⟨A3 i hi, t187 i hi⟩
        · exact ⟨A4 i hi, t188 i hi⟩
        · exact ⟨A5 i hi, t189 i hi⟩
        · exact ⟨A6 i hi, t192 i hi⟩
        · exact ⟨A7 i hi, t193 i hi⟩
      · rw [st 5 j (by omega)]; exact vd_tb5 j hj
      · rw [st 6 j (by omega)]; exact vd_tb6 j hj
      · rw [st 7 j (by omega)]; exact vd_tb7 j hj
  have hA : vd_API (vd_KM51 L xs) (vd_KM51 L xs) 38 39 40 41 vd_ZZ f f := ⟨hI, ⟨0, by decide, nsp 10 1 (by omega), nsp 63 1 (by omega)⟩, ⟨by rw [nsp 10 2 (by omega), nsp 63 3 (by omega)], by rw [C103, R634]⟩, C15⟩
  have hnop : vd_nop (vd_KM51 L xs) = 10 := by
    unfold vd_nop
    rw [if_pos (r12 0), if_pos (r12 1), if_pos (r12 2), if_pos (r12 3), if_pos (r12 4), if_pos (r12 5), if_pos (r12 6), if_pos (r12 7), if_pos (r12 8), if_pos (r12 9)]
  refine ⟨vd_c (vd_KM51 L xs) + 2 * vd_nop (vd_KM51 L xs), vd_s (vd_KM51 L xs) + (55296 * vd_nop (vd_KM51 L xs) + 3 * vd_nop (vd_KM51 L xs)), f, e, ⟨⟨38, 39, 40, 41, hA⟩, ⟨rfl, rfl, fun b => by rw [hS 9 b (by omega) (by omega)]; rfl⟩, ⟨rfl, rfl⟩, Nat.le_refl _, Nat.le_refl _⟩, ?_, ?_⟩
  · have q2 : vd_c (vd_KM51 L xs) ≤ 1000 := of_decide_eq_true rfl
    omega
  · have q2 := vd_KM51_s L xs
    omega
end VDSW
theorem vd_lawrun : vd_LawRun := fun L xs hL => by
  obtain ⟨c, s, f, e, hW, hc, hs⟩ := vd_LW0 L xs
  obtain ⟨M', f', e2, c1, s1⟩ := vd_loop hL 512 0 c s (vd_KM51 L xs) f vd_U vd_U (by omega) (by omega) hW
  have h : vd_wp 40 0 0 (vd_ent 7 [.ref 9]) [] (vd_M0 L xs) (fun M r => r = .inl (some (.int 1)) ∧ vd_c M ≤ 601024 ∧ vd_s M ≤ 7293034) := by
    have q1 := e 36 (fun M r => r = .inl (some (.int 1)) ∧ vd_c M ≤ 601024 ∧ vd_s M ≤ 7293034)
    have q2 := e2 22 (fun M r => r = .inl (some (.int 1)) ∧ vd_c M ≤ 601024 ∧ vd_s M ≤ 7293034)
    have q3 := q1.trans q2
    refine q3.mpr ⟨rfl, ?_, ?_⟩
    · show vd_c M' ≤ 601024
      omega
    · show vd_s M' ≤ 7293034
      omega
  obtain ⟨n, M2, r, h1, h2, h3, h4⟩ := h
  subst h2
  exact ⟨n, M2, h1, h3, h4⟩
