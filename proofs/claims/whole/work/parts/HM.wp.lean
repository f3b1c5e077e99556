/-! ===== a frame's picture, class ===== -/
section VDWP
variable {M : vd_M} {ow fa lo lf : Nat} {f : Nat → Nat → Int32}
/-- what the new picture's memory is -/
def vd_NP (M M' : vd_M) (f f' : Nat → Nat → Int32) (w h : Int) (p s : Nat) : Prop := (vd_PL M' ∧ vd_PC M' p s ∧ p < vd_n M' ∧ s < vd_n M') ∧ vd_r M' 44 7 = some p ∧ (∀ x, x < 9 → vd_hol M' x ≠ some p) ∧ (∃ i, i < 10 ∧ vd_r M' 12 i = some p) ∧ (∀ r sl : Nat, r < 3 → sl < 8 → f 18 r = vd_I (sl : Int) → vd_r M' 55 r = vd_r M 13 sl) ∧ (∀ x, x < 9 → vd_hol M' x = vd_hol M x) ∧ (∀ p' s', vd_PC M p' s' → p' < vd_n M → s' < vd_n M → vd_PC M' p' s') ∧ vd_Lc M M' f f' ∧ (f' p 0 = vd_I w ∧ f' p 1 = vd_I h ∧ (∀ i, i < 55296 → f' s i = vd_I 0) ∧ f' 45 3 = vd_I 0) ∧ (∀ c i, c < vd_n M → c ≠ p → c ≠ s → ¬ (c = 45 ∧ i = 3) → f' c i = f c i)
theorem vd_wkP (hM : vd_SC M ow fa lo lf) (hL : vd_PL M) (hs : vd_slk M) {w h : Int} (hw : f 17 5 = vd_I w) (hh : f 17 6 = vd_I h) (hJ : vd_J18 3 f) (x1 x2 : Int32) : ∃ (M' : vd_M) (f' : Nat → Nat → Int32) (p s : Nat), (∀ d Q, vd_wp (d + 3) 26 141 [.ref 10, .int x1, .int x2, vd_U, vd_U, vd_U] [] (vd_mf M f) Q = vd_wp (d + 3) 26 179 [.ref 10, .int x1, .int x2, .ref p, .int (vd_I 0), vd_U] [] (vd_mf M' f') Q) ∧ vd_SC M' ow fa lo lf ∧ vd_NP M M' f f' w h p s := by
  have hn := hL.2.2.2
  obtain ⟨M1, f1, p, s, e1, ⟨⟨hL1, hp1, pn, sn⟩, nh, ip, hc⟩⟩ := vd_P60 hM hL f
  obtain ⟨hM1, hol1, kPC, kk, kr, kf, kc1, kn⟩ : vd_SC M1 ow fa lo lf ∧ (∀ x, x < 9 → vd_hol M1 x = vd_hol M x) ∧ (∀ p' s', vd_PC M p' s' → p' < vd_n M → s' < vd_n M → vd_PC M1 p' s') ∧ (∀ c, c < vd_n M → vd_k M1 c = vd_k M c ∧ vd_l M1 c = vd_l M c) ∧ (∀ c i, c < vd_n M → c ≠ 12 → vd_r M1 c i = vd_r M c i) ∧ (∀ c i, c < vd_n M → f1 c i = f c i) ∧ (vd_c M1 + 2 * vd_nop M1 = vd_c M + 2 * vd_nop M ∧ vd_s M1 + (55296 * vd_nop M1 + 3 * vd_nop M1) = vd_s M + (55296 * vd_nop M + 3 * vd_nop M)) ∧ (vd_n M ≤ vd_n M1 ∧ ∀ c i, c < vd_n M → vd_j M1 c i = vd_j M c i) := by
    rcases hc with ⟨e, e'⟩ | ⟨i, hi, ei, e, e'⟩
    · subst e e'
      exact ⟨hM, fun _ _ => rfl, fun _ _ q _ _ => q, fun _ _ => ⟨rfl, rfl⟩, fun _ _ _ _ => rfl, fun _ _ _ => rfl, ⟨rfl, rfl⟩, Nat.le_refl _, fun _ _ _ => rfl⟩
    · subst e
      have nn := vd_nop_pnew hn hi ei
      refine ⟨vd_pnew_SC hM hn i, fun x _ => vd_pnew_hol hn i x, fun p' s' q a b => vd_pnew_PC q a b, fun c q => ⟨vd_pnew_k q, vd_pnew_l q⟩, fun c j q a => vd_pnew_r q (by omega), fun c j q => ?_, ⟨?_, ?_⟩, by rw [vd_pnew_n]; omega, fun c j q => ?_⟩
      · rw [e']
        rw [vd_nz0_ne (by omega), vd_nz0_ne (by omega)]
      · rw [vd_pnew_c, nn]; omega
      · rw [vd_pnew_s, nn]; omega
      · unfold vd_pnew
        rw [vd_j_sr, vd_j_sr, vd_j_new, vd_n_new, if_neg (by omega), vd_j_new, if_neg (by omega)]
  have e17 : ∀ i, f1 17 i = f 17 i := fun i => kf 17 i (by omega)
  have hw1 : f1 17 5 = vd_I w := by rw [e17, hw]
  have hh1 : f1 17 6 = vd_I h := by rw [e17, hh]
  obtain ⟨f2, hf2⟩ : ∃ f2, f2 = vd_uf (vd_up (vd_up f1 p 0 (vd_I w)) p 1 (vd_I h)) s 0 55296 (vd_I 0) := ⟨_, rfl⟩
  have pb := hp1.2.2
  have kp1 := hp1.1.1
  have kf2 : ∀ c i, c ≠ p → c ≠ s → f2 c i = f1 c i := fun c i q1 q2 => by rw [hf2, vd_uf_ne (by omega), vd_up_ne (by omega), vd_up_ne (by omega)]
  have sl1 : vd_slk M1 := fun r hr => by
    rw [kr 13 r (by omega) (by omega)]
    rcases hs r hr with q | ⟨o, q1, q2, q3⟩
    · exact Or.inl q
    · refine Or.inr ⟨o, q1, ?_, q3⟩
      obtain ⟨i, hi, ei⟩ := hL.2.2.1 r o (by omega) (by unfold vd_hol; rw [if_pos hr, q1])
      rcases hL.1 i hi with q' | ⟨p', s', q', _, hp', _⟩
      · rw [ei] at q'; cases q'
      · rw [ei] at q'
        cases q'
        rw [(kk o hp').1, q2]
  obtain ⟨s0, z0, y0⟩ := hJ 0 (by decide)
  obtain ⟨s1, z1, y1⟩ := hJ 1 (by decide)
  obtain ⟨s2, z2, y2⟩ := hJ 2 (by decide)
  have j18 : ∀ i, f2 18 i = f 18 i := fun i => by rw [kf2 18 i (by omega) (by omega), kf 18 i (by omega)]
  have e64 := fun d Q => vd_P64 hM1 sl1 (f := f2) (p := p) (s0 := s0) (s1 := s1) (s2 := s2) ⟨z0, by rw [j18, y0]⟩ ⟨z1, by rw [j18, y1]⟩ ⟨z2, by rw [j18, y2]⟩ d Q
  obtain ⟨M2, hM2⟩ : ∃ M2, M2 = vd_m64 M1 p (vd_r M1 13 s0) (vd_r M1 13 s1) (vd_r M1 13 s2) := ⟨_, rfl⟩
  have hMM : vd_SC M2 ow fa lo lf := by rw [hM2]; exact vd_m64_SC hM1 _ _ _ _
  have ms : vd_Ms M1 M2 := by rw [hM2]; exact ⟨rfl, rfl, rfl, rfl⟩
  have r2 : ∀ c i, ¬ (c = 44 ∧ i = 7) → c ≠ 55 → vd_r M2 c i = vd_r M1 c i := fun c i q1 q2 => by rw [hM2]; exact vd_m64_r q1 q2
  have hol2 : ∀ x, vd_hol M2 x = vd_hol M1 x := fun x => by
    unfold vd_hol
    rw [r2 13 x (by omega) (by omega), r2 10 9 (by omega) (by omega)]
  have pc2 : ∀ p' s', vd_PC M1 p' s' → vd_PC M2 p' s' := fun p' s' q => ms.PC q (fun c i a => r2 c i (by omega) (by omega))
  have pl2 : vd_PL M2 := hL1.hol (Nat.le_of_eq ms.n.symm) (fun c _ _ => ms.k c) (fun c _ _ => ms.l c) (fun c i q => by have := hL1.2.2.2; exact r2 c i (by omega) (by omega)) (fun x k hx e => by rw [hol2] at e; exact hL1.2.2.1 x k hx e)
  have lg : vd_long (.ref p) = false := rfl
  refine ⟨M2, vd_up f2 45 3 (vd_I 0), p, s, fun d Q => ?_, hMM, ⟨pl2, pc2 p s hp1, by rw [ms.n]; exact pn, by rw [ms.n]; exact sn⟩, ?_, fun x hx => by rw [hol2]; exact nh x hx, ?_, fun r sl hr hsl e => ?_, fun x hx => by rw [hol2, hol1 x hx], fun p' s' q a b => pc2 p' s' (kPC p' s' q a b), ⟨fun c i q => ?_, fun c q => ?_, fun c i q => ?_, ⟨fun c i q => ?_, ?_⟩, ?_, ?_⟩, ⟨?_, ?_, fun i hi => ?_, by rw [vd_up_eq]⟩, fun c i q1 q2 q3 q4 => ?_⟩
  · have e1' : ∀ Q, vd_wp (d + 2) 60 0 [.ref 10, vd_U] [] (vd_mf M f) Q = Q (vd_mf M1 f1) (.inl (some (.ref p))) := fun Q => e1 d Q
    have e63 : ∀ Q, vd_wp (d + 2) 63 0 [.ref p, .int (vd_I w), .int (vd_I h)] [] (vd_mf M1 f1) Q = Q (vd_mf M1 f2) (.inl none) := fun Q => by rw [vd_P63 hM1 hp1 f1 (vd_I w) (vd_I h) (d + 1) Q, ← hf2]
    have e64' : ∀ Q, vd_wp (d + 2) 64 0 [.ref 44, .ref p, .ref 13] [] (vd_mf M1 f2) Q = Q (vd_mf M2 (vd_up f2 45 3 (vd_I 0))) (.inl none) := fun Q => by rw [e64 (d + 1) Q, ← hM2]
    simp (disch := first | exact lg | exact kp1) only [vd_S26_141 hM, vd_S26_142 hM, e1', vd_rs_v, vd_rs_n, vd_S26_145 hM1, hw1, hh1, vd_S26_161 hM1, e63, vd_S26_164 hM1, vd_S26_168 hM1, vd_S26_173 hM1, e64', vd_S26_176 hMM]
  · rw [hM2]; exact vd_m64_44 _ _ _ _ _
  · obtain ⟨i, hi, ei⟩ := ip
    exact ⟨i, hi, by rw [r2 12 i (by omega) (by omega)]; exact ei⟩
  · obtain ⟨w0, w1, w2⟩ := vd_m64_55 M1 p (vd_r M1 13 s0) (vd_r M1 13 s1) (vd_r M1 13 s2)
    rw [← hM2] at w0 w1 w2
    have inj : ∀ a b : Nat, a < 8 → b < 8 → vd_I (a : Int) = vd_I (b : Int) → a = b := fun a b ha hb q => by
      have q1 := vd_toI q (by omega) (by omega)
      rw [vd_I_toInt (by omega) (by omega)] at q1
      omega
    have hr3 : r = 0 ∨ r = 1 ∨ r = 2 := by omega
    rcases hr3 with rfl | rfl | rfl
    · rw [w0, inj s0 sl z0 hsl (y0.symm.trans e), kr 13 sl (by omega) (by omega)]
    · rw [w1, inj s1 sl z1 hsl (y1.symm.trans e), kr 13 sl (by omega) (by omega)]
    · rw [w2, inj s2 sl z2 hsl (y2.symm.trans e), kr 13 sl (by omega) (by omega)]
  · rw [vd_up_ne (by omega), kf2 c i (by omega) (by omega), kf c i (by omega)]
  · rw [ms.k, ms.l]
    exact kk c (by omega)
  · rw [r2 c i (by omega) (by omega), kr c i (by omega) (by omega)]
  · rw [show vd_j M2 c i = vd_j M1 c i from by unfold vd_j; rw [ms.2.2.2]]
    exact kn.2 c i q
  · rw [ms.n]; exact kn.1
  · rw [ms.c, vd_nop_eq (fun i => r2 12 i (by omega) (by omega))]; exact kc1.1
  · rw [ms.s, vd_nop_eq (fun i => r2 12 i (by omega) (by omega))]; exact kc1.2
  · rw [vd_up_ne (by omega), hf2, vd_uf_ne (by omega), vd_up_ne (by omega), vd_up_eq]
  · rw [vd_up_ne (by omega), hf2, vd_uf_ne (by omega), vd_up_eq]
  · rw [vd_up_ne (by omega), hf2, vd_uf_in (by omega) hi]
  · rw [vd_up_ne q4, kf2 c i q2 q3, kf c i q1]
end VDWP
