/-! ===== references of a frame: sizes, fine, kernel ===== -/
section VDHV
variable {M N : vd_M} {ow fa lo lf : Nat}
def vd_VR (M N0 : vd_M) (f0 g0 : Nat → Nat → Int32) : vd_M → Unit → Unit → Int → (Nat → Nat → Int32) → (Nat → Nat → Int32) → Prop := fun N' _ _ _ f' g' => vd_SR N' ∧ (∃ w h fi ke : Int, (1 ≤ w ∧ w ≤ 192 ∧ 1 ≤ h ∧ h ≤ 192) ∧ (∀ j, j < 3 → vd_rf M N' f' g' j w h) ∧ ((fi = 0 ∨ fi = 1) ∧ 0 ≤ ke ∧ ke ≤ 2) ∧ (f' 17 5 = vd_I w ∧ f' 17 6 = vd_I h ∧ f' 17 10 = vd_I fi ∧ f' 17 11 = vd_I ke) ∧ (g' 63 24 = vd_I w ∧ g' 63 25 = vd_I h ∧ g' 63 34 = vd_I fi ∧ g' 63 40 = vd_I ke)) ∧ (∀ c j, ¬ (c = 16 ∧ (j = 1 ∨ j = 3)) → ¬ (c = 17 ∧ (j = 5 ∨ j = 6 ∨ j = 10 ∨ j = 11)) → c ≠ 18 → c ≠ 19 → f' c j = f0 c j) ∧ (∀ c j, ¬ (c = 63 ∧ (j = 74 ∨ j = 76 ∨ j = 24 ∨ j = 25 ∨ j = 34 ∨ j = 40)) → c ≠ 84 → g' c j = g0 c j)
theorem vd_L35h (hM : vd_SC M ow fa lo lf) {f : Nat → Nat → Int32} {i sl o : Nat} (hi : i < 3) (hs : sl < 8) (h18 : f 18 i = vd_I (sl : Int)) (h0 : vd_r M 13 sl = some o) (a4 : Value) (d : Nat) (Q : vd_M → (Option Value ⊕ Nat) → Prop) : vd_wp (d + 4) 35 53 [.ref 17, .ref 16, .ref 13, .int (vd_I (i : Int)), a4] [] (vd_mf M f) Q = vd_wp (d + 4) 35 73 [.ref 17, .ref 16, .ref 13, .int (vd_I (i : Int)), .ref o] [] (vd_mf M f) Q := by
  simp (disch := omega) only [vd_S35_53 hM, vd_S35_58 hM, vd_S35_64 hM, vd_S35_65 hM, Int.toNat_natCast, h18, h0, vd_vr_some, vd_S35_66 hM, vd_S35_70 hM, vd_I_toInt, show ((i : Int) < 3) by omega, if_true]
theorem vd_L35n (hM : vd_SC M ow fa lo lf) {f : Nat → Nat → Int32} {i o : Nat} {w h : Int} (hk : vd_k M o = 7) (ho : 197 ≤ o) (hw : f o 0 = vd_I w) (hh : f o 1 = vd_I h) (d : Nat) (Q : vd_M → (Option Value ⊕ Nat) → Prop) : vd_wp (d + 4) 35 106 [.ref 17, .ref 16, .ref 13, .int (vd_I (i : Int)), .ref o] [] (vd_mf M f) Q = vd_wp (d + 4) 35 53 [.ref 17, .ref 16, .ref 13, .int (vd_I ((i + 1 : Nat) : Int)), .ref o] [] (vd_mf M (vd_up (vd_up f 17 5 (vd_I w)) 17 6 (vd_I h))) Q := by
  have ei : (i : Int) + 1 = ((i + 1 : Nat) : Int) := by omega
  have e : (vd_up f 17 5 (vd_I w)) o 1 = f o 1 := vd_up_ne (by omega)
  simp (disch := first | assumption | omega) only [vd_S35_106 hM, vd_S35_107 hM, vd_S35_124 hM, e, hw, hh, vd_I_add, ei]
/-- the reference compares the sizes -/
theorem vd_L180 (hN : vd_SR N) {g : Nat → Nat → Int32} {q0 q1 q2 : Nat} {w0 h0 w1 h1 w2 h2 : Int} (r0 : vd_r N 83 0 = some q0) (r1 : vd_r N 83 1 = some q1) (r2 : vd_r N 83 2 = some q2) (k0 : vd_k N q0 = 13) (k1 : vd_k N q1 = 13) (k2 : vd_k N q2 = 13) (a0 : g q0 0 = vd_I w0 ∧ g q0 1 = vd_I h0) (a1 : g q1 0 = vd_I w1 ∧ g q1 1 = vd_I h1) (a2 : g q2 0 = vd_I w2 ∧ g q2 1 = vd_I h2) (hb : g 63 76 = vd_I 0) (b0 : 1 ≤ w0 ∧ w0 ≤ 192 ∧ 1 ≤ h0 ∧ h0 ≤ 192) (b1 : 1 ≤ w1 ∧ w1 ≤ 192 ∧ 1 ≤ h1 ∧ h1 ≤ 192) (b2 : 1 ≤ w2 ∧ w2 ≤ 192 ∧ 1 ≤ h2 ∧ h2 ≤ 192) (x2 : Int32) (d : Nat) (Q : vd_M → (Option Value ⊕ Nat) → Prop) : vd_wp (d + 3) 180 2 [.ref 63, .int (vd_I 3), .int x2] [] (vd_mf N g) Q = vd_wp (d + 2) 176 0 [.ref 63, .int (vd_I (if w0 = w1 ∧ w0 = w2 ∧ h0 = h1 ∧ h0 = h2 then 1 else 0)), .int (vd_I 5)] [] (vd_mf N g) (fun M1 r => vd_rs r [] (fun st => vd_wp (d + 3) 180 170 [.ref 63, .int (vd_I 3), .int x2] st M1 Q)) := by
  obtain ⟨a0, a0'⟩ := a0
  obtain ⟨a1, a1'⟩ := a1
  obtain ⟨a2, a2'⟩ := a2
  have t0 : (0 : Int).toNat = 0 := rfl
  have t1 : (1 : Int).toNat = 1 := rfl
  have t2 : (2 : Int).toNat = 2 := rfl
  by_cases c1 : w0 = w1
  · by_cases c2 : w0 = w2
    · by_cases c3 : h0 = h1
      · by_cases c4 : h0 = h2
        · rw [if_pos ⟨c1, c2, c3, c4⟩]
          rw [← c1] at a1
          rw [← c2] at a2
          rw [← c3] at a1'
          rw [← c4] at a2'
          simp (disch := first | assumption | omega) only [vd_S180_2 hN, vd_S180_69 hN, vd_S180_77 hN, vd_S180_82 hN, vd_S180_83 hN, vd_S180_91 hN, vd_S180_92 hN, vd_S180_98 hN, vd_S180_103 hN, vd_S180_104 hN, vd_S180_112 hN, vd_S180_113 hN, vd_S180_119 hN, vd_S180_124 hN, vd_S180_125 hN, vd_S180_133 hN, vd_S180_134 hN, vd_S180_140 hN, vd_S180_145 hN, vd_S180_146 hN, vd_S180_154 hN, vd_S180_155 hN, vd_S180_161 hN, vd_S180_166 hN, vd_S180_167 hN, t0, t1, t2, r0, r1, r2, vd_vr_some, a0, a0', a1, a1', a2, a2', hb, vd_I_toInt, show ¬ ((3 : Int) < 3) by decide, if_false, eq_self, if_true]
        · rw [if_neg (fun h => c4 h.2.2.2)]
          rw [← c1] at a1
          rw [← c2] at a2
          rw [← c3] at a1'
          simp (disch := first | assumption | omega) only [vd_S180_2 hN, vd_S180_69 hN, vd_S180_77 hN, vd_S180_82 hN, vd_S180_83 hN, vd_S180_91 hN, vd_S180_92 hN, vd_S180_98 hN, vd_S180_103 hN, vd_S180_104 hN, vd_S180_112 hN, vd_S180_113 hN, vd_S180_119 hN, vd_S180_124 hN, vd_S180_125 hN, vd_S180_133 hN, vd_S180_134 hN, vd_S180_140 hN, vd_S180_145 hN, vd_S180_146 hN, vd_S180_154 hN, vd_S180_155 hN, vd_S180_165 hN, vd_S180_166 hN, vd_S180_167 hN, t0, t1, t2, r0, r1, r2, vd_vr_some, a0, a0', a1, a1', a2, a2', hb, vd_I_toInt, show ¬ ((3 : Int) < 3) by decide, if_false, eq_self, if_true, c4]
      · rw [if_neg (fun h => c3 h.2.2.1)]
        rw [← c1] at a1
        rw [← c2] at a2
        simp (disch := first | assumption | omega) only [vd_S180_2 hN, vd_S180_69 hN, vd_S180_77 hN, vd_S180_82 hN, vd_S180_83 hN, vd_S180_91 hN, vd_S180_92 hN, vd_S180_98 hN, vd_S180_103 hN, vd_S180_104 hN, vd_S180_112 hN, vd_S180_113 hN, vd_S180_119 hN, vd_S180_124 hN, vd_S180_125 hN, vd_S180_133 hN, vd_S180_134 hN, vd_S180_165 hN, vd_S180_166 hN, vd_S180_167 hN, t0, t1, t2, r0, r1, r2, vd_vr_some, a0, a0', a1, a1', a2, a2', hb, vd_I_toInt, show ¬ ((3 : Int) < 3) by decide, if_false, eq_self, if_true, c3]
    · rw [if_neg (fun h => c2 h.2.1)]
      rw [← c1] at a1
      simp (disch := first | assumption | omega) only [vd_S180_2 hN, vd_S180_69 hN, vd_S180_77 hN, vd_S180_82 hN, vd_S180_83 hN, vd_S180_91 hN, vd_S180_92 hN, vd_S180_98 hN, vd_S180_103 hN, vd_S180_104 hN, vd_S180_112 hN, vd_S180_113 hN, vd_S180_165 hN, vd_S180_166 hN, vd_S180_167 hN, t0, t1, t2, r0, r1, r2, vd_vr_some, a0, a0', a1, a1', a2, a2', hb, vd_I_toInt, show ¬ ((3 : Int) < 3) by decide, if_false, eq_self, if_true, c2]
  · rw [if_neg (fun h => c1 h.1)]
    simp (disch := first | assumption | omega) only [vd_S180_2 hN, vd_S180_69 hN, vd_S180_77 hN, vd_S180_82 hN, vd_S180_83 hN, vd_S180_91 hN, vd_S180_92 hN, vd_S180_165 hN, vd_S180_166 hN, vd_S180_167 hN, t0, t1, t2, r0, r1, r2, vd_vr_some, a0, a0', a1, a1', a2, a2', hb, vd_I_toInt, show ¬ ((3 : Int) < 3) by decide, if_false, eq_self, if_true, c1]
/-- behind the loop -/
theorem vd_r35t (hM : vd_SC M ow fa lo lf) (hs : vd_slk M) {f0 g0 : Nat → Nat → Int32} {N0 : vd_M} {e : Int} (N : vd_M) (f g : Nat → Nat → Int32) (p : Int) (a4 : Value) (x2 : Int32) (hS : vd_S35 M N0 f0 g0 e 3 N f g p) : vd_HP M N vd_Tn (fun _ : Unit => vd_TR) 4 35 2 [.ref 17, .ref 16, .ref 13, .int (vd_I 3), a4] [] 3 180 2 [.ref 63, .int (vd_I 3), .int x2] [] e (vd_VR M N0 f0 g0) f g := by
  obtain ⟨⟨hN, hn3⟩, ⟨hT, hp, hq⟩, hrf, hF0, hG0⟩ := hS
  have hJ : vd_J18 3 f := vd_J18.of hrf
  have hb : g 63 76 = vd_I 0 := hq.2.2.1
  obtain ⟨w0, h0, R0⟩ := hrf 0 (by decide)
  obtain ⟨w1, h1, R1⟩ := hrf 1 (by decide)
  obtain ⟨w2, h2, R2⟩ := hrf 2 (by decide)
  have R0' := R0
  have R1' := R1
  have R2' := R2
  obtain ⟨s0, p0, q0, _, ⟨x0a, x0b⟩, ⟨y0a, _, y0c⟩, _, ⟨k0, o0⟩, ⟨l0, _⟩, z0, ⟨m0a, m0b⟩, n0⟩ := R0'
  obtain ⟨s1, p1, q1, _, ⟨x1a, x1b⟩, ⟨y1a, _, y1c⟩, _, ⟨k1, o1⟩, ⟨l1, _⟩, z1, ⟨m1a, m1b⟩, n1⟩ := R1'
  obtain ⟨s2, p2, q2, _, ⟨x2a, x2b⟩, ⟨y2a, _, y2c⟩, _, ⟨k2, o2⟩, ⟨l2, _⟩, z2, ⟨m2a, m2b⟩, n2⟩ := R2'
  have RN := fun d Q => vd_L180 hN y0c y1c y2c l0 l1 l2 n0 n1 n2 hb z0 z1 z2 x2 d Q
  obtain ⟨_, _, _, b170, b209, b218, b240⟩ := vd_B180 hN
  -- the class's way
  have hf1 : vd_fU f (vd_up (vd_up f 17 5 (vd_I w0)) 17 6 (vd_I h0)) := ((vd_fU.refl f).up (by omega)).up (by omega)
  have C1 : ∀ d Q, vd_wp (d + 4) 35 2 [.ref 17, .ref 16, .ref 13, .int (vd_I 3), a4] [] (vd_mf M f) Q = vd_wp (d + 4) 35 53 [.ref 17, .ref 16, .ref 13, .int (vd_I ((1 : Nat) : Int)), .ref p0] [] (vd_mf M (vd_up (vd_up f 17 5 (vd_I w0)) 17 6 (vd_I h0))) Q := fun d Q => by
    have e1 : vd_wp (d + 4) 35 2 [.ref 17, .ref 16, .ref 13, .int (vd_I 3), a4] [] (vd_mf M f) Q = vd_wp (d + 4) 35 53 [.ref 17, .ref 16, .ref 13, .int (vd_I ((0 : Nat) : Int)), a4] [] (vd_mf M f) Q := by
      simp (disch := omega) only [vd_S35_2 hM, vd_S35_51 hM, vd_I_toInt, show ¬ ((3 : Int) < 3) by decide, if_false]
      rfl
    rw [e1, vd_L35h hM (by decide) x0a x0b y0a]
    have e2 : vd_wp (d + 4) 35 73 [.ref 17, .ref 16, .ref 13, .int (vd_I ((0 : Nat) : Int)), .ref p0] [] (vd_mf M f) Q = vd_wp (d + 4) 35 106 [.ref 17, .ref 16, .ref 13, .int (vd_I ((0 : Nat) : Int)), .ref p0] [] (vd_mf M f) Q := by
      simp (disch := omega) only [vd_S35_73 hM, vd_I_toInt, show ¬ ((0 : Int) < ((0 : Nat) : Int)) by decide, if_false]
    rw [e2, vd_L35n hM k0 o0 m0a m0b]
  generalize hF1 : vd_up (vd_up f 17 5 (vd_I w0)) 17 6 (vd_I h0) = F1 at C1 hf1
  have F1a : F1 17 5 = vd_I w0 := by rw [← hF1, vd_up_ne (by omega), vd_up_eq]
  have F1b : F1 17 6 = vd_I h0 := by rw [← hF1, vd_up_eq]
  have F1c : ∀ c j, ¬ (c = 17 ∧ (j = 5 ∨ j = 6)) → F1 c j = f c j := fun c j q => by rw [← hF1, vd_up_ne (by omega), vd_up_ne (by omega)]
  have J1 : vd_J18 3 F1 := hJ.keep (fun j => F1c 18 j (by omega))
  have hp1 := hp.keepU hf1.2
  have C1h : ∀ d Q, vd_wp (d + 4) 35 2 [.ref 17, .ref 16, .ref 13, .int (vd_I 3), a4] [] (vd_mf M f) Q = vd_wp (d + 4) 35 73 [.ref 17, .ref 16, .ref 13, .int (vd_I ((1 : Nat) : Int)), .ref p1] [] (vd_mf M F1) Q := fun d Q => by
    rw [C1, vd_L35h hM (by decide) x1a (by rw [F1c 18 1 (by omega)]; exact x1b) y1a]
  have g1a : F1 p1 0 = vd_I w1 := by rw [F1c p1 0 (by omega)]; exact m1a
  have g1b : F1 p1 1 = vd_I h1 := by rw [F1c p1 1 (by omega)]; exact m1b
  have pos1 : (0 : Int) < ((1 : Nat) : Int) := by decide
  have pos2 : (0 : Int) < ((2 : Nat) : Int) := by decide
  by_cases cA : w1 = w0 ∧ h1 = h0
  · obtain ⟨cA1, cA2⟩ := cA
    subst cA1 cA2
    have C2 : ∀ d Q, vd_wp (d + 4) 35 2 [.ref 17, .ref 16, .ref 13, .int (vd_I 3), a4] [] (vd_mf M f) Q = vd_wp (d + 4) 35 53 [.ref 17, .ref 16, .ref 13, .int (vd_I ((2 : Nat) : Int)), .ref p1] [] (vd_mf M (vd_up (vd_up F1 17 5 (vd_I w1)) 17 6 (vd_I h1))) Q := fun d Q => by
      rw [C1h]
      have e2 : vd_wp (d + 4) 35 73 [.ref 17, .ref 16, .ref 13, .int (vd_I ((1 : Nat) : Int)), .ref p1] [] (vd_mf M F1) Q = vd_wp (d + 4) 35 106 [.ref 17, .ref 16, .ref 13, .int (vd_I ((1 : Nat) : Int)), .ref p1] [] (vd_mf M F1) Q := by
        simp (disch := first | assumption | omega) only [vd_S35_73 hM, vd_S35_77 hM, vd_S35_89 hM, vd_I_toInt, pos1, g1a, g1b, F1a, F1b, eq_self, if_true]
      rw [e2, vd_L35n hM k1 o1 g1a g1b]
    have hf2 : vd_fU f (vd_up (vd_up F1 17 5 (vd_I w1)) 17 6 (vd_I h1)) := (hf1.up (by omega)).up (by omega)
    generalize hF2 : vd_up (vd_up F1 17 5 (vd_I w1)) 17 6 (vd_I h1) = F2 at C2 hf2
    have F2a : F2 17 5 = vd_I w1 := by rw [← hF2, vd_up_ne (by omega), vd_up_eq]
    have F2b : F2 17 6 = vd_I h1 := by rw [← hF2, vd_up_eq]
    have F2c : ∀ c j, ¬ (c = 17 ∧ (j = 5 ∨ j = 6)) → F2 c j = f c j := fun c j q => by rw [← hF2, vd_up_ne (by omega), vd_up_ne (by omega), F1c c j q]
    have J2 : vd_J18 3 F2 := hJ.keep (fun j => F2c 18 j (by omega))
    have C2h : ∀ d Q, vd_wp (d + 4) 35 2 [.ref 17, .ref 16, .ref 13, .int (vd_I 3), a4] [] (vd_mf M f) Q = vd_wp (d + 4) 35 73 [.ref 17, .ref 16, .ref 13, .int (vd_I ((2 : Nat) : Int)), .ref p2] [] (vd_mf M F2) Q := fun d Q => by
      rw [C2, vd_L35h hM (by decide) x2a (by rw [F2c 18 2 (by omega)]; exact x2b) y2a]
    have g2a : F2 p2 0 = vd_I w2 := by rw [F2c p2 0 (by omega)]; exact m2a
    have g2b : F2 p2 1 = vd_I h2 := by rw [F2c p2 1 (by omega)]; exact m2b
    by_cases cB : w2 = w1 ∧ h2 = h1
    · obtain ⟨cB1, cB2⟩ := cB
      subst cB1 cB2
      have hf3 : vd_fU f (vd_up (vd_up F2 17 5 (vd_I w2)) 17 6 (vd_I h2)) := (hf2.up (by omega)).up (by omega)
      have C3 : ∀ d Q, vd_wp (d + 4) 35 2 [.ref 17, .ref 16, .ref 13, .int (vd_I 3), a4] [] (vd_mf M f) Q = vd_wp (d + 4) 35 132 [.ref 17, .ref 16, .ref 13, .int (vd_I 3), .ref p2] [.ref 16, .ref 17] (vd_mf M (vd_up (vd_up F2 17 5 (vd_I w2)) 17 6 (vd_I h2))) Q := fun d Q => by
        rw [C2h]
        have e2 : vd_wp (d + 4) 35 73 [.ref 17, .ref 16, .ref 13, .int (vd_I ((2 : Nat) : Int)), .ref p2] [] (vd_mf M F2) Q = vd_wp (d + 4) 35 106 [.ref 17, .ref 16, .ref 13, .int (vd_I ((2 : Nat) : Int)), .ref p2] [] (vd_mf M F2) Q := by
          simp (disch := first | assumption | omega) only [vd_S35_73 hM, vd_S35_77 hM, vd_S35_89 hM, vd_I_toInt, pos2, g2a, g2b, F2a, F2b, eq_self, if_true]
        rw [e2, vd_L35n hM k2 o2 g2a g2b]
        simp (disch := omega) only [vd_S35_53 hM, vd_S35_130 hM, vd_I_toInt, show ¬ (((2 + 1 : Nat) : Int) < 3) by decide, if_false]
        rfl
      generalize hF3 : vd_up (vd_up F2 17 5 (vd_I w2)) 17 6 (vd_I h2) = F3 at C3 hf3
      have F3a : F3 17 5 = vd_I w2 := by rw [← hF3, vd_up_ne (by omega), vd_up_eq]
      have F3b : F3 17 6 = vd_I h2 := by rw [← hF3, vd_up_eq]
      have F3c : ∀ c j, ¬ (c = 17 ∧ (j = 5 ∨ j = 6)) → F3 c j = f c j := fun c j q => by rw [← hF3, vd_up_ne (by omega), vd_up_ne (by omega), F2c c j q]
      refine vd_HP.ok (n' := 2) (pc1' := 170) (ls1' := [.ref 63, .int (vd_I 3), .int x2]) (st1' := []) hN (x := 5) (by decide) (by decide) (vd_gU.refl g) hq (fun d Q => ?_) (fun g3 hq3 G3 => ?_)
      · rw [RN d Q, if_pos ⟨rfl, rfl, rfl, rfl⟩]
      have hz3 : g3 63 76 = vd_I 0 := hq3.2.2.1
      have e1 : g3 q0 0 = vd_I w2 ∧ g3 q0 1 = vd_I h2 := ⟨by rw [G3 q0 0 (by omega)]; exact n0.1, by rw [G3 q0 1 (by omega)]; exact n0.2⟩
      have hg4 : vd_gU g3 (vd_up (vd_up g3 63 24 (vd_I w2)) 63 25 (vd_I h2)) := ((vd_gU.refl g3).up (by unfold vd_inH; omega) (by omega)).up (by unfold vd_inH; omega) (by omega)
      obtain ⟨u135, u144, u161, _⟩ := vd_U35t hM (vd_I 3) (.ref p2)
      refine vd_HP.ask (f1 := F3) (vd_Q32 hM hN 3 2 (by decide) (by decide)) hf3 hg4 (hT.keepH (vd_fHd.refl f) G3.hd) hp hq3 u135 (b209 (vd_I 3) x2) (fun d Q => ?_) (fun d Q => ?_) (fun f5 g5 p5 fi hfi hT5 hp5 hq5 F5 G5 => ?_)
      · rw [C3]
        simp only [vd_S35_132 hM]
      · have t0 : (0 : Int).toNat = 0 := rfl
        have e25 : (vd_up g3 63 24 (vd_I w2)) q0 1 = vd_I h2 := by rw [vd_up_ne (by omega)]; exact e1.2
        simp (disch := first | assumption | omega) only [vd_S180_170 hN, vd_S180_178 hN, vd_S180_184 hN, vd_S180_185 hN, vd_S180_197 hN, vd_S180_198 hN, vd_S180_206 hN, t0, y0c, vd_vr_some, hz3, e1.1, e25, vd_I_toInt, eq_self, if_true]
      have hok : vd_fok .boolean (vd_I fi) = true := by rcases hfi with rfl | rfl <;> decide
      refine vd_HP.ask (f1 := vd_up f5 17 10 (vd_I fi)) (g1 := vd_up g5 63 34 (vd_I fi)) (vd_Q30 hM hN 3 2 2 (by decide) (by decide)) ((vd_fU.refl f5).up (by omega)) ((vd_gU.refl g5).up (by unfold vd_inH; omega) (by omega)) hT5 hp5 hq5 u144 (b218 (vd_I 3) x2) (fun d Q => by simp (disch := assumption) only [vd_S35_135 hM, vd_S35_141 hM]) (fun d Q => by simp (disch := assumption) only [vd_S180_209 hN, vd_S180_215 hN]) (fun f6 g6 p6 ke hke hT6 hp6 hq6 F6 G6 => ?_)
      have hke := hke.n (z := 4) (by decide)
      have hf7 : vd_fU f6 (vd_up f6 17 11 (vd_I ke)) := (vd_fU.refl f6).up (by omega)
      have hg7 : vd_gU g6 (vd_up g6 63 40 (vd_I ke)) := (vd_gU.refl g6).up (by unfold vd_inH; omega) (by omega)
      by_cases cK : ke = 3
      · refine vd_HP.bad (n := 3) (n' := 2) hM hN (x := 6) (by decide) (by decide) hf7 hg7 hp6 hq6 u161 (b240 (vd_I 3) x2) (fun d Q => ?_) (fun d Q => ?_)
        · simp (disch := omega) only [vd_S35_144 hM, vd_S35_155 hM, vd_S35_158 hM, vd_I_toInt, cK, eq_self, if_true]
        · simp (disch := omega) only [vd_S180_218 hN, vd_S180_234 hN, vd_S180_235 hN, vd_S180_237 hN, vd_I_toInt, show ¬ (ke < 3) by omega, if_false]
      · refine vd_HP.ok (n' := 2) (pc1' := 240) (ls1' := [.ref 63, .int (vd_I 3), .int x2]) (st1' := []) hN (x := 6) (by decide) (by decide) hg7 hq6 (fun d Q => ?_) (fun g8 hq8 G8 => ?_)
        · simp (disch := omega) only [vd_S180_218 hN, vd_S180_230 hN, vd_S180_235 hN, vd_S180_237 hN, vd_I_toInt, show (ke < 3) by omega, if_true]
        have FA : ∀ c j, ¬ (c = 16 ∧ (j = 1 ∨ j = 3)) → ¬ (c = 17 ∧ (j = 5 ∨ j = 6 ∨ j = 10 ∨ j = 11)) → (vd_up f6 17 11 (vd_I ke)) c j = f c j := fun c j q1 q2 => by rw [vd_up_ne (by omega), F6 c j q1, vd_up_ne (by omega), F5 c j q1, F3c c j (by omega)]
        have GA : ∀ c j, ¬ (c = 63 ∧ (j = 74 ∨ j = 76 ∨ j = 24 ∨ j = 25 ∨ j = 34 ∨ j = 40)) → g8 c j = g c j := fun c j q1 => by rw [G8 c j (by omega), vd_up_ne (by omega), G6 c j (by omega), vd_up_ne (by omega), G5 c j (by omega), vd_up_ne (by omega), vd_up_ne (by omega), G3 c j (by omega)]
        refine vd_HP.ret () () hf7 (vd_gU.refl g8) hp6 hq8 ⟨hN, ⟨w2, h2, fi, ke, z2, fun j hj => ?_, ⟨hfi, by omega, by omega⟩, ⟨?_, ?_, ?_, vd_up_eq _ _ _ _⟩, ⟨?_, ?_, ?_, ?_⟩⟩, fun c j q1 q2 q3 q4 => ?_, fun c j q1 q2 => ?_⟩ (fun d Q => ?_) (fun d Q => ?_)
        · have hh : vd_rf M N f g j w2 h2 := by
            have : j = 0 ∨ j = 1 ∨ j = 2 := by omega
            rcases this with rfl | rfl | rfl
            · exact R0
            · exact R1
            · exact R2
          exact hh.keep (fun c i q1 q2 => FA c i (by omega) (by omega)) (fun c i q1 q2 => GA c i (by omega)) (fun _ => rfl) (fun _ => rfl) rfl
        · rw [vd_up_ne (by omega), F6 17 5 (by omega), vd_up_ne (by omega), F5 17 5 (by omega)]; exact F3a
        · rw [vd_up_ne (by omega), F6 17 6 (by omega), vd_up_ne (by omega), F5 17 6 (by omega)]; exact F3b
        · rw [vd_up_ne (by omega), F6 17 10 (by omega), vd_up_eq]
        · rw [G8 63 24 (by omega), vd_up_ne (by omega), G6 63 24 (by omega), vd_up_ne (by omega), G5 63 24 (by omega), vd_up_ne (by omega), vd_up_eq]
        · rw [G8 63 25 (by omega), vd_up_ne (by omega), G6 63 25 (by omega), vd_up_ne (by omega), G5 63 25 (by omega), vd_up_eq]
        · rw [G8 63 34 (by omega), vd_up_ne (by omega), G6 63 34 (by omega), vd_up_eq]
        · rw [G8 63 40 (by omega), vd_up_eq]
        · rw [FA c j q1 q2]; exact hF0 c j q1 q3 q4
        · rw [GA c j q1]; exact hG0 c j (by omega) q2
        · simp (disch := omega) only [vd_S35_144 hM, vd_S35_161 hM, vd_Tn, vd_TR, vd_I_toInt, cK, if_false]
        · simp only [vd_S180_240 hN, vd_TR]
    · -- the third differs
      refine vd_HP.badE (f1 := F2) (n := 3) (n' := 2) (pc1 := 106) (ls1 := [.ref 17, .ref 16, .ref 13, .int (vd_I ((2 : Nat) : Int)), .ref p2]) (st1 := []) (pc1' := 170) (ls1' := [.ref 63, .int (vd_I 3), .int x2]) (st1' := []) hM hN (x := 5) (by decide) (by decide) hf2 (vd_gU.refl g) hp hq (fun f3 F3 hp3 => (vd_U35b hM hs 1 2 rfl).2 (by decide) p2 f3 p e 5 k2 o2 hp3 (by decide) (J2.keep (fun j => F3 18 j (by omega)))) (b170 _ _) (fun d Q => ?_) (fun d Q => ?_)
      · rw [C2h]
        by_cases c1 : w2 = w1
        · have c2 : ¬ h2 = h1 := fun h => cB ⟨c1, h⟩
          simp (disch := first | assumption | omega) only [vd_S35_73 hM, vd_S35_77 hM, vd_S35_89 hM, vd_S35_101 hM, vd_S35_103 hM, vd_I_toInt, pos2, g2a, g2b, F2a, F2b, c1, c2, eq_self, if_true, if_false]
        · simp (disch := first | assumption | omega) only [vd_S35_73 hM, vd_S35_77 hM, vd_S35_101 hM, vd_S35_103 hM, vd_I_toInt, pos2, g2a, g2b, F2a, F2b, c1, if_true, if_false]
      · rw [RN d Q, if_neg (fun h => cB ⟨h.2.1.symm, h.2.2.2.symm⟩)]
  · refine vd_HP.badE (f1 := F1) (n := 3) (n' := 2) (pc1 := 106) (ls1 := [.ref 17, .ref 16, .ref 13, .int (vd_I ((1 : Nat) : Int)), .ref p1]) (st1 := []) (pc1' := 170) (ls1' := [.ref 63, .int (vd_I 3), .int x2]) (st1' := []) hM hN (x := 5) (by decide) (by decide) hf1 (vd_gU.refl g) hp hq (fun f3 F3 hp3 => (vd_U35b hM hs 2 1 rfl).2 (by decide) p1 f3 p e 5 k1 o1 hp3 (by decide) (J1.keep (fun j => F3 18 j (by omega)))) (b170 _ _) (fun d Q => ?_) (fun d Q => ?_)
    · rw [C1h]
      by_cases c1 : w1 = w0
      · have c2 : ¬ h1 = h0 := fun h => cA ⟨c1, h⟩
        simp (disch := first | assumption | omega) only [vd_S35_73 hM, vd_S35_77 hM, vd_S35_89 hM, vd_S35_101 hM, vd_S35_103 hM, vd_I_toInt, pos1, g1a, g1b, F1a, F1b, c1, c2, eq_self, if_true, if_false]
      · simp (disch := first | assumption | omega) only [vd_S35_73 hM, vd_S35_77 hM, vd_S35_101 hM, vd_S35_103 hM, vd_I_toInt, pos1, g1a, g1b, F1a, F1b, c1, if_true, if_false]
    · rw [RN d Q, if_neg (fun h => cA ⟨h.1.symm, h.2.2.1.symm⟩)]
/-- readReferences and references -/
theorem vd_H35 (hM : vd_SC M ow fa lo lf) (hs : vd_slk M) (hN : vd_SR N) {f g : Nat → Nat → Int32} {p e : Int} (hsd : ∀ r, r < 8 → vd_sdm M N f g r) (hT : vd_RT f g) (hp : vd_pb f p e 0) (hq : vd_qb g p e 0) : vd_HP M N vd_Tn (fun _ : Unit => vd_TR) 4 35 0 [.ref 17, .ref 16, .ref 13, vd_U, vd_U] [] 3 180 0 [.ref 63, vd_U, vd_U] [] e (vd_VR M N f g) f g := by
  refine vd_HP.s (vd_fU.refl f) (vd_gU.refl g) (vd_r35 hM hs hsd (fun N' f' g' p' a4 x2 hS => vd_r35t hM hs N' f' g' p' a4 x2 hS) 3 0 N f g p vd_U vd_U rfl (fun h => absurd h (by decide)) ⟨⟨hN, vd_N3.refl N⟩, ⟨hT, hp, hq⟩, fun j hj => absurd hj (by omega), fun _ _ _ _ _ => rfl, fun _ _ _ _ => rfl⟩) (fun d Q => ?_) (fun d Q => ?_)
  · simp only [vd_S35_0 hM]; rfl
  · simp only [vd_S180_0 hN]; rfl
end VDHV
