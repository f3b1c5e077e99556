/-! ===== the reference fills with zeros, and makes even and holds near ===== -/
section VDNZ2
variable {N : vd_M} {x y w h : Nat} {fi pw ph : Int} {v : Int × Int} {s : vd_FT}
theorem vd_Z212s (hN : vd_SR N) {g : Nat → Nat → Int32} {k : Nat} (hk : k < 2) (h : g 63 116 = vd_I (k : Int)) (x1 x2 x3 : Int32) (a4 : Value) : ∀ d Q, vd_wp d 212 180 [.ref 63, .int x1, .int x2, .int x3, a4] [] (vd_mf N g) Q = vd_wp d 212 180 [.ref 63, .int x1, .int x2, .int x3, a4] [] (vd_mf N (vd_up (vd_up (vd_up g 120 k (vd_I 0)) 63 116 (vd_I ((k + 1 : Nat) : Int))) 121 k (vd_I 0))) Q := by
  intro d Q
  have e1 : (k : Int) < 2 := by omega
  have e2 : (k : Int) + 1 = ((k + 1 : Nat) : Int) := by omega
  conv => lhs; rw [vd_S212_180 hN]
  simp (disch := omega) only [vd_S212_188 hN, vd_S212_197 hN, vd_S212_214 hN, h, vd_I_toInt, e1, if_true, Int.toNat_natCast, vd_I_add, e2]
theorem vd_Z212e (hN : vd_SR N) {g : Nat → Nat → Int32} (h : g 63 116 = vd_I 2) (x1 x2 x3 : Int32) (a4 : Value) : ∀ d Q, vd_wp d 212 180 [.ref 63, .int x1, .int x2, .int x3, a4] [] (vd_mf N g) Q = vd_wp d 212 220 [.ref 63, .int x1, .int x2, .int (vd_I 0), a4] [] (vd_mf N g) Q := by
  intro d Q
  rw [vd_S212_180 hN]
  simp (disch := omega) only [vd_S212_218 hN, h, vd_I_toInt, Int.lt_irrefl, if_false]
theorem vd_Z212 (hN : vd_SR N) {g : Nat → Nat → Int32} (hv : vd_FV s) (hs : vd_FSB s g) (x1 x2 x3 : Int32) (a4 : Value) : ∃ g', (∀ d Q, vd_wp d 212 180 [.ref 63, .int x1, .int x2, .int x3, a4] [] (vd_mf N g) Q = vd_wp d 212 220 [.ref 63, .int x1, .int x2, .int (vd_I 0), a4] [] (vd_mf N g') Q) ∧ (g' 120 0 = vd_I s.2.1.1 ∧ g' 121 0 = vd_I s.2.1.2 ∧ g' 120 1 = vd_I s.2.2.1 ∧ g' 121 1 = vd_I s.2.2.2) ∧ vd_gF g g' := by
  obtain ⟨v0, v1, v2, v3, v4⟩ := hv
  obtain ⟨s0, s1, s2⟩ := hs
  have z0 : ((0 : Nat) : Int) = 0 := rfl
  have z1 : ((1 : Nat) : Int) = 1 := rfl
  rcases v0 with c | c | c
  · rw [v3 c, v4 (by omega)]
    have t0 := vd_Z212s hN (g := g) (k := 0) (by omega) (by rw [s0, c, z0]) x1 x2 x3 a4
    have t1 := vd_Z212s hN (g := vd_up (vd_up (vd_up g 120 0 (vd_I 0)) 63 116 (vd_I ((0 + 1 : Nat) : Int))) 121 0 (vd_I 0)) (k := 1) (by omega) (by rw [vd_up_ne (by omega), vd_up_eq]) x1 x2 x3 a4
    have t2 := vd_Z212e hN (g := vd_up (vd_up (vd_up (vd_up (vd_up (vd_up g 120 0 (vd_I 0)) 63 116 (vd_I ((0 + 1 : Nat) : Int))) 121 0 (vd_I 0)) 120 1 (vd_I 0)) 63 116 (vd_I ((1 + 1 : Nat) : Int))) 121 1 (vd_I 0)) (by rw [vd_up_ne (by omega), vd_up_eq]; rfl) x1 x2 x3 a4
    refine ⟨_, fun d Q => (t0 d Q).trans ((t1 d Q).trans (t2 d Q)), ⟨?_, ?_, ?_, ?_⟩, fun c i q1 q2 q3 => ?_⟩
    · rw [vd_up_ne (by omega), vd_up_ne (by omega), vd_up_ne (by omega), vd_up_ne (by omega), vd_up_ne (by omega), vd_up_eq]
    · rw [vd_up_ne (by omega), vd_up_ne (by omega), vd_up_ne (by omega), vd_up_eq]
    · rw [vd_up_ne (by omega), vd_up_ne (by omega), vd_up_eq]
    · rw [vd_up_eq]
    · rw [vd_up_ne (by omega), vd_up_ne (by omega), vd_up_ne (by omega), vd_up_ne (by omega), vd_up_ne (by omega), vd_up_ne (by omega)]
  · obtain ⟨a1, a2⟩ := s1 (by omega)
    rw [v4 (by omega)]
    have t1 := vd_Z212s hN (g := g) (k := 1) (by omega) (by rw [s0, c, z1]) x1 x2 x3 a4
    have t2 := vd_Z212e hN (g := vd_up (vd_up (vd_up g 120 1 (vd_I 0)) 63 116 (vd_I ((1 + 1 : Nat) : Int))) 121 1 (vd_I 0)) (by rw [vd_up_ne (by omega), vd_up_eq]; rfl) x1 x2 x3 a4
    refine ⟨_, fun d Q => (t1 d Q).trans (t2 d Q), ⟨?_, ?_, ?_, ?_⟩, fun c i q1 q2 q3 => ?_⟩
    · rw [vd_up_ne (by omega), vd_up_ne (by omega), vd_up_ne (by omega)]; exact a1
    · rw [vd_up_ne (by omega), vd_up_ne (by omega), vd_up_ne (by omega)]; exact a2
    · rw [vd_up_ne (by omega), vd_up_ne (by omega), vd_up_eq]
    · rw [vd_up_eq]
    · rw [vd_up_ne (by omega), vd_up_ne (by omega), vd_up_ne (by omega)]
  · obtain ⟨a1, a2⟩ := s1 (by omega)
    obtain ⟨a3, a4'⟩ := s2 (by omega)
    exact ⟨g, vd_Z212e hN (by rw [s0, c]) x1 x2 x3 a4, ⟨a1, a2, a3, a4'⟩, fun _ _ _ _ _ => rfl⟩
theorem vd_N212a (hN : vd_SR N) {g : Nat → Nat → Int32} (hb : vd_by g x y w h) (h95 : g 63 95 = vd_I (8 * (x : Int))) (h96 : g 63 96 = vd_I (8 * (y : Int))) (hfi : g 63 34 = vd_I fi) (hf1 : fi = 0 ∨ fi = 1) (hpw : g 63 24 = vd_I pw) (hph : g 63 25 = vd_I ph) (p0 : 1 ≤ pw) (p1 : pw ≤ 192) (q0 : 1 ≤ ph) (q1 : ph ≤ 192) (hx : x < 24) (hy : y < 24) (hw : w ≤ 8) (hh : h ≤ 8) (v1 : g 120 0 = vd_I v.1) (v2 : g 121 0 = vd_I v.2) (hv : -20000 ≤ v.1 ∧ v.1 ≤ 20000 ∧ -20000 ≤ v.2 ∧ v.2 ≤ 20000) (x1 x2 : Int32) (a4 : Value) : ∃ g', (∀ d Q, vd_wp (d + 2) 212 220 [.ref 63, .int x1, .int x2, .int (vd_I 0), a4] [] (vd_mf N g) Q = vd_wp (d + 2) 212 220 [.ref 63, .int x1, .int x2, .int (vd_I 1), a4] [] (vd_mf N g') Q) ∧ (g' 120 0 = vd_I (vd_nz fi pw ph x y w h v).1 ∧ g' 121 0 = vd_I (vd_nz fi pw ph x y w h v).2) ∧ (∀ c i, ¬ ((c = 120 ∨ c = 121) ∧ i = 0) → g' c i = g c i) := by
  obtain ⟨b1, b2, b3, b4⟩ := hb
  have i0 : (0 : Int).toNat = 0 := rfl
  have i01 : (0 + 1 : Int) = 1 := by decide
  have nb1 := vd_nz1_b (fi := fi) hv
  have P194 := fun {a b c : Int} (a0 : -2147483648 ≤ a) (a1 : a < 2147483648) (b0 : -2147483648 ≤ b) (b1 : b < 2147483648) (c0 : -2147483648 ≤ c) (c1 : c < 2147483648) (f : Nat → Nat → Int32) (d : Nat) (Q : vd_M → (Option Value ⊕ Nat) → Prop) => vd_P194 (f := f) (d := d) (Q := Q) hN a0 a1 b0 b1 c0 c1
  have P216 := fun (f : Nat → Nat → Int32) (d : Nat) (Q : vd_M → (Option Value ⊕ Nat) → Prop) => vd_P216 (a := v.1) (b := v.2) (g := f) (d := d) (Q := Q) hN (by omega) (by omega) (by omega) (by omega)
  have P217a := fun (f : Nat → Nat → Int32) (d : Nat) (Q : vd_M → (Option Value ⊕ Nat) → Prop) => vd_P217 (a := v.1) (g := f) (d := d) (Q := Q) hN (by omega) (by omega)
  have P217b := fun (f : Nat → Nat → Int32) (d : Nat) (Q : vd_M → (Option Value ⊕ Nat) → Prop) => vd_P217 (a := v.2) (g := f) (d := d) (Q := Q) hN (by omega) (by omega)
  have tail : ∀ (f1 : Nat → Nat → Int32), f1 120 0 = vd_I (vd_nz1 fi v).1 → f1 121 0 = vd_I (vd_nz1 fi v).2 → (∀ i, f1 63 i = g 63 i) → ∀ d Q, vd_wp (d + 2) 212 281 [.ref 63, .int x1, .int x2, .int (vd_I 0), a4] [] (vd_mf N f1) Q = vd_wp (d + 2) 212 220 [.ref 63, .int x1, .int x2, .int (vd_I 1), a4] [] (vd_mf N (vd_up (vd_up f1 120 0 (vd_I (vd_nz fi pw ph x y w h v).1)) 121 0 (vd_I (vd_nz fi pw ph x y w h v).2))) Q := by
    intro f1 g1 g2 gc d Q
    have c1 : f1 63 24 = vd_I pw := by rw [gc]; exact hpw
    have c2 : f1 63 25 = vd_I ph := by rw [gc]; exact hph
    have c3 : f1 63 95 = vd_I (8 * (x : Int)) := by rw [gc]; exact h95
    have c4 : f1 63 96 = vd_I (8 * (y : Int)) := by rw [gc]; exact h96
    have c5 : f1 63 97 = vd_I (8 * (w : Int)) := by rw [gc]; exact b1
    have c6 : f1 63 98 = vd_I (8 * (h : Int)) := by rw [gc]; exact b2
    generalize hn1 : (vd_nz1 fi v).1 = n1 at *
    generalize hn2 : (vd_nz1 fi v).2 = n2 at *
    have hz : vd_nz fi pw ph x y w h v = (vd_wn n1 (-8 * (8 * (x : Int) + 8 * (w : Int) + 16)) (8 * (pw + 16 - 8 * (x : Int))), vd_wn n2 (-8 * (8 * (y : Int) + 8 * (h : Int) + 16)) (8 * (ph + 16 - 8 * (y : Int)))) := by unfold vd_nz; rw [hn1, hn2]
    rw [hz]
    simp (disch := omega) only [vd_S212_281 hN, vd_S212_291 hN, vd_S212_322 hN, vd_S212_325 hN, vd_S212_336 hN, vd_S212_367 hN, vd_S212_370 hN, vd_I_add, vd_I_sub, vd_I_mul, i0, i01, vd_up_at, vd_ua_at, Nat.reduceEqDiff, Nat.reduceAdd, Nat.reduceMul, and_false, false_and, and_true, true_and, and_self, if_true, if_false, reduceIte, ne_eq, not_false_eq_true, not_true_eq_false, eq_self, g1, g2, c1, c2, c3, c4, c5, c6, P194, vd_rs_v, vd_rs_n]
  by_cases c : fi = 1 ∧ vd_sml v.1 v.2 = 1
  · have en : vd_nz1 fi v = v := by unfold vd_nz1; rw [if_pos c]
    have t := tail g (by rw [en]; exact v1) (by rw [en]; exact v2) (fun _ => rfl)
    refine ⟨vd_up (vd_up g 120 0 (vd_I (vd_nz fi pw ph x y w h v).1)) 121 0 (vd_I (vd_nz fi pw ph x y w h v).2), fun d Q => ?_, ?_, ?_⟩
    rotate_left
    · exact ⟨by rw [vd_up_ne (by omega), vd_up_eq], vd_up_eq _ _ _ _⟩
    · intro c i q
      rw [vd_up_ne (by omega), vd_up_ne (by omega)]
    · rw [vd_S212_220 hN, ← t d Q]
      simp (disch := omega) only [vd_S212_225 hN, vd_S212_232 hN, vd_S212_238 hN, vd_S212_244 hN, vd_S212_245 hN, vd_S212_248 hN, vd_I_toInt, i0, hfi, c.1, v1, v2, P216, c.2, vd_rs_v, vd_rs_n, show (0 : Int) < 2 by decide, show ¬ ((1 : Int) = 0) by decide, if_true, if_false]
  · have en : vd_nz1 fi v = (vd_evn v.1, vd_evn v.2) := by unfold vd_nz1; rw [if_neg c]
    have t := tail (vd_up (vd_up g 120 0 (vd_I (vd_evn v.1))) 121 0 (vd_I (vd_evn v.2))) (by rw [en, vd_up_ne (by omega), vd_up_eq]) (by rw [en, vd_up_eq]) (fun i => by rw [vd_up_ne (by omega), vd_up_ne (by omega)])
    refine ⟨vd_up (vd_up (vd_up (vd_up g 120 0 (vd_I (vd_evn v.1))) 121 0 (vd_I (vd_evn v.2))) 120 0 (vd_I (vd_nz fi pw ph x y w h v).1)) 121 0 (vd_I (vd_nz fi pw ph x y w h v).2), fun d Q => ?_, ?_, ?_⟩
    rotate_left
    · exact ⟨by rw [vd_up_ne (by omega), vd_up_eq], vd_up_eq _ _ _ _⟩
    · intro c i q
      rw [vd_up_ne (by omega), vd_up_ne (by omega), vd_up_ne (by omega), vd_up_ne (by omega)]
    · rw [vd_S212_220 hN, ← t d Q]
      have go : ∀ d Q, vd_wp (d + 2) 212 251 [.ref 63, .int x1, .int x2, .int (vd_I 0), a4] [] (vd_mf N g) Q = vd_wp (d + 2) 212 281 [.ref 63, .int x1, .int x2, .int (vd_I 0), a4] [] (vd_mf N (vd_up (vd_up g 120 0 (vd_I (vd_evn v.1))) 121 0 (vd_I (vd_evn v.2)))) Q := fun d Q => by
        simp (disch := omega) only [vd_S212_251 hN, vd_S212_261 hN, vd_S212_262 hN, vd_S212_265 hN, vd_S212_276 hN, vd_S212_277 hN, vd_S212_280 hN, i0, v1, v2, P217a, P217b, vd_rs_v, vd_rs_n, vd_up_at, vd_ua_at, Nat.reduceEqDiff, Nat.reduceAdd, Nat.reduceMul, and_false, false_and, and_true, true_and, and_self, if_true, if_false, reduceIte, ne_eq, not_false_eq_true, not_true_eq_false, eq_self]
      rcases hf1 with c0 | c0
      · simp (disch := omega) only [vd_S212_225 hN, vd_I_toInt, hfi, c0, eq_self, show (0 : Int) < 2 by decide, if_true, go]
      · have c1 : vd_sml v.1 v.2 = 0 := by
          rcases vd_sml_b v.1 v.2 with q | q
          · exact q
          · exact absurd ⟨c0, q⟩ c
        simp (disch := omega) only [vd_S212_225 hN, vd_S212_232 hN, vd_S212_238 hN, vd_S212_244 hN, vd_S212_245 hN, vd_S212_248 hN, vd_I_toInt, i0, hfi, c0, v1, v2, P216, c1, vd_rs_v, vd_rs_n, show (0 : Int) < 2 by decide, show ¬ ((1 : Int) = 0) by decide, eq_self, if_true, if_false, go]
theorem vd_N212b (hN : vd_SR N) {g : Nat → Nat → Int32} (hb : vd_by g x y w h) (h95 : g 63 95 = vd_I (8 * (x : Int))) (h96 : g 63 96 = vd_I (8 * (y : Int))) (hfi : g 63 34 = vd_I fi) (hf1 : fi = 0 ∨ fi = 1) (hpw : g 63 24 = vd_I pw) (hph : g 63 25 = vd_I ph) (p0 : 1 ≤ pw) (p1 : pw ≤ 192) (q0 : 1 ≤ ph) (q1 : ph ≤ 192) (hx : x < 24) (hy : y < 24) (hw : w ≤ 8) (hh : h ≤ 8) (v1 : g 120 1 = vd_I v.1) (v2 : g 121 1 = vd_I v.2) (hv : -20000 ≤ v.1 ∧ v.1 ≤ 20000 ∧ -20000 ≤ v.2 ∧ v.2 ≤ 20000) (x1 x2 : Int32) (a4 : Value) : ∃ g', (∀ d Q, vd_wp (d + 2) 212 220 [.ref 63, .int x1, .int x2, .int (vd_I 1), a4] [] (vd_mf N g) Q = vd_wp (d + 2) 212 220 [.ref 63, .int x1, .int x2, .int (vd_I 2), a4] [] (vd_mf N g') Q) ∧ (g' 120 1 = vd_I (vd_nz fi pw ph x y w h v).1 ∧ g' 121 1 = vd_I (vd_nz fi pw ph x y w h v).2) ∧ (∀ c i, ¬ ((c = 120 ∨ c = 121) ∧ i = 1) → g' c i = g c i) := by
  obtain ⟨b1, b2, b3, b4⟩ := hb
  have i0 : (1 : Int).toNat = 1 := rfl
  have i01 : (1 + 1 : Int) = 2 := by decide
  have nb1 := vd_nz1_b (fi := fi) hv
  have P194 := fun {a b c : Int} (a0 : -2147483648 ≤ a) (a1 : a < 2147483648) (b0 : -2147483648 ≤ b) (b1 : b < 2147483648) (c0 : -2147483648 ≤ c) (c1 : c < 2147483648) (f : Nat → Nat → Int32) (d : Nat) (Q : vd_M → (Option Value ⊕ Nat) → Prop) => vd_P194 (f := f) (d := d) (Q := Q) hN a0 a1 b0 b1 c0 c1
  have P216 := fun (f : Nat → Nat → Int32) (d : Nat) (Q : vd_M → (Option Value ⊕ Nat) → Prop) => vd_P216 (a := v.1) (b := v.2) (g := f) (d := d) (Q := Q) hN (by omega) (by omega) (by omega) (by omega)
  have P217a := fun (f : Nat → Nat → Int32) (d : Nat) (Q : vd_M → (Option Value ⊕ Nat) → Prop) => vd_P217 (a := v.1) (g := f) (d := d) (Q := Q) hN (by omega) (by omega)
  have P217b := fun (f : Nat → Nat → Int32) (d : Nat) (Q : vd_M → (Option Value ⊕ Nat) → Prop) => vd_P217 (a := v.2) (g := f) (d := d) (Q := Q) hN (by omega) (by omega)
  have tail : ∀ (f1 : Nat → Nat → Int32), f1 120 1 = vd_I (vd_nz1 fi v).1 → f1 121 1 = vd_I (vd_nz1 fi v).2 → (∀ i, f1 63 i = g 63 i) → ∀ d Q, vd_wp (d + 2) 212 281 [.ref 63, .int x1, .int x2, .int (vd_I 1), a4] [] (vd_mf N f1) Q = vd_wp (d + 2) 212 220 [.ref 63, .int x1, .int x2, .int (vd_I 2), a4] [] (vd_mf N (vd_up (vd_up f1 120 1 (vd_I (vd_nz fi pw ph x y w h v).1)) 121 1 (vd_I (vd_nz fi pw ph x y w h v).2))) Q := by
    intro f1 g1 g2 gc d Q
    have c1 : f1 63 24 = vd_I pw := by rw [gc]; exact hpw
    have c2 : f1 63 25 = vd_I ph := by rw [gc]; exact hph
    have c3 : f1 63 95 = vd_I (8 * (x : Int)) := by rw [gc]; exact h95
    have c4 : f1 63 96 = vd_I (8 * (y : Int)) := by rw [gc]; exact h96
    have c5 : f1 63 97 = vd_I (8 * (w : Int)) := by rw [gc]; exact b1
    have c6 : f1 63 98 = vd_I (8 * (h : Int)) := by rw [gc]; exact b2
    generalize hn1 : (vd_nz1 fi v).1 = n1 at *
    generalize hn2 : (vd_nz1 fi v).2 = n2 at *
    have hz : vd_nz fi pw ph x y w h v = (vd_wn n1 (-8 * (8 * (x : Int) + 8 * (w : Int) + 16)) (8 * (pw + 16 - 8 * (x : Int))), vd_wn n2 (-8 * (8 * (y : Int) + 8 * (h : Int) + 16)) (8 * (ph + 16 - 8 * (y : Int)))) := by unfold vd_nz; rw [hn1, hn2]
    rw [hz]
    simp (disch := omega) only [vd_S212_281 hN, vd_S212_291 hN, vd_S212_322 hN, vd_S212_325 hN, vd_S212_336 hN, vd_S212_367 hN, vd_S212_370 hN, vd_I_add, vd_I_sub, vd_I_mul, i0, i01, vd_up_at, vd_ua_at, Nat.reduceEqDiff, Nat.reduceAdd, Nat.reduceMul, and_false, false_and, and_true, true_and, and_self, if_true, if_false, reduceIte, ne_eq, not_false_eq_true, not_true_eq_false, eq_self, g1, g2, c1, c2, c3, c4, c5, c6, P194, vd_rs_v, vd_rs_n]
  by_cases c : fi = 1 ∧ vd_sml v.1 v.2 = 1
  · have en : vd_nz1 fi v = v := by unfold vd_nz1; rw [if_pos c]
    have t := tail g (by rw [en]; exact v1) (by rw [en]; exact v2) (fun _ => rfl)
    refine ⟨vd_up (vd_up g 120 1 (vd_I (vd_nz fi pw ph x y w h v).1)) 121 1 (vd_I (vd_nz fi pw ph x y w h v).2), fun d Q => ?_, ?_, ?_⟩
    rotate_left
    · exact ⟨by rw [vd_up_ne (by omega), vd_up_eq], vd_up_eq _ _ _ _⟩
    · intro c i q
      rw [vd_up_ne (by omega), vd_up_ne (by omega)]
    · rw [vd_S212_220 hN, ← t d Q]
      simp (disch := omega) only [vd_S212_225 hN, vd_S212_232 hN, vd_S212_238 hN, vd_S212_244 hN, vd_S212_245 hN, vd_S212_248 hN, vd_I_toInt, i0, hfi, c.1, v1, v2, P216, c.2, vd_rs_v, vd_rs_n, show (1 : Int) < 2 by decide, show ¬ ((1 : Int) = 0) by decide, if_true, if_false]
  · have en : vd_nz1 fi v = (vd_evn v.1, vd_evn v.2) := by unfold vd_nz1; rw [if_neg c]
    have t := tail (vd_up (vd_up g 120 1 (vd_I (vd_evn v.1))) 121 1 (vd_I (vd_evn v.2))) (by rw [en, vd_up_ne (by omega), vd_up_eq]) (by rw [en, vd_up_eq]) (fun i => by rw [vd_up_ne (by omega), vd_up_ne (by omega)])
    refine ⟨vd_up (vd_up (vd_up (vd_up g 120 1 (vd_I (vd_evn v.1))) 121 1 (vd_I (vd_evn v.2))) 120 1 (vd_I (vd_nz fi pw ph x y w h v).1)) 121 1 (vd_I (vd_nz fi pw ph x y w h v).2), fun d Q => ?_, ?_, ?_⟩
    rotate_left
    · exact ⟨by rw [vd_up_ne (by omega), vd_up_eq], vd_up_eq _ _ _ _⟩
    · intro c i q
      rw [vd_up_ne (by omega), vd_up_ne (by omega), vd_up_ne (by omega), vd_up_ne (by omega)]
    · rw [vd_S212_220 hN, ← t d Q]
      have go : ∀ d Q, vd_wp (d + 2) 212 251 [.ref 63, .int x1, .int x2, .int (vd_I 1), a4] [] (vd_mf N g) Q = vd_wp (d + 2) 212 281 [.ref 63, .int x1, .int x2, .int (vd_I 1), a4] [] (vd_mf N (vd_up (vd_up g 120 1 (vd_I (vd_evn v.1))) 121 1 (vd_I (vd_evn v.2)))) Q := fun d Q => by
        simp (disch := omega) only [vd_S212_251 hN, vd_S212_261 hN, vd_S212_262 hN, vd_S212_265 hN, vd_S212_276 hN, vd_S212_277 hN, vd_S212_280 hN, i0, v1, v2, P217a, P217b, vd_rs_v, vd_rs_n, vd_up_at, vd_ua_at, Nat.reduceEqDiff, Nat.reduceAdd, Nat.reduceMul, and_false, false_and, and_true, true_and, and_self, if_true, if_false, reduceIte, ne_eq, not_false_eq_true, not_true_eq_false, eq_self]
      rcases hf1 with c0 | c0
      · simp (disch := omega) only [vd_S212_225 hN, vd_I_toInt, hfi, c0, eq_self, show (1 : Int) < 2 by decide, if_true, go]
      · have c1 : vd_sml v.1 v.2 = 0 := by
          rcases vd_sml_b v.1 v.2 with q | q
          · exact q
          · exact absurd ⟨c0, q⟩ c
        simp (disch := omega) only [vd_S212_225 hN, vd_S212_232 hN, vd_S212_238 hN, vd_S212_244 hN, vd_S212_245 hN, vd_S212_248 hN, vd_I_toInt, i0, hfi, c0, v1, v2, P216, c1, vd_rs_v, vd_rs_n, show (1 : Int) < 2 by decide, show ¬ ((1 : Int) = 0) by decide, eq_self, if_true, if_false, go]
end VDNZ2
