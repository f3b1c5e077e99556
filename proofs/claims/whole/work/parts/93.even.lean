/-! ===== what was found is made even and held near the picture ===== -/
def vd_nz1 (fi : Int) (v : Int × Int) : Int × Int := if fi = 1 ∧ vd_sml v.1 v.2 = 1 then v else (vd_evn v.1, vd_evn v.2)
def vd_nz (fi pw ph : Int) (x y w h : Nat) (v : Int × Int) : Int × Int := (vd_wn (vd_nz1 fi v).1 (-8 * (8 * (x : Int) + 8 * (w : Int) + 16)) (8 * (pw + 16 - 8 * (x : Int))), vd_wn (vd_nz1 fi v).2 (-8 * (8 * (y : Int) + 8 * (h : Int) + 16)) (8 * (ph + 16 - 8 * (y : Int))))
theorem vd_nz1_b {fi : Int} {v : Int × Int} (h : -20000 ≤ v.1 ∧ v.1 ≤ 20000 ∧ -20000 ≤ v.2 ∧ v.2 ≤ 20000) : (-20000 ≤ (vd_nz1 fi v).1 ∧ (vd_nz1 fi v).1 ≤ 20000) ∧ (-20000 ≤ (vd_nz1 fi v).2 ∧ (vd_nz1 fi v).2 ≤ 20000) := by
  unfold vd_nz1
  split
  · omega
  · exact ⟨vd_evn_b h.1 h.2.1, vd_evn_b h.2.2.1 h.2.2.2⟩
theorem vd_nz_b {fi pw ph : Int} {x y w h : Nat} {v : Int × Int} (p0 : 1 ≤ pw) (p1 : pw ≤ 192) (q0 : 1 ≤ ph) (q1 : ph ≤ 192) (hx : x < 24) (hy : y < 24) (hw : w ≤ 8) (hh : h ≤ 8) : (-2500 ≤ (vd_nz fi pw ph x y w h v).1 ∧ (vd_nz fi pw ph x y w h v).1 ≤ 2500) ∧ (-2500 ≤ (vd_nz fi pw ph x y w h v).2 ∧ (vd_nz fi pw ph x y w h v).2 ≤ 2500) := by
  have a := vd_wn_b (v := (vd_nz1 fi v).1) (lo := -8 * (8 * (x : Int) + 8 * (w : Int) + 16)) (hi := 8 * (pw + 16 - 8 * (x : Int))) (by omega)
  have b := vd_wn_b (v := (vd_nz1 fi v).2) (lo := -8 * (8 * (y : Int) + 8 * (h : Int) + 16)) (hi := 8 * (ph + 16 - 8 * (y : Int))) (by omega)
  unfold vd_nz
  omega
section VDNZ
variable {M N : vd_M} {ow fa lo lf nb : Nat} {x y w h : Nat} {fi pw ph : Int} {v : Int × Int}
theorem vd_sml_b (a b : Int) : vd_sml a b = 0 ∨ vd_sml a b = 1 := by
  unfold vd_sml
  split
  · exact Or.inr rfl
  · exact Or.inl rfl
theorem vd_evI {a : Int} (a0 : -20000 ≤ a) (a1 : a ≤ 20000) : vd_I a - (vd_I a - vd_I a / vd_I 2 * vd_I 2) = vd_I (vd_evn a) := by
  rw [vd_I_tdiv (by omega) (by omega) (by decide) (by decide), vd_I_mul, vd_I_sub, vd_I_sub]
  unfold vd_evn
  congr 1
  omega
theorem vd_N90a (hM : vd_SC M ow fa lo lf) {f : Nat → Nat → Int32} (hb : vd_bx f fa nb x y w h) (hfi : f 17 10 = vd_I fi) (hf1 : fi = 0 ∨ fi = 1) (hpw : f 37 0 = vd_I pw) (hph : f 37 1 = vd_I ph) (p0 : 1 ≤ pw) (p1 : pw ≤ 192) (q0 : 1 ≤ ph) (q1 : ph ≤ 192) (hn : nb < 576) (hx : x < 24) (hy : y < 24) (hw : w ≤ 8) (hh : h ≤ 8) (v1 : f 56 0 = vd_I v.1) (v2 : f 56 1 = vd_I v.2) (hv : -20000 ≤ v.1 ∧ v.1 ≤ 20000 ∧ -20000 ≤ v.2 ∧ v.2 ≤ 20000) (r p : Int32) (a7 a8 : Value) : ∃ f', (∀ d Q, vd_wp (d + 2) 90 168 [.ref 54, .int (vd_I (18 * (nb : Int))), .int r, .int (vd_I (x : Int)), .int (vd_I (y : Int)), .int p, .int (vd_I 0), a7, a8] [] (vd_mf M f) Q = vd_wp (d + 2) 90 168 [.ref 54, .int (vd_I (18 * (nb : Int))), .int r, .int (vd_I (x : Int)), .int (vd_I (y : Int)), .int p, .int (vd_I 2), a7, a8] [] (vd_mf M f') Q) ∧ (f' 56 0 = vd_I (vd_nz fi pw ph x y w h v).1 ∧ f' 56 1 = vd_I (vd_nz fi pw ph x y w h v).2) ∧ (∀ c i, ¬ (c = 56 ∧ (i = 0 ∨ i = 1)) → f' c i = f c i) := by
  obtain ⟨b1, b2, b3, b4⟩ := hb
  have pp : fa ≠ 56 := by
    have := hM.par
    omega
  have e2 : (18 * (nb : Int) + 2).toNat = 18 * nb + 2 := by omega
  have e3 : (18 * (nb : Int) + 3).toNat = 18 * nb + 3 := by omega
  have i0 : (0 : Int).toNat = 0 := rfl
  have i1 : (1 : Int).toNat = 1 := rfl
  have i01 : (0 + 1 : Int) = 1 := by decide
  have i02 : (0 + 2 : Int) = 2 := by decide
  have nb1 := vd_nz1_b (fi := fi) hv
  have P97 := fun {v x w p : Int} (v0 : -200000 ≤ v) (v1 : v ≤ 200000) (x0 : 0 ≤ x) (x1 : x ≤ 20000) (w0 : 0 ≤ w) (w1 : w ≤ 20000) (p0 : 0 ≤ p) (p1 : p ≤ 20000) (f : Nat → Nat → Int32) (d : Nat) (Q : vd_M → (Option Value ⊕ Nat) → Prop) => vd_P97 (f := f) (d := d) (Q := Q) hM v0 v1 x0 x1 w0 w1 p0 p1
  have P96 := fun (f : Nat → Nat → Int32) (d : Nat) (Q : vd_M → (Option Value ⊕ Nat) → Prop) => vd_P96 (a := v.1) (b := v.2) (f := f) (d := d) (Q := Q) hM (by omega) (by omega) (by omega) (by omega)
  have tail : ∀ (f1 : Nat → Nat → Int32), f1 56 0 = vd_I (vd_nz1 fi v).1 → f1 56 1 = vd_I (vd_nz1 fi v).2 → (∀ c i, c ≠ 56 → f1 c i = f c i) → ∀ d Q, vd_wp (d + 2) 90 248 [.ref 54, .int (vd_I (18 * (nb : Int))), .int r, .int (vd_I (x : Int)), .int (vd_I (y : Int)), .int p, .int (vd_I 0), a7, a8] [] (vd_mf M f1) Q = vd_wp (d + 2) 90 168 [.ref 54, .int (vd_I (18 * (nb : Int))), .int r, .int (vd_I (x : Int)), .int (vd_I (y : Int)), .int p, .int (vd_I 2), a7, a8] [] (vd_mf M (vd_up (vd_up f1 56 0 (vd_I (vd_nz fi pw ph x y w h v).1)) 56 1 (vd_I (vd_nz fi pw ph x y w h v).2))) Q := by
    intro f1 g1 g2 gc d Q
    have c2 : f1 fa (18 * nb + 2) = vd_I (w : Int) := by rw [gc _ _ pp]; exact b3
    have c3 : f1 fa (18 * nb + 3) = vd_I (h : Int) := by rw [gc _ _ pp]; exact b4
    have c4 : f1 37 0 = vd_I pw := by rw [gc _ _ (by decide)]; exact hpw
    have c5 : f1 37 1 = vd_I ph := by rw [gc _ _ (by decide)]; exact hph
    have c6 : ∀ q z, vd_up f1 56 0 z fa q = f1 fa q := fun q z => vd_up_ne (by omega)
    generalize hn1 : (vd_nz1 fi v).1 = n1 at *
    generalize hn2 : (vd_nz1 fi v).2 = n2 at *
    have hz : vd_nz fi pw ph x y w h v = (vd_wn n1 (-8 * (8 * (x : Int) + 8 * (w : Int) + 16)) (8 * (pw + 16 - 8 * (x : Int))), vd_wn n2 (-8 * (8 * (y : Int) + 8 * (h : Int) + 16)) (8 * (ph + 16 - 8 * (y : Int)))) := by unfold vd_nz; rw [hn1, hn2]
    rw [hz]
    simp (disch := omega) only [vd_S90_248 hM, vd_S90_260 hM, vd_S90_277 hM, vd_S90_286 hM, vd_S90_289 hM, vd_S90_306 hM, vd_S90_324 hM, vd_S90_333 hM, vd_S90_336 hM, vd_I_add, vd_I_mul, e2, e3, i0, i1, i01, i02, c6, vd_up_at, vd_ua_at, Nat.reduceEqDiff, Nat.reduceAdd, Nat.reduceMul, and_false, false_and, and_true, true_and, and_self, if_true, if_false, reduceIte, ne_eq, not_false_eq_true, not_true_eq_false, eq_self, g1, g2, c2, c3, c4, c5, P97, vd_rs_v, vd_rs_n]
  by_cases c : fi = 1 ∧ vd_sml v.1 v.2 = 1
  · have en : vd_nz1 fi v = v := by unfold vd_nz1; rw [if_pos c]
    have t := tail f (by rw [en]; exact v1) (by rw [en]; exact v2) (fun _ _ _ => rfl)
    refine ⟨vd_up (vd_up f 56 0 (vd_I (vd_nz fi pw ph x y w h v).1)) 56 1 (vd_I (vd_nz fi pw ph x y w h v).2), fun d Q => ?_, ?_, ?_⟩
    rotate_left
    · exact ⟨by rw [vd_up_ne (by omega), vd_up_eq], vd_up_eq _ _ _ _⟩
    · intro c i q
      rw [vd_up_ne (by omega), vd_up_ne (by omega)]
    · rw [vd_S90_168 hM, ← t d Q]
      simp (disch := omega) only [vd_S90_174 hM, vd_S90_184 hM, vd_S90_190 hM, vd_S90_199 hM, vd_S90_200 hM, vd_S90_203 hM, vd_I_add, vd_I_toInt, i0, i1, i01, hfi, c.1, v1, v2, P96, c.2, vd_rs_v, vd_rs_n, show (0 : Int) < 4 by decide, show ¬ ((1 : Int) = 0) by decide, if_true, if_false]
  · have en : vd_nz1 fi v = (vd_evn v.1, vd_evn v.2) := by unfold vd_nz1; rw [if_neg c]
    have t := tail (vd_up (vd_up f 56 0 (vd_I (vd_evn v.1))) 56 1 (vd_I (vd_evn v.2))) (by rw [en, vd_up_ne (by omega), vd_up_eq]) (by rw [en, vd_up_eq]) (fun c i q => by rw [vd_up_ne (by omega), vd_up_ne (by omega)])
    refine ⟨vd_up (vd_up (vd_up (vd_up f 56 0 (vd_I (vd_evn v.1))) 56 1 (vd_I (vd_evn v.2))) 56 0 (vd_I (vd_nz fi pw ph x y w h v).1)) 56 1 (vd_I (vd_nz fi pw ph x y w h v).2), fun d Q => ?_, ?_, ?_⟩
    rotate_left
    · exact ⟨by rw [vd_up_ne (by omega), vd_up_eq], vd_up_eq _ _ _ _⟩
    · intro c i q
      rw [vd_up_ne (by omega), vd_up_ne (by omega), vd_up_ne (by omega), vd_up_ne (by omega)]
    · rw [vd_S90_168 hM, ← t d Q]
      have go : ∀ d Q, vd_wp (d + 2) 90 206 [.ref 54, .int (vd_I (18 * (nb : Int))), .int r, .int (vd_I (x : Int)), .int (vd_I (y : Int)), .int p, .int (vd_I 0), a7, a8] [] (vd_mf M f) Q = vd_wp (d + 2) 90 248 [.ref 54, .int (vd_I (18 * (nb : Int))), .int r, .int (vd_I (x : Int)), .int (vd_I (y : Int)), .int p, .int (vd_I 0), a7, a8] [] (vd_mf M (vd_up (vd_up f 56 0 (vd_I (vd_evn v.1))) 56 1 (vd_I (vd_evn v.2)))) Q := fun d Q => by
        simp (disch := omega) only [vd_S90_206 hM, vd_S90_213 hM, vd_S90_220 hM, vd_S90_224 hM, vd_S90_234 hM, vd_S90_243 hM, vd_S90_247 hM, vd_I_add, i0, i1, i01, v1, v2, vd_evI, vd_up_at, vd_ua_at, Nat.reduceEqDiff, Nat.reduceAdd, Nat.reduceMul, and_false, false_and, and_true, true_and, and_self, if_true, if_false, reduceIte, ne_eq, not_false_eq_true, not_true_eq_false, eq_self]
      rcases hf1 with c0 | c0
      · simp (disch := omega) only [vd_S90_174 hM, vd_I_toInt, hfi, c0, eq_self, show (0 : Int) < 4 by decide, if_true, go]
      · have c1 : vd_sml v.1 v.2 = 0 := by
          rcases vd_sml_b v.1 v.2 with q | q
          · exact q
          · exact absurd ⟨c0, q⟩ c
        simp (disch := omega) only [vd_S90_174 hM, vd_S90_184 hM, vd_S90_190 hM, vd_S90_199 hM, vd_S90_200 hM, vd_S90_203 hM, vd_I_add, vd_I_toInt, i0, i1, i01, hfi, c0, v1, v2, P96, c1, vd_rs_v, vd_rs_n, show (0 : Int) < 4 by decide, show ¬ ((1 : Int) = 0) by decide, eq_self, if_true, if_false, go]
theorem vd_N90b (hM : vd_SC M ow fa lo lf) {f : Nat → Nat → Int32} (hb : vd_bx f fa nb x y w h) (hfi : f 17 10 = vd_I fi) (hf1 : fi = 0 ∨ fi = 1) (hpw : f 37 0 = vd_I pw) (hph : f 37 1 = vd_I ph) (p0 : 1 ≤ pw) (p1 : pw ≤ 192) (q0 : 1 ≤ ph) (q1 : ph ≤ 192) (hn : nb < 576) (hx : x < 24) (hy : y < 24) (hw : w ≤ 8) (hh : h ≤ 8) (v1 : f 56 2 = vd_I v.1) (v2 : f 56 3 = vd_I v.2) (hv : -20000 ≤ v.1 ∧ v.1 ≤ 20000 ∧ -20000 ≤ v.2 ∧ v.2 ≤ 20000) (r p : Int32) (a7 a8 : Value) : ∃ f', (∀ d Q, vd_wp (d + 2) 90 168 [.ref 54, .int (vd_I (18 * (nb : Int))), .int r, .int (vd_I (x : Int)), .int (vd_I (y : Int)), .int p, .int (vd_I 2), a7, a8] [] (vd_mf M f) Q = vd_wp (d + 2) 90 168 [.ref 54, .int (vd_I (18 * (nb : Int))), .int r, .int (vd_I (x : Int)), .int (vd_I (y : Int)), .int p, .int (vd_I 4), a7, a8] [] (vd_mf M f') Q) ∧ (f' 56 2 = vd_I (vd_nz fi pw ph x y w h v).1 ∧ f' 56 3 = vd_I (vd_nz fi pw ph x y w h v).2) ∧ (∀ c i, ¬ (c = 56 ∧ (i = 2 ∨ i = 3)) → f' c i = f c i) := by
  obtain ⟨b1, b2, b3, b4⟩ := hb
  have pp : fa ≠ 56 := by
    have := hM.par
    omega
  have e2 : (18 * (nb : Int) + 2).toNat = 18 * nb + 2 := by omega
  have e3 : (18 * (nb : Int) + 3).toNat = 18 * nb + 3 := by omega
  have i0 : (2 : Int).toNat = 2 := rfl
  have i1 : (3 : Int).toNat = 3 := rfl
  have i01 : (2 + 1 : Int) = 3 := by decide
  have i02 : (2 + 2 : Int) = 4 := by decide
  have nb1 := vd_nz1_b (fi := fi) hv
  have P97 := fun {v x w p : Int} (v0 : -200000 ≤ v) (v1 : v ≤ 200000) (x0 : 0 ≤ x) (x1 : x ≤ 20000) (w0 : 0 ≤ w) (w1 : w ≤ 20000) (p0 : 0 ≤ p) (p1 : p ≤ 20000) (f : Nat → Nat → Int32) (d : Nat) (Q : vd_M → (Option Value ⊕ Nat) → Prop) => vd_P97 (f := f) (d := d) (Q := Q) hM v0 v1 x0 x1 w0 w1 p0 p1
  have P96 := fun (f : Nat → Nat → Int32) (d : Nat) (Q : vd_M → (Option Value ⊕ Nat) → Prop) => vd_P96 (a := v.1) (b := v.2) (f := f) (d := d) (Q := Q) hM (by omega) (by omega) (by omega) (by omega)
  have tail : ∀ (f1 : Nat → Nat → Int32), f1 56 2 = vd_I (vd_nz1 fi v).1 → f1 56 3 = vd_I (vd_nz1 fi v).2 → (∀ c i, c ≠ 56 → f1 c i = f c i) → ∀ d Q, vd_wp (d + 2) 90 248 [.ref 54, .int (vd_I (18 * (nb : Int))), .int r, .int (vd_I (x : Int)), .int (vd_I (y : Int)), .int p, .int (vd_I 2), a7, a8] [] (vd_mf M f1) Q = vd_wp (d + 2) 90 168 [.ref 54, .int (vd_I (18 * (nb : Int))), .int r, .int (vd_I (x : Int)), .int (vd_I (y : Int)), .int p, .int (vd_I 4), a7, a8] [] (vd_mf M (vd_up (vd_up f1 56 2 (vd_I (vd_nz fi pw ph x y w h v).1)) 56 3 (vd_I (vd_nz fi pw ph x y w h v).2))) Q := by
    intro f1 g1 g2 gc d Q
    have c2 : f1 fa (18 * nb + 2) = vd_I (w : Int) := by rw [gc _ _ pp]; exact b3
    have c3 : f1 fa (18 * nb + 3) = vd_I (h : Int) := by rw [gc _ _ pp]; exact b4
    have c4 : f1 37 0 = vd_I pw := by rw [gc _ _ (by decide)]; exact hpw
    have c5 : f1 37 1 = vd_I ph := by rw [gc _ _ (by decide)]; exact hph
    have c6 : ∀ q z, vd_up f1 56 2 z fa q = f1 fa q := fun q z => vd_up_ne (by omega)
    generalize hn1 : (vd_nz1 fi v).1 = n1 at *
    generalize hn2 : (vd_nz1 fi v).2 = n2 at *
    have hz : vd_nz fi pw ph x y w h v = (vd_wn n1 (-8 * (8 * (x : Int) + 8 * (w : Int) + 16)) (8 * (pw + 16 - 8 * (x : Int))), vd_wn n2 (-8 * (8 * (y : Int) + 8 * (h : Int) + 16)) (8 * (ph + 16 - 8 * (y : Int)))) := by unfold vd_nz; rw [hn1, hn2]
    rw [hz]
    simp (disch := omega) only [vd_S90_248 hM, vd_S90_260 hM, vd_S90_277 hM, vd_S90_286 hM, vd_S90_289 hM, vd_S90_306 hM, vd_S90_324 hM, vd_S90_333 hM, vd_S90_336 hM, vd_I_add, vd_I_mul, e2, e3, i0, i1, i01, i02, c6, vd_up_at, vd_ua_at, Nat.reduceEqDiff, Nat.reduceAdd, Nat.reduceMul, and_false, false_and, and_true, true_and, and_self, if_true, if_false, reduceIte, ne_eq, not_false_eq_true, not_true_eq_false, eq_self, g1, g2, c2, c3, c4, c5, P97, vd_rs_v, vd_rs_n]
  by_cases c : fi = 1 ∧ vd_sml v.1 v.2 = 1
  · have en : vd_nz1 fi v = v := by unfold vd_nz1; rw [if_pos c]
    have t := tail f (by rw [en]; exact v1) (by rw [en]; exact v2) (fun _ _ _ => rfl)
    refine ⟨vd_up (vd_up f 56 2 (vd_I (vd_nz fi pw ph x y w h v).1)) 56 3 (vd_I (vd_nz fi pw ph x y w h v).2), fun d Q => ?_, ?_, ?_⟩
    rotate_left
    · exact ⟨by rw [vd_up_ne (by omega), vd_up_eq], vd_up_eq _ _ _ _⟩
    · intro c i q
      rw [vd_up_ne (by omega), vd_up_ne (by omega)]
    · rw [vd_S90_168 hM, ← t d Q]
      simp (disch := omega) only [vd_S90_174 hM, vd_S90_184 hM, vd_S90_190 hM, vd_S90_199 hM, vd_S90_200 hM, vd_S90_203 hM, vd_I_add, vd_I_toInt, i0, i1, i01, hfi, c.1, v1, v2, P96, c.2, vd_rs_v, vd_rs_n, show (2 : Int) < 4 by decide, show ¬ ((1 : Int) = 0) by decide, if_true, if_false]
  · have en : vd_nz1 fi v = (vd_evn v.1, vd_evn v.2) := by unfold vd_nz1; rw [if_neg c]
    have t := tail (vd_up (vd_up f 56 2 (vd_I (vd_evn v.1))) 56 3 (vd_I (vd_evn v.2))) (by rw [en, vd_up_ne (by omega), vd_up_eq]) (by rw [en, vd_up_eq]) (fun c i q => by rw [vd_up_ne (by omega), vd_up_ne (by omega)])
    refine ⟨vd_up (vd_up (vd_up (vd_up f 56 2 (vd_I (vd_evn v.1))) 56 3 (vd_I (vd_evn v.2))) 56 2 (vd_I (vd_nz fi pw ph x y w h v).1)) 56 3 (vd_I (vd_nz fi pw ph x y w h v).2), fun d Q => ?_, ?_, ?_⟩
    rotate_left
    · exact ⟨by rw [vd_up_ne (by omega), vd_up_eq], vd_up_eq _ _ _ _⟩
    · intro c i q
      rw [vd_up_ne (by omega), vd_up_ne (by omega), vd_up_ne (by omega), vd_up_ne (by omega)]
    · rw [vd_S90_168 hM, ← t d Q]
      have go : ∀ d Q, vd_wp (d + 2) 90 206 [.ref 54, .int (vd_I (18 * (nb : Int))), .int r, .int (vd_I (x : Int)), .int (vd_I (y : Int)), .int p, .int (vd_I 2), a7, a8] [] (vd_mf M f) Q = vd_wp (d + 2) 90 248 [.ref 54, .int (vd_I (18 * (nb : Int))), .int r, .int (vd_I (x : Int)), .int (vd_I (y : Int)), .int p, .int (vd_I 2), a7, a8] [] (vd_mf M (vd_up (vd_up f 56 2 (vd_I (vd_evn v.1))) 56 3 (vd_I (vd_evn v.2)))) Q := fun d Q => by
        simp (disch := omega) only [vd_S90_206 hM, vd_S90_213 hM, vd_S90_220 hM, vd_S90_224 hM, vd_S90_234 hM, vd_S90_243 hM, vd_S90_247 hM, vd_I_add, i0, i1, i01, v1, v2, vd_evI, vd_up_at, vd_ua_at, Nat.reduceEqDiff, Nat.reduceAdd, Nat.reduceMul, and_false, false_and, and_true, true_and, and_self, if_true, if_false, reduceIte, ne_eq, not_false_eq_true, not_true_eq_false, eq_self]
      rcases hf1 with c0 | c0
      · simp (disch := omega) only [vd_S90_174 hM, vd_I_toInt, hfi, c0, eq_self, show (2 : Int) < 4 by decide, if_true, go]
      · have c1 : vd_sml v.1 v.2 = 0 := by
          rcases vd_sml_b v.1 v.2 with q | q
          · exact q
          · exact absurd ⟨c0, q⟩ c
        simp (disch := omega) only [vd_S90_174 hM, vd_S90_184 hM, vd_S90_190 hM, vd_S90_199 hM, vd_S90_200 hM, vd_S90_203 hM, vd_I_add, vd_I_toInt, i0, i1, i01, hfi, c0, v1, v2, P96, c1, vd_rs_v, vd_rs_n, show (2 : Int) < 4 by decide, show ¬ ((1 : Int) = 0) by decide, eq_self, if_true, if_false, go]
end VDNZ
