/-! ===== numbers of a square: an amount is read, a number is put ===== -/
theorem vd_p14 : ∀ j : Nat, j < 15 → ((2 ^ j : Nat) : Int) = (2 : Int) ^ j ∧ 1 ≤ ((2 ^ j : Nat) : Int) ∧ ((2 ^ j : Nat) : Int) ≤ 16384 := by decide
section VDAM
variable {M N : vd_M} {ow fa lo lf : Nat} {f g : Nat → Nat → Int32} {n0 t : Nat} {mm : Int}
theorem vd_amt (hM : vd_SC M ow fa lo lf) (hN : vd_SR N) (h : vd_RD n0 f g) (hn : n0 + 31 ≤ 8000000) (m0 : 0 ≤ mm) (m1 : mm + 2 < 2913) (ht : t ≤ 1) : ∃ (f1 g1 : Nat → Nat → Int32) (am : Int), (∀ x1 x3 x4 x5 x6 x7 x8 x9 a11 a12, ∃ b12, ∀ d Q, vd_wp (d + 2) 115 194 [.ref 45, .int x1, .int (vd_I (t : Int)), .int x3, .int x4, .int x5, .int x6, .int x7, .int x8, .int x9, .int (vd_I mm), a11, a12] [] (vd_mf M f) Q = vd_wp (d + 2) 115 265 [.ref 45, .int x1, .int (vd_I (t : Int)), .int x3, .int x4, .int x5, .int x6, .int x7, .int x8, .int x9, .int (vd_I mm), .int (vd_I am), b12] [] (vd_mf M f1) Q) ∧ ((am = 0 ∧ ∀ x1 x2 x3 x4 x5 x6 o7 x9 x10 x11 x12 a14 d Q, vd_wp (d + 4) 239 279 [.ref 63, .int x1, .int x2, .int x3, .int x4, .int x5, .int x6, .ref o7, .int (vd_I (t : Int)), .int x9, .int x10, .int x11, .int x12, .int (vd_I mm), a14] [] (vd_mf N g) Q = vd_wp (d + 4) 239 408 [.ref 63, .int x1, .int x2, .int x3, .int x4, .int x5, .int x6, .ref o7, .int (vd_I (t : Int)), .int (vd_I 1), .int x10, .int x11, .int x12, .int (vd_I mm), a14] [] (vd_mf N g1) Q) ∨ (1 ≤ am ∧ am ≤ 32768 ∧ ∀ x1 x2 x3 x4 x5 x6 o7 x9 x10 x11 x12 a14 d Q, vd_wp (d + 4) 239 279 [.ref 63, .int x1, .int x2, .int x3, .int x4, .int x5, .int x6, .ref o7, .int (vd_I (t : Int)), .int x9, .int x10, .int x11, .int x12, .int (vd_I mm), a14] [] (vd_mf N g) Q = vd_wp (d + 4) 239 334 [.ref 63, .int x1, .int x2, .int x3, .int x4, .int x5, .int x6, .ref o7, .int (vd_I (t : Int)), .int (vd_I 0), .int x10, .int x11, .int x12, .int (vd_I mm), a14] [.int (vd_I am), .int x11, .ref 124] (vd_mf N g1) Q)) ∧ vd_RD (n0 + 30) f1 g1 ∧ vd_fD f f1 ∧ vd_gD g g1 := by
  obtain ⟨f1, g1, b2, p1, p2, pb, p3, p4, p5⟩ := vd_read hM hN (z := mm + 1) h (by omega) (by omega) (by omega)
  rcases pb with c | c
  · subst c
    refine ⟨f1, g1, 0, fun x1 x3 x4 x5 x6 x7 x8 x9 a11 a12 => ⟨a12, fun d Q => ?_⟩, Or.inl ⟨rfl, fun x1 x2 x3 x4 x5 x6 o7 x9 x10 x11 x12 a14 d Q => ?_⟩, p3.mono (by omega), p4, p5⟩
    · simp (disch := omega) only [vd_S115_194 hM, vd_S115_202 hM, vd_S115_205 hM, p1, vd_I_add, vd_I_toInt, show ¬ ((0 : Int) = 1) by decide, if_false, vd_rs_v, vd_rs_n]
    · simp (disch := omega) only [vd_S239_279 hN, vd_S239_284 hN, vd_S239_287 hN, vd_S239_290 hN, vd_S239_295 hN, vd_S239_302 hN, p2, vd_I_add, vd_I_toInt, eq_self, if_true, show ¬ ((1 : Int) = 0) by decide, if_false, vd_rs_v, vd_rs_n]
  · subst c
    obtain ⟨f2, g2, b3, q1, q2, qb, q3, q4, q5⟩ := vd_read hM hN (z := mm + 2) p3 (by omega) (by omega) (by omega)
    rcases qb with c | c
    · subst c
      refine ⟨f2, g2, 1, fun x1 x3 x4 x5 x6 x7 x8 x9 a11 a12 => ⟨a12, fun d Q => ?_⟩, Or.inr ⟨by decide, by decide, fun x1 x2 x3 x4 x5 x6 o7 x9 x10 x11 x12 a14 d Q => ?_⟩, q3.mono (by omega), p4.trans q4, p5.trans q5⟩
      · simp (disch := omega) only [vd_S115_194 hM, vd_S115_202 hM, vd_S115_205 hM, vd_S115_213 hM, vd_S115_221 hM, vd_S115_224 hM, p1, q1, vd_I_add, vd_I_toInt, show ¬ ((0 : Int) = 1) by decide, eq_self, if_true, if_false, vd_rs_v, vd_rs_n]
      · simp (disch := omega) only [vd_S239_279 hN, vd_S239_284 hN, vd_S239_287 hN, vd_S239_294 hN, vd_S239_295 hN, vd_S239_305 hN, vd_S239_316 hN, vd_S239_319 hN, vd_S239_322 hN, p2, q2, vd_I_add, vd_I_toInt, eq_self, if_true, show ¬ ((1 : Int) = 0) by decide, if_false, vd_rs_v, vd_rs_n]
    · subst c
      obtain ⟨f3, g3, u, r1, r2, u0, u1, r3, r4, r5⟩ := vd_ladder hM hN (z := 2913 + 14 * (t : Int)) (w := 14) (by omega) (by decide) (by decide) (by omega) (show n0 + 1 + 1 + (14 : Int).toNat ≤ 8000000 by omega) q3
      obtain ⟨un, rfl⟩ := Int.eq_ofNat_of_zero_le u0
      obtain ⟨f4, g4, rr, s1, s2, s3, s4, s5, s6, s7⟩ := vd_plain hM hN (w := (un : Int)) (by omega) (by omega) (show n0 + 1 + 1 + (14 : Int).toNat + ((un : Nat) : Int).toNat ≤ 8000000 by omega) r3
      have pw := vd_p14 un (by omega)
      rw [Int.toNat_natCast, ← pw.1] at s4
      have sh : vd_I 1 <<< (vd_I ((un : Nat) : Int) &&& 31) = vd_I ((2 ^ un : Nat) : Int) := by
        rw [vd_I_shl 1 (by omega), Int.one_mul]
      generalize ((2 ^ un : Nat) : Int) = pp at *
      refine ⟨f4, g4, 1 + pp + rr, fun x1 x3 x4 x5 x6 x7 x8 x9 a11 a12 => ⟨.int (vd_I (un : Int)), fun d Q => ?_⟩, Or.inr ⟨by omega, by omega, fun x1 x2 x3 x4 x5 x6 o7 x9 x10 x11 x12 a14 d Q => ?_⟩, s5.mono (by omega), ((p4.trans q4).trans r4).trans s6.toD, ((p5.trans q5).trans r5).trans s7.toD⟩
      · simp (disch := omega) only [vd_S115_194 hM, vd_S115_202 hM, vd_S115_205 hM, vd_S115_213 hM, vd_S115_221 hM, vd_S115_224 hM, vd_S115_228 hM, vd_S115_242 hM, vd_S115_245 hM, vd_S115_259 hM, vd_S115_262 hM, p1, q1, r1, s1, sh, vd_I_add, vd_I_mul, vd_I_toInt, eq_self, if_true, vd_rs_v, vd_rs_n]
      · have e : 2 + (pp - 1 + rr) = 1 + pp + rr := by omega
        simp (disch := omega) only [vd_S239_279 hN, vd_S239_284 hN, vd_S239_287 hN, vd_S239_294 hN, vd_S239_295 hN, vd_S239_305 hN, vd_S239_316 hN, vd_S239_319 hN, vd_S239_326 hN, vd_S239_330 hN, vd_S244_0 hN, vd_S244_11 hN, vd_S244_14 hN, vd_S244_22 hN, vd_S244_25 hN, vd_S239_333 hN, p2, q2, r2, s2, sh, vd_I_add, vd_I_sub, vd_I_mul, vd_I_toInt, eq_self, if_true, show ¬ ((1 : Int) = 0) by decide, if_false, e, vd_rs_v, vd_rs_n]
end VDAM
section VDPT
variable {M N : vd_M} {ow fa lo lf W H : Nat} {O : Nat → Nat → Option Nat} {B : Nat → Nat → Int} {K : Nat → Nat → Nat → Int} {X : Nat → Nat → Int} {pl s sg o off os x y : Nat} {sc : Nat → Nat} {f g : Nat → Nat → Int32}
def vd_qj (pl k : Nat) : Nat := (if pl = 0 then 0 else 2) + (if k = 0 then 0 else 1)
theorem vd_qj_b (pl k : Nat) : vd_qj pl k < 4 := by
  unfold vd_qj
  split <;> split <;> decide
/-- a number that is not 0: its sign, its place -/
theorem vd_putN (hM : vd_SC M ow fa lo lf) (hN : vd_SR N) (hx : vd_NX W H O B K X pl s sg o off os x y sc f g) (hc : vd_NCt N W H O K X pl s sg o off os x y sc) {n0 k : Nat} (h : vd_RD n0 f g) (hn : n0 + 1 ≤ 8000000) {am lr lc : Int} (a0 : 1 ≤ am) (a1 : am ≤ 32768) (hk : k < vd_sn s * vd_sn s) (hr : f 45 15 = vd_I lr) (hcl : f 45 16 = vd_I lc) (r0 : 0 ≤ lr ∧ lr < (vd_sn s : Int)) (c0 : 0 ≤ lc ∧ lc < (vd_sn s : Int)) (hcnt : f 45 3 = g 63 47) : ∃ (f' g' : Nat → Nat → Int32) (v : Int), (∀ x1 x2 x3 x4 x5 x6 x7 x9 x10 a12 d Q, vd_wp (d + 2) 115 265 [.ref 45, .int x1, .int x2, .int x3, .int x4, .int x5, .int x6, .int x7, .int (vd_I (k : Int)), .int x9, .int x10, .int (vd_I am), a12] [] (vd_mf M f) Q = vd_wp (d + 2) 115 317 [.ref 45, .int x1, .int x2, .int x3, .int x4, .int x5, .int (vd_I 0), .int x7, .int (vd_I (k : Int)), .int x9, .int x10, .int (vd_I am), a12] [] (vd_mf M f') Q) ∧ (∀ x2 x3 x4 x5 x6 o7 x8 x9 x10 x12 x13 a14, ∃ b14, ∀ d Q, vd_wp (d + 4) 239 334 [.ref 63, .int (vd_I (pl : Int)), .int x2, .int x3, .int x4, .int x5, .int x6, .ref o7, .int x8, .int x9, .int x10, .int (vd_I (k : Int)), .int x12, .int x13, a14] [.int (vd_I am), .int (vd_I (k : Int)), .ref 124] (vd_mf N g) Q = vd_wp (d + 4) 239 408 [.ref 63, .int (vd_I (pl : Int)), .int x2, .int x3, .int x4, .int x5, .int x6, .ref o7, .int x8, .int x9, .int x10, .int (vd_I (k : Int)), .int x12, .int x13, b14] [] (vd_mf N g') Q) ∧ (-32768 ≤ v ∧ v ≤ 32767) ∧ vd_RD (n0 + 1) f' g' ∧ (f' 48 k = vd_I am ∧ f' 49 k = vd_I v ∧ f' 45 15 = vd_I (max lr ((k / vd_sn s : Nat) : Int)) ∧ f' 45 16 = vd_I (max lc ((k % vd_sn s : Nat) : Int))) ∧ (g' 124 k = vd_I am ∧ g' 123 k = vd_I v) ∧ f' 45 3 = g' 63 47 ∧ (∀ j, j ≠ k → f' 48 j = f 48 j ∧ f' 49 j = f 49 j ∧ g' 124 j = g 124 j ∧ g' 123 j = g 123 j) ∧ vd_fN f f' ∧ vd_gN g g' := by
  obtain ⟨hX, ⟨w1, w2⟩, ⟨hpl, hs, hsg, ho⟩, hoff, ⟨os1, _⟩, _⟩ := id hc
  have nb := vd_nnb hs
  -- the amount is noted
  have h1 : vd_RD n0 (vd_up f 48 k (vd_I am)) (vd_up (vd_up g 124 k (vd_I am)) 63 47 (g 63 47 + vd_I 1)) := h.keep (fun c i q => vd_up_ne (by omega)) (fun c i q => by rw [vd_up_ne (by omega), vd_up_ne (by omega)])
  obtain ⟨f3, g3, r, p1, p2, p3, p4, p5, p6, p7⟩ := vd_plain hM hN (w := 1) (by decide) (by decide) (show n0 + (1 : Int).toNat ≤ 8000000 from hn) h1
  rw [vd_pow1] at p4
  have F3 : ∀ c i, ¬ (c = 34 ∧ 4 ≤ i) → ¬ (c = 48 ∧ i = k) → f3 c i = f c i := fun c i a b => by rw [p6 c i a, vd_up_ne b]
  have G3 : ∀ c i, ¬ (c = 63 ∧ 91 ≤ i ∧ i ≤ 94) → ¬ (c = 124 ∧ i = k) → ¬ (c = 63 ∧ i = 47) → g3 c i = g c i := fun c i a b e => by rw [p7 c i a, vd_up_ne e, vd_up_ne b]
  have fN3 : vd_fN f f3 := fun c i a1 a2 a3 a4 a5 => F3 c i (by omega) (by omega)
  have gN3 : vd_gN g g3 := fun c i a1 a2 a3 a4 a5 => G3 c i (by omega) (by omega) (by omega)
  have hx3 := hx.keep os1 fN3 gN3
  obtain ⟨⟨⟨f11, f12, f13, f14⟩, st, fq, fs, fk⟩, gB, g103, g111, _⟩ := hx3
  have qb := vd_qn_b hX sg (vd_qj pl k)
  have fqj := fq (vd_qj pl k) (vd_qj_b pl k)
  have r01 : r = 0 ∨ r = 1 := by omega
  -- the quantiser
  have ej : (if pl = 0 then (if (if k = 0 then (1 : Int) else 0) = 1 then 0 else 1) else (if (if k = 0 then (1 : Int) else 0) = 1 then 2 else 3)) = vd_qj pl k := by
    unfold vd_qj
    by_cases cp : pl = 0 <;> by_cases ck : k = 0 <;> simp only [cp, ck, if_true, if_false, eq_self, show ¬ ((0 : Int) = 1) by decide]
  have P245 := fun (d : Nat) (Q : vd_M → (Option Value ⊕ Nat) → Prop) => vd_P245 (g := g3) (fi := if k = 0 then 1 else 0) hN hX gB g103 hsg hpl (by split; exact Or.inr rfl; exact Or.inl rfl) d Q
  rw [ej] at P245
  generalize vd_qn X sg (vd_qj pl k) = qn at *
  have main : ∀ v0 : Int, (v0 = am ∨ v0 = -am) → -52000000 ≤ v0 * qn ∧ v0 * qn ≤ 52000000 := fun v0 hv => by
    have h1 : v0 * qn ≤ 40000 * qn := Int.mul_le_mul_of_nonneg_right (by omega) (by omega)
    have h2 : -40000 * qn ≤ v0 * qn := Int.mul_le_mul_of_nonneg_right (by omega) (by omega)
    omega
  obtain ⟨v0, hv0, hv1⟩ : ∃ v0 : Int, (r = 1 ∧ v0 = -am ∨ r = 0 ∧ v0 = am) ∧ (v0 = am ∨ v0 = -am) := by
    rcases r01 with c | c
    · exact ⟨am, Or.inr ⟨c, rfl⟩, Or.inl rfl⟩
    · exact ⟨-am, Or.inl ⟨c, rfl⟩, Or.inr rfl⟩
  have vb := main v0 hv1
  have P122 := fun (d : Nat) (Q : vd_M → (Option Value ⊕ Nat) → Prop) => vd_P122 (f := f3) (v := v0) (qn := qn) (lr := lr) (lc := lc) hM hpl hs f11 f14 hk (by omega) fqj qb (by rw [F3 _ _ (by omega) (by omega)]; exact hr) (by rw [F3 _ _ (by omega) (by omega)]; exact hcl) (by omega) (by omega) d Q
  have P194 := fun (g : Nat → Nat → Int32) (d : Nat) (Q : vd_M → (Option Value ⊕ Nat) → Prop) => vd_P194 (a := v0 * qn) (b := -32768) (c := 32767) (f := g) (d := d) (Q := Q) hN (by omega) (by omega) (by omega) (by omega) (by omega) (by omega)
  have wb := vd_wn_b (v := v0 * qn) (lo := -32768) (hi := 32767) (by decide)
  have f33 : f3 45 3 = f 45 3 := F3 _ _ (by omega) (by omega)
  have g347 : g3 63 47 = g 63 47 + vd_I 1 := by rw [p7 _ _ (by omega), vd_up_eq]
  have g3k : g3 124 k = vd_I am := by rw [p7 _ _ (by omega), vd_up_ne (by omega), vd_up_eq]
  generalize vd_wn (v0 * qn) (-32768) 32767 = v at *
  have d1 : (k : Int) / 1 = (k : Int) := Int.ediv_one _
  refine ⟨vd_up (vd_up (vd_up (vd_up f3 49 k (vd_I v)) 45 15 (vd_I (max lr ((k / vd_sn s : Nat) : Int)))) 45 16 (vd_I (max lc ((k % vd_sn s : Nat) : Int)))) 45 3 (f3 45 3 + vd_I 1), vd_up g3 123 k (vd_I v), v, fun x1 x2 x3 x4 x5 x6 x7 x9 x10 a12 d Q => ?_, fun x2 x3 x4 x5 x6 o7 x8 x9 x10 x12 x13 a14 => ⟨.int (vd_I v0), fun d Q => ?_⟩, wb, ?_, ⟨?_, ?_, ?_, ?_⟩, ⟨?_, ?_⟩, ?_, fun j hj => ⟨?_, ?_, ?_, ?_⟩, fun c i a1 a2 a3 a4 a5 => ?_, fun c i a1 a2 a3 a4 a5 => ?_⟩
  · have am0 : ¬ (am = 0) := by omega
    rcases hv0 with ⟨c, e⟩ | ⟨c, e⟩
    · subst c
      rw [e] at P122
      simp (disch := omega) only [vd_S115_265 hM, vd_S115_273 hM, vd_S115_283 hM, vd_S115_284 hM, vd_S115_291 hM, vd_S115_299 hM, vd_S115_302 hM, vd_S115_306 hM, vd_S115_314 hM, Int.toNat_natCast, p1, P122, am0, vd_I_toInt, vd_I_neg, eq_self, if_true, if_false, vd_rs_v, vd_rs_n]
    · subst c
      rw [e] at P122
      simp (disch := omega) only [vd_S115_265 hM, vd_S115_273 hM, vd_S115_283 hM, vd_S115_284 hM, vd_S115_291 hM, vd_S115_299 hM, vd_S115_302 hM, vd_S115_312 hM, vd_S115_314 hM, Int.toNat_natCast, p1, P122, am0, vd_I_toInt, show ¬ ((0 : Int) = 1) by decide, if_false, vd_rs_v, vd_rs_n]
  · have fin : ∀ vv, vv = v0 → vd_wp (d + 4) 239 372 [.ref 63, .int (vd_I (pl : Int)), .int x2, .int x3, .int x4, .int x5, .int x6, .ref o7, .int x8, .int x9, .int x10, .int (vd_I (k : Int)), .int x12, .int x13, a14] [.int (vd_I vv)] (vd_mf N g3) Q = vd_wp (d + 4) 239 408 [.ref 63, .int (vd_I (pl : Int)), .int x2, .int x3, .int x4, .int x5, .int x6, .ref o7, .int x8, .int x9, .int x10, .int (vd_I (k : Int)), .int x12, .int x13, .int (vd_I v0)] [] (vd_mf N (vd_up g3 123 k (vd_I v))) Q := fun vv e => by
      rw [e]
      by_cases ck : k = 0
      · rw [if_pos ck] at P245
        have ck2 : (vd_I ((k : Nat) : Int)).toInt = 0 := by rw [vd_I_toInt (by omega) (by omega)]; omega
        simp (disch := omega) only [vd_S239_372 hN, vd_S239_389 hN, vd_S239_394 hN, vd_S239_397 hN, vd_S239_404 hN, vd_S239_407 hN, P245, P194, ck2, eq_self, if_true, vd_I_mul, Int.toNat_natCast, vd_rs_v, vd_rs_n]
      · rw [if_neg ck] at P245
        have ck2 : ¬ ((vd_I ((k : Nat) : Int)).toInt = 0) := by rw [vd_I_toInt (by omega) (by omega)]; omega
        simp (disch := omega) only [vd_S239_372 hN, vd_S239_393 hN, vd_S239_394 hN, vd_S239_397 hN, vd_S239_404 hN, vd_S239_407 hN, P245, P194, ck2, if_false, vd_I_mul, Int.toNat_natCast, vd_rs_v, vd_rs_n]
    rcases hv0 with ⟨c, e⟩ | ⟨c, e⟩
    · rw [← fin (-am) e.symm]
      subst c
      simp (disch := omega) only [vd_S239_334 hN, vd_S239_347 hN, vd_S239_350 hN, vd_S239_354 hN, vd_S239_360 hN, Int.toNat_natCast, vd_up_ne (show ¬ ((63 : Nat) = 124 ∧ (47 : Nat) = k) by omega), p2, g3k, vd_I_toInt, vd_I_neg, eq_self, if_true, vd_rs_v, vd_rs_n]
    · rw [← fin am e.symm]
      subst c
      simp (disch := omega) only [vd_S239_334 hN, vd_S239_347 hN, vd_S239_350 hN, vd_S239_365 hN, vd_S239_371 hN, Int.toNat_natCast, vd_up_ne (show ¬ ((63 : Nat) = 124 ∧ (47 : Nat) = k) by omega), p2, g3k, vd_I_toInt, show ¬ ((0 : Int) = 1) by decide, if_false, vd_rs_v, vd_rs_n]
  · exact p5.keep (fun c i q => by rw [vd_up_ne (by omega), vd_up_ne (by omega), vd_up_ne (by omega), vd_up_ne (by omega)]) (fun c i q => vd_up_ne (by omega))
  · rw [vd_up_ne (by omega), vd_up_ne (by omega), vd_up_ne (by omega), vd_up_ne (by omega), p6 _ _ (by omega), vd_up_eq]
  · rw [vd_up_ne (by omega), vd_up_ne (by omega), vd_up_ne (by omega), vd_up_eq]
  · rw [vd_up_ne (by omega), vd_up_ne (by omega), vd_up_eq]
  · rw [vd_up_ne (by omega), vd_up_eq]
  · rw [vd_up_ne (by omega)]; exact g3k
  · rw [vd_up_eq]
  · rw [vd_up_eq, vd_up_ne (by omega), f33, g347, hcnt]
  · rw [vd_up_ne (by omega), vd_up_ne (by omega), vd_up_ne (by omega), vd_up_ne (by omega), F3 _ _ (by omega) (by omega)]
  · rw [vd_up_ne (by omega), vd_up_ne (by omega), vd_up_ne (by omega), vd_up_ne (by omega), F3 _ _ (by omega) (by omega)]
  · rw [vd_up_ne (by omega), G3 _ _ (by omega) (by omega) (by omega)]
  · rw [vd_up_ne (by omega), G3 _ _ (by omega) (by omega) (by omega)]
  · rw [vd_up_ne (by omega), vd_up_ne (by omega), vd_up_ne (by omega), vd_up_ne (by omega), F3 _ _ (by omega) (by omega)]
  · rw [vd_up_ne (by omega), G3 _ _ (by omega) (by omega) (by omega)]
end VDPT
