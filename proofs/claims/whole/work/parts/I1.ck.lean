/-! ===== the face: check ===== -/
def vd_shr (x : Int32) (n : Int) : Int32 := (x.toUInt32 >>> ((vd_I n).toUInt32 &&& Int32.toUInt32 31)).toInt32
theorem vd_shrB1 (x : Int32) : (vd_shr x 1).toBitVec = x.toBitVec >>> 1 := by
  first
    | rfl
    | exact congrArg (fun n : Nat => x.toBitVec >>> n) (show ((vd_I 1).toUInt32 &&& Int32.toUInt32 31).toBitVec.toNat % 32 = 1 by decide)
theorem vd_shrB8 (x : Int32) : (vd_shr x 8).toBitVec = x.toBitVec >>> 8 := by
  first
    | rfl
    | exact congrArg (fun n : Nat => x.toBitVec >>> n) (show ((vd_I 8).toUInt32 &&& Int32.toUInt32 31).toBitVec.toNat % 32 = 8 by decide)
theorem vd_xorB (x y : Int32) : (x ^^^ y).toBitVec = x.toBitVec ^^^ y.toBitVec := by first | rfl | simp
theorem vd_andB (x y : Int32) : (x &&& y).toBitVec = x.toBitVec &&& y.toBitVec := by first | rfl | simp
theorem vd_bit0 (x : Int32) : (x &&& vd_I 1).toInt = 0 ↔ x.toBitVec.getLsbD 0 = false := by
  have e : (x &&& vd_I 1).toBitVec = x.toBitVec &&& 1#32 := vd_andB x _
  have e0 : ((x &&& vd_I 1).toInt = 0) ↔ (x &&& vd_I 1) = vd_I 0 := by
    constructor
    · intro h; exact Int32.toInt.inj (h.trans (by decide))
    · intro h; rw [h]; decide
  rw [e0]
  constructor
  · intro h
    have h2 : (x.toBitVec &&& 1#32) = 0#32 := by rw [← e, h]; rfl
    have h3 : (x.toBitVec &&& 1#32).getLsbD 0 = (0#32 : BitVec 32).getLsbD 0 := by rw [h2]
    rw [BitVec.getLsbD_and] at h3
    have h4 : (1#32 : BitVec 32).getLsbD 0 = true := by decide
    have h5 : (0#32 : BitVec 32).getLsbD 0 = false := by decide
    rw [h4, h5, Bool.and_true] at h3
    exact h3
  · intro h
    apply Int32.toBitVec.inj
    rw [e]
    apply BitVec.eq_of_getLsbD_eq
    intro i hi
    rw [BitVec.getLsbD_and]
    by_cases c : i = 0
    · subst c; rw [h]; rfl
    · have q : (1#32 : BitVec 32).getLsbD i = false := (show ∀ i, i < 32 → i ≠ 0 → (1#32 : BitVec 32).getLsbD i = false by decide) i hi c
      rw [q, Bool.and_false]
      exact ((show ∀ i, i < 32 → ((vd_I 0).toBitVec).getLsbD i = false by decide) i hi).symm
theorem vd_crs_lin {y : Int32} (z : Int32) (h : y.toBitVec.getLsbD 0 = false) : (vd_crs (y ^^^ z)).toBitVec = (y.toBitVec >>> 1) ^^^ (vd_crs z).toBitVec := by
  have hz : ((y ^^^ z) &&& vd_I 1).toInt = 0 ↔ (z &&& vd_I 1).toInt = 0 := by
    rw [vd_bit0, vd_bit0, vd_xorB, BitVec.getLsbD_xor, h, Bool.false_xor]
  have e : ∀ x, vd_crs x = if (x &&& vd_I 1).toInt = 0 then vd_shr x 1 else vd_shr x 1 ^^^ vd_I (-306674912) := fun _ => rfl
  rw [e (y ^^^ z), e z]
  by_cases c : (z &&& vd_I 1).toInt = 0
  · rw [if_pos c, if_pos (hz.mpr c)]
    simp only [vd_shrB1, vd_xorB, BitVec.ushiftRight_xor_distrib]
  · rw [if_neg c, if_neg (fun q => c (hz.mp q))]
    simp only [vd_shrB1, vd_xorB, BitVec.ushiftRight_xor_distrib, BitVec.xor_assoc]
theorem vd_cr_lin (n : Nat) : ∀ y z : Int32, (∀ i, i < n → y.toBitVec.getLsbD i = false) → (vd_cr n (y ^^^ z)).toBitVec = (y.toBitVec >>> n) ^^^ (vd_cr n z).toBitVec := by
  induction n with
  | zero =>
    intro y z _
    have q : y.toBitVec >>> 0 = y.toBitVec := by first | rfl | simp
    show (y ^^^ z).toBitVec = (y.toBitVec >>> 0) ^^^ z.toBitVec
    rw [vd_xorB, q]
  | succ n ih =>
    intro y z h
    show (vd_cr n (vd_crs (y ^^^ z))).toBitVec = (y.toBitVec >>> (n + 1)) ^^^ (vd_cr n (vd_crs z)).toBitVec
    have e : vd_crs (y ^^^ z) = vd_shr y 1 ^^^ vd_crs z := Int32.toBitVec.inj (by rw [vd_crs_lin z (h 0 (by omega)), vd_xorB, vd_shrB1])
    rw [e, ih (vd_shr y 1) (vd_crs z) (fun i hi => by rw [vd_shrB1, BitVec.getLsbD_ushiftRight]; exact h (1 + i) (by omega)), vd_shrB1, ← BitVec.shiftRight_add, Nat.add_comm 1 n]
theorem vd_cr8 (x : Int32) : vd_cr 8 x = vd_shr x 8 ^^^ vd_cr 8 (x &&& vd_I 255) := by
  have hx : x = (x &&& vd_I (-256)) ^^^ (x &&& vd_I 255) := by
    apply Int32.toBitVec.inj
    apply BitVec.eq_of_getLsbD_eq
    intro i hi
    rw [vd_xorB, vd_andB, vd_andB, BitVec.getLsbD_xor, BitVec.getLsbD_and, BitVec.getLsbD_and]
    have q := (show ∀ i, i < 32 → (vd_I (-256)).toBitVec.getLsbD i = !((vd_I 255).toBitVec.getLsbD i) by decide) i hi
    rw [q]
    generalize x.toBitVec.getLsbD i = u
    generalize (vd_I 255).toBitVec.getLsbD i = v
    cases u <;> cases v <;> rfl
  have low : ∀ i, i < 8 → (x &&& vd_I (-256)).toBitVec.getLsbD i = false := fun i hi => by
    rw [vd_andB, BitVec.getLsbD_and, (show ∀ i, i < 8 → (vd_I (-256)).toBitVec.getLsbD i = false by decide) i hi, Bool.and_false]
  apply Int32.toBitVec.inj
  have p := vd_cr_lin 8 (x &&& vd_I (-256)) (x &&& vd_I 255) low
  rw [← hx] at p
  rw [p, vd_xorB, vd_shrB8]
  congr 1
  apply BitVec.eq_of_getLsbD_eq
  intro i hi
  rw [BitVec.getLsbD_ushiftRight, BitVec.getLsbD_ushiftRight, vd_andB, BitVec.getLsbD_and]
  by_cases c : 8 + i < 32
  · rw [(show ∀ i, i < 32 → 8 ≤ i → (vd_I (-256)).toBitVec.getLsbD i = true by decide) (8 + i) c (by omega), Bool.and_true]
  · rw [BitVec.getLsbD_of_ge x.toBitVec (8 + i) (by omega), Bool.false_and]
theorem vd_shr8s (c : Int32) {k : Int} (k0 : 0 ≤ k) (k1 : k ≤ 255) : vd_shr (c ^^^ vd_I k) 8 = vd_shr c 8 := by
  apply Int32.toBitVec.inj
  obtain ⟨n, rfl⟩ : ∃ n : Nat, k = (n : Int) := ⟨k.toNat, by omega⟩
  have z : (vd_I (n : Int)).toBitVec >>> 8 = 0#32 := by
    have e : (vd_I (n : Int)).toBitVec = BitVec.ofNat 32 n := BitVec.ofInt_natCast 32 n
    rw [e]
    apply BitVec.eq_of_toNat_eq
    rw [BitVec.toNat_ushiftRight, BitVec.toNat_ofNat, Nat.shiftRight_eq_div_pow]
    show n % 2 ^ 32 / 2 ^ 8 = 0
    omega
  rw [vd_shrB8, vd_shrB8, vd_xorB, BitVec.ushiftRight_xor_distrib, z, BitVec.xor_zero]
theorem vd_ix255 (x : Int32) : ∃ n : Nat, n < 256 ∧ x &&& vd_I 255 = vd_I ((n : Nat) : Int) := ⟨vd_Tp (fun _ _ => x) 0 0, by have := vd_Tp_b (fun _ _ => x) 0 0; omega, vd_Tp_and (fun _ _ => x) 0 0⟩
section VDCK
variable {M N : vd_M} {ow fa lo lf : Nat} {Z : Nat → Nat → Nat → Nat} {f g : Nat → Nat → Int32}
theorem vd_ck8 (hN : vd_SR N) (x1 x2 x5 x6 : Int32) {q : Nat} (d : Nat) (Q : vd_M → (Option Value ⊕ Nat) → Prop) (n : Nat) : ∀ (k : Nat) (c : Int32), k + n = 8 → vd_wp d 280 98 [.ref 63, .int x1, .int x2, .ref q, .int c, .int x5, .int x6, .int (vd_I (k : Int))] [] (vd_mf N g) Q = vd_wp d 280 135 [.ref 63, .int x1, .int x2, .ref q, .int (vd_cr n c), .int x5, .int x6, .int (vd_I 8)] [] (vd_mf N g) Q := by
  induction n with
  | zero =>
    intro k c h
    have hk : k = 8 := by omega
    subst hk
    rw [vd_S280_98 hN]
    exact if_neg (by decide)
  | succ n ih =>
    intro k c h
    have e : (k : Int) + 1 = ((k + 1 : Nat) : Int) := by omega
    have lq : vd_long (Value.ref q) = false := rfl
    refine Eq.trans ?_ (ih (k + 1) (vd_crs c) (by omega))
    rw [vd_S280_98 hN, if_pos (by rw [vd_I_toInt (by omega) (by omega), show (vd_I 8).toInt = 8 by decide]; omega), vd_S280_105 hN]
    by_cases c0 : (c &&& vd_I 1).toInt = 0
    · have ec : vd_crs c = (c.toUInt32 >>> ((vd_I 1).toUInt32 &&& Int32.toUInt32 31)).toInt32 := if_pos c0
      rw [if_pos c0, vd_S280_123 hN, ec]
      simp (disch := assumption) only [vd_S280_127 hN, vd_I_add, e]
    · have ec : vd_crs c = (c.toUInt32 >>> ((vd_I 1).toUInt32 &&& Int32.toUInt32 31)).toInt32 ^^^ vd_I (-306674912) := if_neg c0
      rw [if_neg c0, vd_S280_112 hN, ec]
      simp (disch := assumption) only [vd_S280_127 hN, vd_I_add, e]
theorem vd_ckRow (hM : vd_SC M ow fa lo lf) (hN : vd_SR N) (hcr : vd_crcT f) {p s q pl y pw : Nat} {w : Int} {P : Nat → Nat → Nat → Int} (kp : vd_k M p = 7) (r2 : vd_r M p 2 = some s) (ks : vd_k M s = 32) (ls : vd_l M s = 55296) (hq : vd_PD N q) (kq : vd_k N q = 13) (w0 : 1 ≤ w) (w1 : w ≤ 192) (d1 : f p 0 = vd_I w) (d3 : g q 0 = vd_I w) (hpl : pl < 3) (epw : (pw : Int) = vd_pd pl w) (hy : y < vd_sd pl) (v1 : ∀ x, x < pw → f s (vd_ax pl x y) = vd_I (P pl x y)) (v2 : ∀ x, x < pw → g (q + 2 + pl) (y * vd_ws pl w + x) &&& vd_I 255 = vd_I (P pl x y)) (hP : ∀ pl x y, 0 ≤ P pl x y ∧ P pl x y ≤ 255) (x1 : Int32) (n : Nat) : ∀ (x : Nat) (c : Int32) (a7 : Value), x + n = pw → ∃ (c' : Int32) (a7' : Value), (∀ d Q, vd_wp (d + 1) 156 63 [.ref 10, .int x1, .int (vd_I (pl : Int)), .ref p, .int c, .int (vd_I (y : Int)), .int (vd_I ((vd_ax pl 0 y : Nat) : Int)), .int (vd_I (x : Int))] [] (vd_mf M f) Q = vd_wp (d + 1) 156 109 [.ref 10, .int x1, .int (vd_I (pl : Int)), .ref p, .int c', .int (vd_I (y : Int)), .int (vd_I ((vd_ax pl 0 y : Nat) : Int)), .int (vd_I (pw : Int))] [] (vd_mf M f) Q) ∧ (∀ d Q, vd_wp (d + 2) 280 71 [.ref 63, .int x1, .int (vd_I (pl : Int)), .ref q, .int c, .int (vd_I (y : Int)), .int (vd_I (x : Int)), a7] [] (vd_mf N g) Q = vd_wp (d + 2) 280 141 [.ref 63, .int x1, .int (vd_I (pl : Int)), .ref q, .int c', .int (vd_I (y : Int)), .int (vd_I (pw : Int)), a7'] [] (vd_mf N g) Q) := by
  have P107 := fun (d : Nat) Q => vd_P107 hM (f := f) (d := d) (Q := Q) kp d1 (by omega) (by omega) hpl
  have P227 := fun (d : Nat) Q => vd_P227 hN (g := g) (d := d) (Q := Q) kq d3 (by omega) (by omega) hpl
  rw [← epw] at P107 P227
  have pwb : pw ≤ 192 := by
    have : vd_pd pl w ≤ 192 := by unfold vd_pd; split <;> omega
    omega
  have wsb := vd_ws_b (pl := pl) w0 w1
  induction n with
  | zero =>
    intro x c a7 h
    have hx : x = pw := by omega
    subst hx
    refine ⟨c, a7, fun d Q => ?_, fun d Q => ?_⟩
    · rw [vd_S156_63 hM]
      simp (disch := first | assumption | omega) only [vd_S156_65 hM, vd_S156_67 hM, P107, vd_rs_v, vd_S156_70 hM, vd_I_toInt, Int.lt_irrefl, if_false]
    · rw [vd_S280_71 hN]
      simp (disch := first | assumption | omega) only [vd_S280_73 hN, vd_S280_75 hN, P227, vd_rs_v, vd_S280_78 hN, vd_I_toInt, Int.lt_irrefl, if_false]
  | succ n ih =>
    intro x c a7 h
    have hx : x < pw := by omega
    have hx' : (x : Int) < (pw : Int) := by omega
    have b1 := hP pl x y
    obtain ⟨ix, i1, i2⟩ := vd_ix255 (c ^^^ vd_I (P pl x y))
    have e1 : (c.toUInt32 >>> ((vd_I 8).toUInt32 &&& Int32.toUInt32 31)).toInt32 ^^^ f 15 ix = vd_cr 8 (c ^^^ vd_I (P pl x y)) := by
      show vd_shr c 8 ^^^ f 15 ix = vd_cr 8 (c ^^^ vd_I (P pl x y))
      rw [hcr ix i1, ← i2, vd_cr8 (c ^^^ vd_I (P pl x y)), vd_shr8s c b1.1 b1.2]
    obtain ⟨c', a', h1, h2⟩ := ih (x + 1) (vd_cr 8 (c ^^^ vd_I (P pl x y))) (.int (vd_I 8)) (by omega)
    have e : (x : Int) + 1 = ((x + 1 : Nat) : Int) := by omega
    have ea : ((vd_ax pl 0 y : Nat) : Int) + (x : Int) = ((vd_ax pl x y : Nat) : Int) := by unfold vd_ax; split <;> omega
    have axb : vd_ax pl x y < 55296 := by
      unfold vd_sd at hy
      unfold vd_ax
      by_cases q0 : pl = 0
      · rw [if_pos q0] at hy ⊢
        omega
      · have : vd_pd pl w ≤ 96 := by unfold vd_pd; rw [if_neg q0]; omega
        rw [if_neg q0] at hy ⊢
        omega
    have lsz : ((vd_ax pl x y : Nat) : Int) < (vd_l M s : Int) := by rw [ls]; omega
    have u1 := v1 x hx
    have lp : vd_long (Value.ref p) = false := rfl
    have lq : vd_long (Value.ref q) = false := rfl
    have P229 := fun (d : Nat) Q => vd_P229 hN (g := g) hq (d := d) (Q := Q) d3 w0 w1 hpl (show x < vd_ws pl w by omega) hy (v2 x hx)
    refine ⟨c', a', fun d Q => ?_, fun d Q => ?_⟩
    · rw [← h1 d Q, vd_S156_63 hM]
      simp (disch := first | assumption | omega) only [vd_S156_65 hM, vd_S156_67 hM, P107, vd_rs_v, vd_S156_70 hM, vd_I_toInt, hx', if_true, vd_S156_73 hM, vd_S156_84 hM, r2, vd_vr_some, vd_I_add, ea, vd_S156_93 hM, Int.toNat_natCast, u1, i2, vd_S156_99 hM, e1, e]
    · have ck := vd_ck8 hN (g := g) (q := q) x1 (vd_I (pl : Int)) (vd_I (y : Int)) (vd_I (x : Int)) (d + 2) Q 8 0 (c ^^^ vd_I (P pl x y)) (by omega)
      rw [show vd_I ((0 : Nat) : Int) = vd_I 0 from rfl] at ck
      rw [← h2 d Q, vd_S280_71 hN]
      simp (disch := first | assumption | omega) only [vd_S280_73 hN, vd_S280_75 hN, P227, vd_rs_v, vd_S280_78 hN, vd_I_toInt, hx', if_true, vd_S280_81 hN, vd_S280_83 hN, vd_S280_89 hN, P229, vd_S280_92 hN, ck, vd_S280_135 hN, vd_I_add, e]
theorem vd_ckAll (hM : vd_SC M ow fa lo lf) (hN : vd_SR N) (hcr : vd_crcT f) {p s q pl pw ph : Nat} {w hh : Int} {P : Nat → Nat → Nat → Int} (kp : vd_k M p = 7) (r2 : vd_r M p 2 = some s) (ks : vd_k M s = 32) (ls : vd_l M s = 55296) (hq : vd_PD N q) (kq : vd_k N q = 13) (w0 : 1 ≤ w) (w1 : w ≤ 192) (h0 : 1 ≤ hh) (h1 : hh ≤ 192) (d1 : f p 0 = vd_I w) (d2 : f p 1 = vd_I hh) (d3 : g q 0 = vd_I w) (d4 : g q 1 = vd_I hh) (hpl : pl < 3) (epw : (pw : Int) = vd_pd pl w) (eph : (ph : Int) = vd_pd pl hh) (psc : vd_PSC s w hh P f) (psr : vd_PSR q w hh P g) (hP : ∀ pl x y, 0 ≤ P pl x y ∧ P pl x y ≤ 255) (x1 : Int32) (n : Nat) : ∀ (y : Nat) (c : Int32) (a6 a7 b6 b7 : Value), y + n = ph → ∃ (c' : Int32), (∀ d Q, vd_wp (d + 1) 156 41 [.ref 10, .int x1, .int (vd_I (pl : Int)), .ref p, .int c, .int (vd_I (y : Int)), a6, a7] [] (vd_mf M f) Q = Q (vd_mf M f) (.inl (some (.int (c' ^^^ vd_I (-1)))))) ∧ (∀ d Q, vd_wp (d + 2) 280 58 [.ref 63, .int x1, .int (vd_I (pl : Int)), .ref q, .int c, .int (vd_I (y : Int)), b6, b7] [] (vd_mf N g) Q = Q (vd_mf N g) (.inl (some (.int (c' ^^^ vd_I (-1)))))) := by
  have P108 := fun (d : Nat) Q => vd_P108 hM (f := f) (d := d) (Q := Q) kp d2 (by omega) (by omega) hpl
  have P228 := fun (d : Nat) Q => vd_P228 hN (g := g) (d := d) (Q := Q) kq d4 (by omega) (by omega) hpl
  rw [← eph] at P108 P228
  have phb : ph ≤ 192 := by
    have : vd_pd pl hh ≤ 192 := by unfold vd_pd; split <;> omega
    omega
  have wsb := vd_ws_b (pl := pl) w0 w1
  have hsb := vd_ws_b (pl := pl) h0 h1
  induction n with
  | zero =>
    intro y c a6 a7 b6 b7 h
    have hy : y = ph := by omega
    subst hy
    refine ⟨c, fun d Q => ?_, fun d Q => ?_⟩
    · rw [vd_S156_41 hM]
      simp (disch := first | assumption | omega) only [vd_S156_43 hM, vd_S156_45 hM, P108, vd_rs_v, vd_S156_48 hM, vd_I_toInt, Int.lt_irrefl, if_false, vd_S156_115 hM]
    · rw [vd_S280_58 hN]
      simp (disch := first | assumption | omega) only [vd_S280_60 hN, vd_S280_62 hN, P228, vd_rs_v, vd_S280_65 hN, vd_I_toInt, Int.lt_irrefl, if_false, vd_S280_147 hN]
  | succ n ih =>
    intro y c a6 a7 b6 b7 h
    have hy : y < ph := by omega
    have hy' : (y : Int) < (ph : Int) := by omega
    have e : (y : Int) + 1 = ((y + 1 : Nat) : Int) := by omega
    have P109 : ∀ d Q, vd_wp d 109 0 [.int (vd_I (pl : Int)), .int (vd_I 0), .int (vd_I (y : Int))] [] (vd_mf M f) Q = Q (vd_mf M f) (.inl (some (.int (vd_I ((vd_ax pl 0 y : Nat) : Int))))) := fun d Q => vd_P109 hM (x := 0) hpl
    obtain ⟨c1, a1, r1, r2'⟩ := vd_ckRow hM hN hcr (y := y) (P := P) kp r2 ks ls hq kq w0 w1 d1 d3 hpl epw (by omega) (fun x hx => psc pl x y hpl (by omega) (by omega)) (fun x hx => psr pl x y hpl (by omega) (by omega)) hP x1 pw 0 c b7 (by omega)
    rw [show vd_I ((0 : Nat) : Int) = vd_I 0 from rfl] at r1 r2'
    obtain ⟨c', k1, k2⟩ := ih (y + 1) c1 (.int (vd_I ((vd_ax pl 0 y : Nat) : Int))) (.int (vd_I (pw : Int))) (.int (vd_I (pw : Int))) a1 (by omega)
    refine ⟨c', fun d Q => ?_, fun d Q => ?_⟩
    · rw [← k1 d Q, vd_S156_41 hM]
      simp (disch := first | assumption | omega) only [vd_S156_43 hM, vd_S156_45 hM, P108, vd_rs_v, vd_S156_48 hM, vd_I_toInt, hy', if_true, vd_S156_51 hM, vd_S156_55 hM, P109, vd_S156_58 hM, r1, vd_S156_109 hM, vd_I_add, e]
    · rw [← k2 d Q, vd_S280_58 hN]
      simp (disch := first | assumption | omega) only [vd_S280_60 hN, vd_S280_62 hN, P228, vd_rs_v, vd_S280_65 hN, vd_I_toInt, hy', if_true, vd_S280_68 hN, r2', vd_S280_141 hN, vd_I_add, e]
theorem vd_check (hA : vd_API M N ow fa lo lf Z f g) (x1 x2 : Int32) : vd_AP M N Z f g 1 156 [.ref 10, .int x1, .int x2, vd_U, vd_U, vd_U, vd_U, vd_U] 2 280 [.ref 63, .int x1, .int x2, vd_U, vd_U, vd_U, vd_U, vd_U] 17 18 0 0 := by
  have hA' := hA
  obtain ⟨hI, _, _, hcr⟩ := hA
  have hM := hI.1.1
  have hN := hI.1.2.1
  obtain ⟨z, hz, z0, z1⟩ := vd_I_of x1
  obtain ⟨k, hk, k0, k1⟩ := vd_I_of x2
  subst hz hk
  obtain ⟨g', hg⟩ : ∃ g', g' = vd_up g 63 2 (vd_I 0) := ⟨_, rfl⟩
  have kg : ∀ c i, ¬ (c = 63 ∧ i = 2) → g' c i = g c i := fun c i q => by rw [hg, vd_up_ne q]
  have g2 : g' 63 2 = vd_I 0 := by rw [hg, vd_up_eq]
  have p0 := fun (x : Int32) (d : Nat) Q => vd_P168 hN (g := g') x (b := 0) (Or.inl rfl) d Q
  have p1 := fun (x : Int32) (d : Nat) Q => vd_P168 hN (g := g') x (b := 1) (Or.inr rfl) d Q
  have pc := fun (d : Nat) Q => vd_P154 hM (f := f) z0 z1 d Q
  have pr := fun (d : Nat) Q => vd_P279 hN (g := g') z0 z1 d Q
  rcases vd_po_pic hI z with ⟨e1, e2⟩ | ⟨p, s, q, w, hh, P, ⟨e1, a2⟩, ⟨b1, e2⟩, wb, ⟨d1, d2⟩, ⟨d3, d4⟩, psc, psr, hP⟩
  · rw [e1] at pc
    rw [e2] at pr
    refine vd_AP.ro hA' (t := 1) (v := 0) (v' := vd_I 0) (g' := vd_up g' 63 2 (vd_I 1)) (fun h => absurd h (by decide)) (fun _ d Q => ?_) (fun h => absurd h (by decide)) (fun d Q => ?_) (fun h => absurd h (by decide)) (Or.inr (Or.inl ⟨rfl, by decide⟩)) (by rw [vd_up_eq]) (fun c i q => by rw [vd_up_ne q, kg c i q])
    · simp only [vd_S156_0 hM, vd_S156_2 hM, pc, vd_rs_v, vd_vr_none, vd_S156_5n hM, vd_S156_6n hM, vd_S156_7n hM, vd_S156_10 hM]
    · simp (disch := omega) only [vd_S280_0 hN, ← hg, vd_S280_7 hN, pr, vd_rs_v, vd_vr_none, vd_S280_10n hN, vd_S280_13n hN, vd_S280_14n hN, vd_S280_17 hN, vd_S280_22 hN, p1, show ¬ ((1 : Int) = 0) by decide, if_false, vd_S280_25 hN, vd_I_toInt, vd_S280_50 hN]
  · rw [e1] at pc
    rw [e2] at pr
    have hq := vd_PD_of hN b1
    have kq : vd_k N (129 + 5 * q) = 13 := hq.1.1
    have eC : ∀ d Q, vd_wp (d + 1) 156 0 [.ref 10, .int (vd_I z), .int (vd_I k), vd_U, vd_U, vd_U, vd_U, vd_U] [] (vd_mf M f) Q = vd_wp (d + 1) 156 18 [.ref 10, .int (vd_I z), .int (vd_I k), .ref p, vd_U, vd_U, vd_U, vd_U] [] (vd_mf M f) Q := fun d Q => by
      simp only [vd_S156_0 hM, vd_S156_2 hM, pc, vd_rs_v, vd_vr_some, vd_S156_5 hM, vd_S156_7 hM]
    have eR : ∀ d Q, vd_wp (d + 2) 280 0 [.ref 63, .int (vd_I z), .int (vd_I k), vd_U, vd_U, vd_U, vd_U, vd_U] [] (vd_mf N g) Q = vd_wp (d + 2) 280 28 [.ref 63, .int (vd_I z), .int (vd_I k), .ref (129 + 5 * q), vd_U, vd_U, vd_U, vd_U] [] (vd_mf N g') Q := fun d Q => by
      simp (disch := omega) only [vd_S280_0 hN, ← hg, vd_S280_7 hN, pr, vd_rs_v, vd_vr_some, vd_S280_10 hN, vd_S280_14 hN, vd_S280_21 hN, vd_S280_22 hN, p0, eq_self, if_true, vd_S280_25 hN, vd_I_toInt]
    by_cases c : k < 0 ∨ 2 < k
    · refine vd_AP.ro hA' (t := 2) (v := 0) (v' := vd_I 0) (g' := vd_up g' 63 2 (vd_I 2)) (fun h => absurd h (by decide)) (fun h => absurd h (by decide)) (fun _ d Q => ?_) (fun d Q => ?_) (fun h => absurd h (by decide)) (Or.inr (Or.inr ⟨rfl, by decide⟩)) (by rw [vd_up_eq]) (fun c i q => by rw [vd_up_ne q, kg c i q])
      · rw [eC d Q]
        by_cases c2 : k < 0
        · simp (disch := omega) only [vd_S156_18 hM, vd_I_toInt, c2, if_true, vd_S156_27 hM]
        · simp (disch := omega) only [vd_S156_18 hM, vd_I_toInt, c2, if_false, vd_S156_22 hM, show (2 < k) by omega, if_true, vd_S156_27 hM]
      · rw [eR d Q]
        have e : vd_wp (d + 2) 280 39 [.ref 63, .int (vd_I z), .int (vd_I k), .ref (129 + 5 * q), vd_U, vd_U, vd_U, vd_U] [.int (vd_I 2), .ref 63] (vd_mf N g') Q = Q (vd_mf N (vd_up g' 63 2 (vd_I 2))) (.inl (some (.int (vd_I 0)))) := by
          simp (disch := omega) only [vd_S280_39 hN, vd_S280_44 hN, p1, show ¬ ((1 : Int) = 0) by decide, if_false, vd_rs_v, vd_S280_47 hN, vd_I_toInt, vd_S280_50 hN]
        by_cases c2 : k < 0
        · simp (disch := omega) only [vd_S280_28 hN, vd_I_toInt, c2, if_true]
          exact e
        · simp (disch := omega) only [vd_S280_28 hN, vd_I_toInt, c2, if_false, vd_S280_34 hN, show (2 < k) by omega, if_true]
          exact e
    · obtain ⟨pl, hpl⟩ : ∃ pl : Nat, k = (pl : Int) := ⟨k.toNat, by omega⟩
      subst hpl
      have pl3 : pl < 3 := by omega
      have lp : vd_long (Value.ref p) = false := rfl
      have lq : vd_long (Value.ref (129 + 5 * q)) = false := rfl
      have pd0 : 0 ≤ vd_pd pl w ∧ 0 ≤ vd_pd pl hh := by unfold vd_pd; split <;> omega
      obtain ⟨pw, epw⟩ : ∃ pw : Nat, (pw : Int) = vd_pd pl w := ⟨(vd_pd pl w).toNat, by omega⟩
      obtain ⟨ph, eph⟩ : ∃ ph : Nat, (ph : Int) = vd_pd pl hh := ⟨(vd_pd pl hh).toNat, by omega⟩
      have psr' : vd_PSR (129 + 5 * q) w hh P g' := fun a x y h1 h2 h3 => by rw [kg _ _ (by omega)]; exact psr a x y h1 h2 h3
      obtain ⟨c', q1, q2⟩ := vd_ckAll hM hN hcr (g := g') a2.1.1 a2.1.2 a2.2.1.1 a2.2.1.2 hq kq wb.1 wb.2.1 wb.2.2.1 wb.2.2.2 d1 d2 (by rw [kg _ _ (by omega), d3]) (by rw [kg _ _ (by omega), d4]) pl3 epw eph psc psr' hP (vd_I z) ph 0 (vd_I (-1)) vd_U vd_U vd_U vd_U (by omega)
      rw [show vd_I ((0 : Nat) : Int) = vd_I 0 from rfl] at q1 q2
      refine vd_AP.ro hA' (t := 0) (v := c' ^^^ vd_I (-1)) (v' := c' ^^^ vd_I (-1)) (g' := g') (fun _ d Q => ?_) (fun h => absurd h (by decide)) (fun h => absurd h (by decide)) (fun d Q => ?_) (fun _ => rfl) (Or.inl rfl) g2 kg
      · rw [eC d Q]
        simp (disch := first | assumption | omega) only [vd_S156_18 hM, vd_I_toInt, show ¬ ((pl : Int) < 0) by omega, if_false, vd_S156_22 hM, show ¬ (2 < (pl : Int)) by omega, vd_S156_35 hM, q1]
      · rw [eR d Q]
        simp (disch := first | assumption | omega) only [vd_S280_28 hN, vd_I_toInt, show ¬ ((pl : Int) < 0) by omega, if_false, vd_S280_34 hN, show ¬ (2 < (pl : Int)) by omega, vd_S280_43 hN, vd_S280_44 hN, p0, eq_self, if_true, vd_rs_v, vd_S280_47 hN, vd_S280_52 hN, q2]
end VDCK
