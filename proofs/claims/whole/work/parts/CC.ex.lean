/-! ===== the exact transform; numbers are added to samples ===== -/
def vd_hx4 (a b c d : Int32) : Int32 := ((a + b) - (d - c)) >>> (vd_I 1 &&& 31)
def vd_w4 (f : Nat → Nat → Int32) (o k st : Nat) : Nat → Nat → Int32 := vd_up (vd_up (vd_up (vd_up f o k ((f o k + f o (k + st)) - (vd_hx4 (f o k) (f o (k + st)) (f o (k + 2 * st)) (f o (k + 3 * st)) - f o (k + st)))) o (k + st) (vd_hx4 (f o k) (f o (k + st)) (f o (k + 2 * st)) (f o (k + 3 * st)) - f o (k + st))) o (k + 2 * st) (vd_hx4 (f o k) (f o (k + st)) (f o (k + 2 * st)) (f o (k + 3 * st)) - f o (k + 2 * st))) o (k + 3 * st) ((f o (k + 3 * st) - f o (k + 2 * st)) + (vd_hx4 (f o k) (f o (k + st)) (f o (k + 2 * st)) (f o (k + 3 * st)) - f o (k + 2 * st)))
theorem vd_w4_ne {f : Nat → Nat → Int32} {o k st c i : Nat} (h : c ≠ o) : vd_w4 f o k st c i = f c i := by
  unfold vd_w4
  rw [vd_up_ne (by omega), vd_up_ne (by omega), vd_up_ne (by omega), vd_up_ne (by omega)]
/-- two rows that are alike stay so -/
theorem vd_w4_al {f g : Nat → Nat → Int32} {o o' k st : Nat} (h : ∀ p, p < 16 → f o p = g o' p) (hk : k + 3 * st < 16) : ∀ p, p < 16 → vd_w4 f o k st o p = vd_w4 g o' k st o' p := by
  intro p hp
  have e0 := h k (by omega)
  have e1 := h (k + st) (by omega)
  have e2 := h (k + 2 * st) (by omega)
  have e3 := h (k + 3 * st) (by omega)
  have ep := h p hp
  unfold vd_w4
  rw [e0, e1, e2, e3]
  simp only [vd_up_at, true_and]
  split
  · rfl
  · split
    · rfl
    · split
      · rfl
      · split
        · rfl
        · exact ep
def vd_pq (f : Nat → Nat → Int32) (o : Nat) : Nat → Nat → Int32 := vd_w4 (vd_w4 (vd_w4 (vd_w4 (vd_w4 (vd_w4 (vd_w4 (vd_w4 f o 0 1) o 4 1) o 8 1) o 12 1) o 0 4) o 1 4) o 2 4) o 3 4
theorem vd_pq_ne {f : Nat → Nat → Int32} {o c i : Nat} (h : c ≠ o) : vd_pq f o c i = f c i := by
  unfold vd_pq
  rw [vd_w4_ne h, vd_w4_ne h, vd_w4_ne h, vd_w4_ne h, vd_w4_ne h, vd_w4_ne h, vd_w4_ne h, vd_w4_ne h]
theorem vd_pq_al {f g : Nat → Nat → Int32} {o o' : Nat} (h : ∀ p, p < 16 → f o p = g o' p) : ∀ p, p < 16 → vd_pq f o o p = vd_pq g o' o' p :=
  vd_w4_al (vd_w4_al (vd_w4_al (vd_w4_al (vd_w4_al (vd_w4_al (vd_w4_al (vd_w4_al h (by decide)) (by decide)) (by decide)) (by decide)) (by decide)) (by decide)) (by decide)) (by decide)
section VDEX
variable {M N : vd_M} {ow fa lo lf : Nat} {f g : Nat → Nat → Int32} {d : Nat} {Q : vd_M → (Option Value ⊕ Nat) → Prop}
theorem vd_P133 (hM : vd_SC M ow fa lo lf) {k st : Nat} {zk zs : Int} (hk : zk = (k : Int)) (hs : zs = (st : Int)) (h : k + 3 * st < 16) (f : Nat → Nat → Int32) (d : Nat) (Q : vd_M → (Option Value ⊕ Nat) → Prop) : vd_wp d 133 0 [.ref 45, .int (vd_I zk), .int (vd_I zs), vd_U, vd_U, vd_U, vd_U, vd_U] [] (vd_mf M f) Q = Q (vd_mf M (vd_w4 f 49 k st)) (.inl none) := by
  subst hk
  subst hs
  have n1 : ((k : Int) + (st : Int)).toNat = k + st := by omega
  have n2 : ((k : Int) + 2 * (st : Int)).toNat = k + 2 * st := by omega
  have n3 : ((k : Int) + 3 * (st : Int)).toNat = k + 3 * st := by omega
  simp (disch := omega) only [vd_S133_0 hM, vd_S133_5 hM, vd_S133_14 hM, vd_S133_26 hM, vd_S133_38 hM, vd_S133_84 hM, vd_S133_94 hM, vd_S133_106 hM, vd_S133_121 hM, vd_I_mul, vd_I_add, Int.toNat_natCast, n1, n2, n3]
  rfl
theorem vd_P260 (hN : vd_SR N) {k st : Nat} {zk zs : Int} (hk : zk = (k : Int)) (hs : zs = (st : Int)) (h : k + 3 * st < 16) (g : Nat → Nat → Int32) (d : Nat) (Q : vd_M → (Option Value ⊕ Nat) → Prop) : vd_wp d 260 0 [.ref 63, .int (vd_I zk), .int (vd_I zs), vd_U, vd_U, vd_U, vd_U, vd_U] [] (vd_mf N g) Q = Q (vd_mf N (vd_w4 g 123 k st)) (.inl none) := by
  subst hk
  subst hs
  have n1 : ((k : Int) + (st : Int)).toNat = k + st := by omega
  have n2 : ((k : Int) + 2 * (st : Int)).toNat = k + 2 * st := by omega
  have n3 : ((k : Int) + 3 * (st : Int)).toNat = k + 3 * st := by omega
  simp (disch := omega) only [vd_S260_0 hN, vd_S260_5 hN, vd_S260_14 hN, vd_S260_26 hN, vd_S260_38 hN, vd_S260_93 hN, vd_S260_103 hN, vd_S260_115 hN, vd_S260_127 hN, vd_I_mul, vd_I_add, Int.toNat_natCast, n1, n2, n3]
  rfl
theorem vd_P132 (hM : vd_SC M ow fa lo lf) : vd_wp (d + 1) 132 0 [.ref 45, vd_U] [] (vd_mf M f) Q = Q (vd_mf M (vd_pq f 49)) (.inl none) := by
  have r : ∀ (i : Nat) (zi : Int) (f : Nat → Nat → Int32), zi = (i : Int) → i < 4 → vd_wp (d + 1) 132 2 [.ref 45, .int (vd_I zi)] [] (vd_mf M f) Q = vd_wp (d + 1) 132 2 [.ref 45, .int (vd_I (zi + 1))] [] (vd_mf M (vd_w4 f 49 (4 * i) 1)) Q := fun i zi f e hi => by
    have P := vd_P133 (k := 4 * i) (st := 1) (zk := 4 * zi) (zs := 1) hM (by omega) rfl (by omega)
    have c : zi < 4 := by omega
    rw [vd_S132_2 hM]
    simp (disch := omega) only [vd_S132_7 hM, vd_S132_12 hM, vd_S132_15 hM, P, vd_I_toInt, c, if_true, vd_I_mul, vd_I_add, vd_rs_v, vd_rs_n]
  have q : ∀ (i : Nat) (zi : Int) (f : Nat → Nat → Int32), zi = (i : Int) → i < 4 → vd_wp (d + 1) 132 23 [.ref 45, .int (vd_I zi)] [] (vd_mf M f) Q = vd_wp (d + 1) 132 23 [.ref 45, .int (vd_I (zi + 1))] [] (vd_mf M (vd_w4 f 49 i 4)) Q := fun i zi f e hi => by
    have P := vd_P133 (k := i) (st := 4) (zk := zi) (zs := 4) hM e rfl (by omega)
    have c : zi < 4 := by omega
    rw [vd_S132_23 hM]
    simp (disch := omega) only [vd_S132_28 hM, vd_S132_31 hM, vd_S132_34 hM, P, vd_I_toInt, c, if_true, vd_I_add, vd_rs_v, vd_rs_n]
  rw [vd_S132_0 hM, r 0 0 _ rfl (by decide), r 1 (0 + 1) _ rfl (by decide), r 2 (0 + 1 + 1) _ rfl (by decide), r 3 (0 + 1 + 1 + 1) _ rfl (by decide), vd_S132_2 hM]
  have c4 : ¬ ((vd_I (0 + 1 + 1 + 1 + 1)).toInt < (vd_I 4).toInt) := by decide
  rw [if_neg c4, vd_S132_21 hM, q 0 0 _ rfl (by decide), q 1 (0 + 1) _ rfl (by decide), q 2 (0 + 1 + 1) _ rfl (by decide), q 3 (0 + 1 + 1 + 1) _ rfl (by decide), vd_S132_23 hM, if_neg c4, vd_S132_40 hM]
  rfl
theorem vd_P259 (hN : vd_SR N) : vd_wp (d + 1) 259 0 [.ref 63, vd_U] [] (vd_mf N g) Q = Q (vd_mf N (vd_pq g 123)) (.inl none) := by
  have r : ∀ (i : Nat) (zi : Int) (f : Nat → Nat → Int32), zi = (i : Int) → i < 4 → vd_wp (d + 1) 259 2 [.ref 63, .int (vd_I zi)] [] (vd_mf N f) Q = vd_wp (d + 1) 259 2 [.ref 63, .int (vd_I (zi + 1))] [] (vd_mf N (vd_w4 f 123 (4 * i) 1)) Q := fun i zi f e hi => by
    have P := vd_P260 (k := 4 * i) (st := 1) (zk := 4 * zi) (zs := 1) hN (by omega) rfl (by omega)
    have c : zi < 4 := by omega
    rw [vd_S259_2 hN]
    simp (disch := omega) only [vd_S259_7 hN, vd_S259_12 hN, vd_S259_15 hN, P, vd_I_toInt, c, if_true, vd_I_mul, vd_I_add, vd_rs_v, vd_rs_n]
  have q : ∀ (i : Nat) (zi : Int) (f : Nat → Nat → Int32), zi = (i : Int) → i < 4 → vd_wp (d + 1) 259 23 [.ref 63, .int (vd_I zi)] [] (vd_mf N f) Q = vd_wp (d + 1) 259 23 [.ref 63, .int (vd_I (zi + 1))] [] (vd_mf N (vd_w4 f 123 i 4)) Q := fun i zi f e hi => by
    have P := vd_P260 (k := i) (st := 4) (zk := zi) (zs := 4) hN e rfl (by omega)
    have c : zi < 4 := by omega
    rw [vd_S259_23 hN]
    simp (disch := omega) only [vd_S259_28 hN, vd_S259_31 hN, vd_S259_34 hN, P, vd_I_toInt, c, if_true, vd_I_add, vd_rs_v, vd_rs_n]
  rw [vd_S259_0 hN, r 0 0 _ rfl (by decide), r 1 (0 + 1) _ rfl (by decide), r 2 (0 + 1 + 1) _ rfl (by decide), r 3 (0 + 1 + 1 + 1) _ rfl (by decide), vd_S259_2 hN]
  have c4 : ¬ ((vd_I (0 + 1 + 1 + 1 + 1)).toInt < (vd_I 4).toInt) := by decide
  rw [if_neg c4, vd_S259_21 hN, q 0 0 _ rfl (by decide), q 1 (0 + 1) _ rfl (by decide), q 2 (0 + 1 + 1) _ rfl (by decide), q 3 (0 + 1 + 1 + 1) _ rfl (by decide), vd_S259_23 hN, if_neg c4, vd_S259_40 hN]
  rfl
/-- a sum held within a sample's range -/
def vd_cl (x : Int32) : Int := vd_wn x.toInt 0 255
theorem vd_cl_b (x : Int32) : 0 ≤ vd_cl x ∧ vd_cl x ≤ 255 := vd_wn_b (by decide)
theorem vd_clC (hM : vd_SC M ow fa lo lf) (x : Int32) (f : Nat → Nat → Int32) (d : Nat) (Q : vd_M → (Option Value ⊕ Nat) → Prop) : vd_wp d 103 0 [.int x] [] (vd_mf M f) Q = Q (vd_mf M f) (.inl (some (.int (vd_I (vd_cl x))))) := by
  obtain ⟨z, rfl, h1, h2⟩ := vd_I_of x
  have e : vd_cl (vd_I z) = vd_wn z 0 255 := by unfold vd_cl; rw [vd_I_toInt h1 h2]
  rw [e]
  exact vd_P103 hM h1 h2
theorem vd_clR (hN : vd_SR N) (x : Int32) (g : Nat → Nat → Int32) (d : Nat) (Q : vd_M → (Option Value ⊕ Nat) → Prop) : vd_wp (d + 1) 232 0 [.int x] [] (vd_mf N g) Q = Q (vd_mf N g) (.inl (some (.int (vd_I (vd_cl x))))) := by
  obtain ⟨z, rfl, h1, h2⟩ := vd_I_of x
  have e : vd_cl (vd_I z) = vd_wn z 0 255 := by unfold vd_cl; rw [vd_I_toInt h1 h2]
  rw [e]
  exact vd_P232 hN h1 h2
end VDEX
