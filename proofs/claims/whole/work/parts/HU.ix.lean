/-! ===== the index of a chunk ===== -/
/-- the bytes of the tape -/
def vd_Tp (f : Nat → Nat → Int32) (c i : Nat) : Nat := ((f c i).toInt % 256).toNat
theorem vd_Tp_and (f : Nat → Nat → Int32) (c i : Nat) : f c i &&& vd_I 255 = vd_I ((vd_Tp f c i : Nat) : Int) := by
  obtain ⟨z, hz, z0, z1⟩ := vd_I_of (f c i)
  have e : ((vd_Tp f c i : Nat) : Int) = z % 256 := by
    unfold vd_Tp
    rw [hz, vd_I_toInt z0 z1]
    omega
  rw [e, hz, vd_and255]
theorem vd_Tp_b (f : Nat → Nat → Int32) (c i : Nat) : vd_Tp f c i ≤ 255 := by unfold vd_Tp; omega
theorem vd_Tp_7 (f : Nat → Nat → Int32) (c i : Nat) : f c i &&& vd_I 7 = vd_I ((vd_Tp f c i % 8 : Nat) : Int) := by
  rw [vd_a7, vd_Tp_and, vd_and7]; congr 1
theorem vd_m7 (m : Nat) : vd_I ((m : Nat) : Int) &&& vd_I 7 = vd_I ((m % 8 : Nat) : Int) := by rw [vd_and7]; congr 1
theorem vd_mm3 {m : Nat} (h : m ≤ 255) : (vd_I ((m : Nat) : Int) >>> (vd_I 3 &&& 31)) &&& vd_I 3 = vd_I ((m / 8 % 4 : Nat) : Int) := by
  have e := vd_I_shr (z := (m : Int)) (n := 3) (by omega) (by omega) (by omega)
  have e' : vd_I ((m : Nat) : Int) >>> (vd_I 3 &&& 31) = vd_I ((m : Int) / 8) := e
  rw [e', vd_and3]
  congr 1
theorem vd_m5 {m : Nat} (h : m ≤ 255) : (vd_I ((m : Nat) : Int) >>> (vd_I 5 &&& 31)).toInt = ((m / 32 : Nat) : Int) := by
  have e := vd_I_shr (z := (m : Int)) (n := 5) (by omega) (by omega) (by omega)
  have e' : vd_I ((m : Nat) : Int) >>> (vd_I 5 &&& 31) = vd_I ((m : Int) / 32) := e
  rw [e', vd_I_toInt (by omega) (by omega)]
  omega
theorem vd_Tp_3 (f : Nat → Nat → Int32) (c i : Nat) : (f c i >>> (vd_I 3 &&& 31)) &&& vd_I 3 = vd_I ((vd_Tp f c i / 8 % 4 : Nat) : Int) := by
  rw [vd_a33, vd_Tp_and, vd_mm3 (vd_Tp_b f c i)]
/-- a length of n bytes at p, a read already -/
def vd_ll (T : Nat → Nat) (p : Nat) : Nat → Nat → Nat
  | 0, a => a
  | n + 1, a => vd_ll T p n (256 * a + T (p + n))
def vd_llb (n a : Nat) : Prop := n ≤ 4 ∧ (n = 4 → a < 1) ∧ (n = 3 → a < 256) ∧ (n = 2 → a < 65536) ∧ (n = 1 → a < 16777216) ∧ (n = 0 → a < 4294967296)
theorem vd_ll_b {T : Nat → Nat} {p : Nat} (hT : ∀ i, T i ≤ 255) : ∀ n a, vd_llb n a → vd_ll T p n a < 4294967296 := by
  intro n
  induction n with
  | zero => intro a h; exact h.2.2.2.2.2 rfl
  | succ n ih =>
    intro a h
    have := hT (p + n)
    unfold vd_llb at h
    exact ih _ (by unfold vd_llb; omega)
section VDIX
variable {M N : vd_M} {ow fa lo lf : Nat} {f g : Nat → Nat → Int32}
theorem vd_lgU : vd_long vd_U = false := rfl
theorem vd_L25 (hM : vd_SC M ow fa lo lf) (x1 x2 x3 x4 : Int32) {p : Nat} (d : Nat) (Q : vd_M → (Option Value ⊕ Nat) → Prop) : ∀ n a, p + n ≤ 65536 → vd_llb n a → vd_wp d 25 37 [.ref 10, .int x1, .int x2, .int x3, .int x4, .int (vd_I (p : Int)), .long (vd_J (a : Int)), vd_U, .int (vd_I ((n : Int) - 1))] [] (vd_mf M f) Q = Q (vd_mf M f) (.inl (some (.long (vd_J ((vd_ll (vd_Tp f 11) p n a : Nat) : Int))))) := by
  intro n
  induction n with
  | zero =>
    intro a hp h
    rw [vd_S25_37 hM]
    simp (disch := omega) only [vd_I_toInt, show (((0 : Nat) : Int) - 1 < 0) by decide, if_true, vd_S25_72 hM]
    rfl
  | succ n ih =>
    intro a hp h
    have h4 : n + 1 ≤ 4 := h.1
    have e1 : (((n + 1 : Nat) : Int) - 1) = (n : Int) := by omega
    have e2 : (p : Int) + (n : Int) = ((p + n : Nat) : Int) := by omega
    have e3 : (n : Int) + (-1) = (n : Int) - 1 := rfl
    have tb := vd_Tp_b f 11 (p + n)
    have e4 : 256 * (a : Int) + ((vd_Tp f 11 (p + n) : Nat) : Int) = ((256 * a + vd_Tp f 11 (p + n) : Nat) : Int) := by omega
    have lU := vd_lgU
    have i := ih (256 * a + vd_Tp f 11 (p + n)) (by omega) (by unfold vd_llb at h ⊢; omega)
    rw [vd_S25_37 hM, e1]
    simp (disch := first | assumption | omega) only [vd_I_toInt, show ¬ ((n : Int) < 0) by omega, if_false, vd_S25_42 hM, vd_I_add, e2, vd_S25_57 hM, Int.toNat_natCast, vd_Tp_and, vd_J_mac, e4, e3]
    exact i
theorem vd_P25 (hM : vd_SC M ow fa lo lf) {len ix k s : Nat} (l1 : 1 ≤ len) (l2 : len ≤ 65536) (hs : s = vd_Tp f 11 (len - 1) / 8 % 4 + 1) (hk : k ≤ 7) (hix : ix ≤ len) (hp : len - ix + 1 + k * s + s ≤ 65536) (d : Nat) (Q : vd_M → (Option Value ⊕ Nat) → Prop) : vd_wp d 25 0 [.ref 10, .int (vd_I (len : Int)), .int (vd_I (ix : Int)), .int (vd_I (k : Int)), vd_U, vd_U, vd_U, vd_U, vd_U] [] (vd_mf M f) Q = Q (vd_mf M f) (.inl (some (.long (vd_J ((vd_ll (vd_Tp f 11) (len - ix + 1 + k * s) s 0 : Nat) : Int))))) := by
  have lU := vd_lgU
  have e1 : (len : Int) - 1 = ((len - 1 : Nat) : Int) := by omega
  have e2 : 1 + ((vd_Tp f 11 (len - 1) / 8 % 4 : Nat) : Int) = (s : Int) := by omega
  have hs4 : s ≤ 4 ∧ 1 ≤ s := by omega
  have e3 : (len : Int) - (ix : Int) + 1 + (k : Int) * (s : Int) = ((len - ix + 1 + k * s : Nat) : Int) := by
    have : (((k * s : Nat)) : Int) = (k : Int) * (s : Int) := Int.natCast_mul k s
    omega
  have l := vd_L25 hM (f := f) (vd_I (len : Int)) (vd_I (ix : Int)) (vd_I (k : Int)) (vd_I (s : Int)) d Q s 0 hp (by unfold vd_llb; omega)
  rw [vd_S25_0 hM]
  simp (disch := first | assumption | omega) only [vd_I_sub, e1, vd_S25_8 hM, Int.toNat_natCast, vd_Tp_3, vd_I_add, e2, vd_I_mul, e3, vd_J0]
  exact l
theorem vd_L172 (hN : vd_SR N) (x1 x2 : Int32) {p : Nat} (hx : x1 = vd_I (p : Int)) (d : Nat) (Q : vd_M → (Option Value ⊕ Nat) → Prop) : ∀ n a, p + n ≤ 65536 → vd_llb n a → vd_wp d 172 7 [.ref 63, .int x1, .int x2, .long (vd_J (a : Int)), vd_U, .int (vd_I ((n : Int) - 1))] [] (vd_mf N g) Q = Q (vd_mf N g) (.inl (some (.long (vd_J ((vd_ll (vd_Tp g 64) p n a : Nat) : Int))))) := by
  subst hx
  intro n
  induction n with
  | zero =>
    intro a hp h
    rw [vd_S172_7 hN]
    simp (disch := omega) only [vd_I_toInt, show (((0 : Nat) : Int) - 1 < 0) by decide, if_true, vd_S172_38 hN]
    rfl
  | succ n ih =>
    intro a hp h
    have h4 : n + 1 ≤ 4 := h.1
    have e1 : (((n + 1 : Nat) : Int) - 1) = (n : Int) := by omega
    have e2 : (p : Int) + (n : Int) = ((p + n : Nat) : Int) := by omega
    have e3 : (n : Int) + (-1) = (n : Int) - 1 := rfl
    have tb := vd_Tp_b g 64 (p + n)
    have e4 : 256 * (a : Int) + ((vd_Tp g 64 (p + n) : Nat) : Int) = ((256 * a + vd_Tp g 64 (p + n) : Nat) : Int) := by omega
    have ab : a < 16777216 := by unfold vd_llb at h; omega
    have lU := vd_lgU
    have so := vd_J_sor ab tb
    have i := ih (256 * a + vd_Tp g 64 (p + n)) (by omega) (by unfold vd_llb at h ⊢; omega)
    rw [vd_S172_7 hN, e1]
    simp (disch := first | assumption | omega) only [vd_I_toInt, show ¬ ((n : Int) < 0) by omega, if_false, vd_S172_12 hN, vd_I_add, e2, vd_S172_24 hN, Int.toNat_natCast, vd_Tp_and, so, e4, e3]
    exact i
theorem vd_P172 (hN : vd_SR N) {p s : Nat} (hs : s ≤ 4) (s1 : 1 ≤ s) (hp : p + s ≤ 65536) (d : Nat) (Q : vd_M → (Option Value ⊕ Nat) → Prop) : vd_wp d 172 0 [.ref 63, .int (vd_I (p : Int)), .int (vd_I (s : Int)), vd_U, vd_U, vd_U] [] (vd_mf N g) Q = Q (vd_mf N g) (.inl (some (.long (vd_J ((vd_ll (vd_Tp g 64) p s 0 : Nat) : Int))))) := by
  have lU := vd_lgU
  have l := vd_L172 hN (g := g) (vd_I (p : Int)) (vd_I (s : Int)) rfl d Q s 0 hp (by unfold vd_llb; omega)
  simp (disch := first | assumption | omega) only [vd_S172_0 hN, vd_J0, vd_I_sub]
  exact l
/-- the sum of n lengths -/
def vd_sm (L : Nat → Nat) : Nat → Nat
  | 0 => 0
  | n + 1 => vd_sm L n + L n
theorem vd_sm_le (L : Nat → Nat) : ∀ n k, k ≤ n → vd_sm L k ≤ vd_sm L n := by
  intro n
  induction n with
  | zero => intro k h; have : k = 0 := by omega
            subst this; exact Nat.le_refl _
  | succ n ih =>
    intro k h
    by_cases c : k = n + 1
    · subst c; exact Nat.le_refl _
    · exact Nat.le_trans (ih k (by omega)) (Nat.le_add_right _ _)
theorem vd_sm_b {L : Nat → Nat} (h : ∀ k, L k < 4294967296) : ∀ n, vd_sm L n ≤ n * 4294967296 := by
  intro n
  induction n with
  | zero => exact Nat.le_refl _
  | succ n ih =>
    have := h n
    have e : vd_sm L (n + 1) = vd_sm L n + L n := rfl
    omega
end VDIX
