/-! ===== decode ===== -/
theorem vd_ll_congr {T T' : Nat → Nat} {p : Nat} : ∀ n a, (∀ i, p ≤ i → i < p + n → T i = T' i) → vd_ll T p n a = vd_ll T' p n a := by
  intro n
  induction n with
  | zero => intro a _; rfl
  | succ n ih =>
    intro a h
    show vd_ll T p n (256 * a + T (p + n)) = vd_ll T' p n (256 * a + T' (p + n))
    rw [h (p + n) (by omega) (by omega)]
    exact ih _ (fun i a b => h i a (by omega))
/-- what the class leaves; a cells and b slots may be new -/
def vd_Le (M M' : vd_M) (f f' : Nat → Nat → Int32) (a b : Nat) : Prop := (∀ c i, (c < 10 ∨ c = 15 ∨ (63 ≤ c ∧ c ≤ 196)) → f' c i = f c i) ∧ (∀ c, c < 197 → vd_k M' c = vd_k M c ∧ vd_l M' c = vd_l M c) ∧ (∀ c i, (c < 10 ∨ (63 ≤ c ∧ c ≤ 196)) → vd_r M' c i = vd_r M c i) ∧ ((∀ c i, c < vd_n M → vd_j M' c i = vd_j M c i) ∧ vd_n M ≤ vd_n M') ∧ (vd_c M' + 2 * vd_nop M' ≤ vd_c M + 2 * vd_nop M + a ∧ vd_s M' + (55296 * vd_nop M' + 3 * vd_nop M') ≤ vd_s M + (55296 * vd_nop M + 3 * vd_nop M) + b)
theorem vd_Lc.e {M M' : vd_M} {f f' : Nat → Nat → Int32} (h : vd_Lc M M' f f') : vd_Le M M' f f' 0 0 := ⟨fun c i q => h.1 c i (by omega), h.2.1, h.2.2.1, h.2.2.2.1, Nat.le_of_eq h.2.2.2.2.1, Nat.le_of_eq h.2.2.2.2.2⟩
theorem vd_Le.trans {M M' M'' : vd_M} {f f' f'' : Nat → Nat → Int32} {a b a' b' : Nat} (h : vd_Le M M' f f' a b) (h' : vd_Le M' M'' f' f'' a' b') : vd_Le M M'' f f'' (a + a') (b + b') :=
  ⟨fun c i q => (h'.1 c i q).trans (h.1 c i q), fun c q => ⟨(h'.2.1 c q).1.trans (h.2.1 c q).1, (h'.2.1 c q).2.trans (h.2.1 c q).2⟩, fun c i q => (h'.2.2.1 c i q).trans (h.2.2.1 c i q), ⟨fun c i q => (h'.2.2.2.1.1 c i (Nat.lt_of_lt_of_le q h.2.2.2.1.2)).trans (h.2.2.2.1.1 c i q), Nat.le_trans h.2.2.2.1.2 h'.2.2.2.1.2⟩, by
    have q1 := h.2.2.2.2.1
    have q2 := h'.2.2.2.2.1
    have q3 := h.2.2.2.2.2
    have q4 := h'.2.2.2.2.2
    generalize vd_s M + (55296 * vd_nop M + 3 * vd_nop M) = u at *
    generalize vd_s M' + (55296 * vd_nop M' + 3 * vd_nop M') = v at *
    generalize vd_s M'' + (55296 * vd_nop M'' + 3 * vd_nop M'') = w at *
    generalize vd_c M + 2 * vd_nop M = u' at *
    generalize vd_c M' + 2 * vd_nop M' = v' at *
    generalize vd_c M'' + 2 * vd_nop M'' = w' at *
    omega⟩
theorem vd_Le.ints {M : vd_M} {f f' : Nat → Nat → Int32} (h : ∀ c i, (c < 10 ∨ c = 15 ∨ (63 ≤ c ∧ c ≤ 196)) → f' c i = f c i) : vd_Le M M f f' 0 0 := ⟨h, fun _ _ => ⟨rfl, rfl⟩, fun _ _ _ => rfl, ⟨fun _ _ _ => rfl, Nat.le_refl _⟩, Nat.le_refl _, Nat.le_refl _⟩
/-- the bytes of the index, 0 for none -/
def vd_ixl (T : Nat → Nat) (n : Nat) : Nat := if n = 0 then 0 else if T (n - 1) / 32 = 6 ∧ 2 + (T (n - 1) / 8 % 4 + 1) * (T (n - 1) % 8 + 1) ≤ n ∧ T (n - (2 + (T (n - 1) / 8 % 4 + 1) * (T (n - 1) % 8 + 1))) = T (n - 1) then 2 + (T (n - 1) / 8 % 4 + 1) * (T (n - 1) % 8 + 1) else 0
section VDDC
variable {M N : vd_M} {ow fa lo lf : Nat} {f g : Nat → Nat → Int32}
theorem vd_P23 (hM : vd_SC M ow fa lo lf) {n : Nat} (hn : n ≤ 65536) (d : Nat) (Q : vd_M → (Option Value ⊕ Nat) → Prop) : vd_wp d 23 0 [.ref 10, .int (vd_I (n : Int)), vd_U, vd_U] [] (vd_mf M f) Q = Q (vd_mf M f) (.inl (some (.int (vd_I ((vd_ixl (vd_Tp f 11) n : Nat) : Int))))) := by
  unfold vd_ixl
  by_cases c : n = 0
  · subst c
    rw [if_pos rfl]
    simp (disch := omega) only [vd_S23_0 hM, vd_I_toInt, show ¬ (0 < ((0 : Nat) : Int)) by decide, if_false, vd_S23_19 hM, vd_S23_20 hM, show ((0 : Int) < 192) by decide, if_true, vd_S23_35 hM]
    rfl
  · rw [if_neg c]
    have e1 : (n : Int) - 1 = ((n - 1 : Nat) : Int) := by omega
    have tb := vd_Tp_b f 11 (n - 1)
    obtain ⟨m, hm⟩ : ∃ m, m = vd_Tp f 11 (n - 1) := ⟨_, rfl⟩
    have e0 : vd_wp d 23 0 [.ref 10, .int (vd_I (n : Int)), vd_U, vd_U] [] (vd_mf M f) Q = vd_wp d 23 20 [.ref 10, .int (vd_I (n : Int)), vd_U, vd_U] [.int (vd_I (m : Int))] (vd_mf M f) Q := by
      simp (disch := omega) only [vd_S23_0 hM, vd_I_toInt, show (0 < (n : Int)) by omega, if_true, vd_S23_4 hM, vd_I_sub, e1, vd_S23_11 hM, Int.toNat_natCast, vd_Tp_and, hm]
    rw [e0, ← hm]
    rw [← hm] at tb
    by_cases c1 : m < 192
    · rw [if_neg (by omega)]
      simp (disch := omega) only [vd_S23_20 hM, vd_I_toInt, show ((m : Int) < 192) by omega, if_true, vd_S23_35 hM]
      rfl
    · by_cases c2 : 223 < m
      · rw [if_neg (by omega)]
        simp (disch := omega) only [vd_S23_20 hM, vd_I_toInt, show ¬ ((m : Int) < 192) by omega, if_false, vd_S23_28 hM, show ((223 : Int) < (m : Int)) by omega, if_true, vd_S23_35 hM]
        rfl
      · have e3 := vd_mm3 tb
        have e7 := vd_m7 m
        have hs : m / 8 % 4 ≤ 3 := by omega
        have hq : m % 8 ≤ 7 := by omega
        obtain ⟨a, ha⟩ : ∃ a, a = m / 8 % 4 + 1 := ⟨_, rfl⟩
        obtain ⟨b, hb⟩ : ∃ b, b = m % 8 + 1 := ⟨_, rfl⟩
        have a4 : a ≤ 4 := by omega
        have b8 : b ≤ 8 := by omega
        have ab : a * b ≤ 4 * 8 := Nat.mul_le_mul a4 b8
        have ea : 1 + ((m / 8 % 4 : Nat) : Int) = (a : Int) := by omega
        have eb : 1 + ((m % 8 : Nat) : Int) = (b : Int) := by omega
        have eab : 2 + (a : Int) * (b : Int) = ((2 + a * b : Nat) : Int) := by
          have : ((a * b : Nat) : Int) = (a : Int) * (b : Int) := Int.natCast_mul a b
          omega
        rw [← ha, ← hb]
        by_cases c3 : n < 2 + a * b
        · rw [if_neg (by omega)]
          simp (disch := omega) only [vd_S23_20 hM, vd_I_toInt, show ¬ ((m : Int) < 192) by omega, if_false, vd_S23_28 hM, show ¬ ((223 : Int) < (m : Int)) by omega, vd_S23_37 hM, e3, e7, vd_I_add, ea, eb, vd_I_mul, eab, show ((n : Int) < ((2 + a * b : Nat) : Int)) by omega, if_true, vd_S23_79 hM, vd_S23_80 hM]
          rfl
        · have en : (n : Int) - ((2 + a * b : Nat) : Int) = ((n - (2 + a * b) : Nat) : Int) := by omega
          have tb2 := vd_Tp_b f 11 (n - (2 + a * b))
          by_cases c4 : vd_Tp f 11 (n - (2 + a * b)) = m
          · rw [if_pos ⟨by omega, by omega, c4⟩]
            simp (disch := omega) only [vd_S23_20 hM, vd_I_toInt, show ¬ ((m : Int) < 192) by omega, if_false, vd_S23_28 hM, show ¬ ((223 : Int) < (m : Int)) by omega, vd_S23_37 hM, e3, e7, vd_I_add, ea, eb, vd_I_mul, eab, show ¬ ((n : Int) < ((2 + a * b : Nat) : Int)) by omega, vd_S23_59 hM, vd_I_sub, en, vd_S23_66 hM, Int.toNat_natCast, vd_Tp_and, c4, eq_self, if_true, vd_S23_75 hM, vd_S23_80 hM]
          · rw [if_neg (fun q => c4 q.2.2)]
            simp (disch := omega) only [vd_S23_20 hM, vd_I_toInt, show ¬ ((m : Int) < 192) by omega, if_false, vd_S23_28 hM, show ¬ ((223 : Int) < (m : Int)) by omega, vd_S23_37 hM, e3, e7, vd_I_add, ea, eb, vd_I_mul, eab, show ¬ ((n : Int) < ((2 + a * b : Nat) : Int)) by omega, vd_S23_59 hM, vd_I_sub, en, vd_S23_66 hM, Int.toNat_natCast, vd_Tp_and, show ¬ (((vd_Tp f 11 (n - (2 + a * b)) : Nat) : Int) = (m : Int)) by omega, vd_S23_79 hM, vd_S23_80 hM]
            rfl
/-- what an index is -/
def vd_IX (T : Nat → Nat) (n s mn at_ : Nat) : Prop := (1 ≤ n ∧ n ≤ 65536) ∧ s = T (n - 1) / 8 % 4 + 1 ∧ mn = T (n - 1) % 8 + 1 ∧ at_ + 2 + s * mn = n ∧ (s ≤ 4 ∧ 1 ≤ s ∧ mn ≤ 8 ∧ 1 ≤ mn)
def vd_Lx (T : Nat → Nat) (s at_ : Nat) (k : Nat) : Nat := vd_ll T (at_ + 1 + s * k) s 0
theorem vd_IX.in {T : Nat → Nat} {n s mn at_ : Nat} (h : vd_IX T n s mn at_) {k : Nat} (hk : k < mn) : at_ + 1 + s * k + s ≤ n - 1 := by
  obtain ⟨_, _, _, e, _⟩ := h
  have : s * (k + 1) ≤ s * mn := Nat.mul_le_mul_left s hk
  rw [Nat.mul_add, Nat.mul_one] at this
  omega
theorem vd_Q25 (hM : vd_SC M ow fa lo lf) {n s mn at_ k : Nat} (h : vd_IX (vd_Tp f 11) n s mn at_) (hk : k < mn) (d : Nat) (Q : vd_M → (Option Value ⊕ Nat) → Prop) : vd_wp d 25 0 [.ref 10, .int (vd_I (n : Int)), .int (vd_I ((n - at_ : Nat) : Int)), .int (vd_I (k : Int)), vd_U, vd_U, vd_U, vd_U, vd_U] [] (vd_mf M f) Q = Q (vd_mf M f) (.inl (some (.long (vd_J ((vd_Lx (vd_Tp f 11) s at_ k : Nat) : Int))))) := by
  have i := h.in hk
  obtain ⟨⟨n1, n2⟩, hs, hm, e, s4, s1, m8, m1⟩ := h
  have ec : k * s = s * k := Nat.mul_comm k s
  have ea : n - (n - at_) + 1 + k * s = at_ + 1 + s * k := by
    have : n - (n - at_) = at_ := by omega
    rw [this, ec]
  have p := vd_P25 hM (f := f) (len := n) (ix := n - at_) (k := k) (s := s) n1 n2 hs (by omega) (by omega) (by rw [ea]; omega) d Q
  rw [ea] at p
  exact p
theorem vd_L24 (hM : vd_SC M ow fa lo lf) {n s mn at_ : Nat} (h : vd_IX (vd_Tp f 11) n s mn at_) (d : Nat) (Q : vd_M → (Option Value ⊕ Nat) → Prop) : ∀ r k, k + r = mn → vd_wp (d + 1) 24 20 [.ref 10, .int (vd_I (n : Int)), .int (vd_I ((n - at_ : Nat) : Int)), .int (vd_I (mn : Int)), .long (vd_J ((vd_sm (vd_Lx (vd_Tp f 11) s at_) k : Nat) : Int)), vd_U, .int (vd_I (k : Int))] [] (vd_mf M f) Q = Q (vd_mf M f) (.inl (some (.long (vd_J ((vd_sm (vd_Lx (vd_Tp f 11) s at_) mn : Nat) : Int))))) := by
  have m8 := h.2.2.2.2
  intro r
  induction r with
  | zero =>
    intro k hk
    have : k = mn := by omega
    subst this
    rw [vd_S24_20 hM]
    simp (disch := omega) only [vd_I_toInt, show ¬ ((k : Int) < (k : Int)) by omega, if_false, vd_S24_45 hM]
  | succ r ih =>
    intro k hk
    have i := ih (k + 1) (by omega)
    have ek : (k : Int) + 1 = ((k + 1 : Nat) : Int) := by omega
    have es : ((vd_sm (vd_Lx (vd_Tp f 11) s at_) k : Nat) : Int) + ((vd_Lx (vd_Tp f 11) s at_ k : Nat) : Int) = ((vd_sm (vd_Lx (vd_Tp f 11) s at_) (k + 1) : Nat) : Int) := (Int.natCast_add _ _).symm
    have lU := vd_lgU
    have p := fun Q => vd_Q25 hM h (show k < mn by omega) d Q
    rw [vd_S24_20 hM]
    simp (disch := first | assumption | omega) only [vd_I_toInt, show ((k : Int) < (mn : Int)) by omega, if_true, vd_S24_26 hM, vd_S24_33 hM, p, vd_rs_v, vd_S24_36 hM, vd_J_add, es, vd_I_add, ek]
    exact i
theorem vd_P24 (hM : vd_SC M ow fa lo lf) {n s mn at_ : Nat} (h : vd_IX (vd_Tp f 11) n s mn at_) (d : Nat) (Q : vd_M → (Option Value ⊕ Nat) → Prop) : vd_wp (d + 1) 24 0 [.ref 10, .int (vd_I (n : Int)), .int (vd_I ((n - at_ : Nat) : Int)), vd_U, vd_U, vd_U, vd_U] [] (vd_mf M f) Q = Q (vd_mf M f) (.inl (some (.long (vd_J ((vd_sm (vd_Lx (vd_Tp f 11) s at_) mn : Nat) : Int))))) := by
  have l := vd_L24 hM h d Q mn 0 (by omega)
  obtain ⟨⟨n1, n2⟩, hs, hm, e, s4, s1, m8, m1⟩ := h
  have e1 : (n : Int) - 1 = ((n - 1 : Nat) : Int) := by omega
  have e2 : 1 + ((vd_Tp f 11 (n - 1) % 8 : Nat) : Int) = (mn : Int) := by omega
  have lU := vd_lgU
  rw [vd_S24_0 hM]
  simp (disch := first | assumption | omega) only [vd_I_sub, e1, vd_S24_8 hM, Int.toNat_natCast, vd_Tp_7, vd_I_add, e2, vd_J0]
  exact l
theorem vd_Q172 (hN : vd_SR N) {T : Nat → Nat} (hT : ∀ i, i < 65536 → vd_Tp g 64 i = T i) {n s mn at_ k : Nat} (h : vd_IX T n s mn at_) (hk : k < mn) (d : Nat) (Q : vd_M → (Option Value ⊕ Nat) → Prop) : vd_wp d 172 0 [.ref 63, .int (vd_I ((at_ + 1 + s * k : Nat) : Int)), .int (vd_I (s : Int)), vd_U, vd_U, vd_U] [] (vd_mf N g) Q = Q (vd_mf N g) (.inl (some (.long (vd_J ((vd_Lx T s at_ k : Nat) : Int))))) := by
  have i := h.in hk
  obtain ⟨⟨n1, n2⟩, hs, hm, e, s4, s1, m8, m1⟩ := h
  rw [vd_P172 hN s4 s1 (by omega) d Q, vd_ll_congr (T' := T) s 0 (fun i a b => hT i (by omega))]
  rfl
theorem vd_L171 (hN : vd_SR N) {T : Nat → Nat} (hT : ∀ i, i < 65536 → vd_Tp g 64 i = T i) {n s mn at_ : Nat} (h : vd_IX T n s mn at_) (a8 a9 : Value) (d : Nat) (Q : vd_M → (Option Value ⊕ Nat) → Prop) : ∀ r k, k + r = mn → vd_wp (d + 1) 171 15 [.ref 63, .int (vd_I (n : Int)), .int (vd_I (s : Int)), .int (vd_I (mn : Int)), .int (vd_I (at_ : Int)), .long (vd_J ((vd_sm (vd_Lx T s at_) k : Nat) : Int)), vd_U, .int (vd_I (k : Int)), a8, a9] [] (vd_mf N g) Q = vd_wp (d + 1) 171 46 [.ref 63, .int (vd_I (n : Int)), .int (vd_I (s : Int)), .int (vd_I (mn : Int)), .int (vd_I (at_ : Int)), .long (vd_J ((vd_sm (vd_Lx T s at_) mn : Nat) : Int)), vd_U, .int (vd_I (mn : Int)), a8, a9] [] (vd_mf N g) Q := by
  have m8 := h.2.2.2.2
  have n2 := h.1.2
  have ee := h.2.2.2.1
  intro r
  induction r with
  | zero =>
    intro k hk
    have : k = mn := by omega
    subst this
    rw [vd_S171_15 hN]
    simp (disch := omega) only [vd_I_toInt, show ¬ ((k : Int) < (k : Int)) by omega, if_false]
  | succ r ih =>
    intro k hk
    have i := ih (k + 1) (by omega)
    have ek : (k : Int) + 1 = ((k + 1 : Nat) : Int) := by omega
    have es : ((vd_sm (vd_Lx T s at_) k : Nat) : Int) + ((vd_Lx T s at_ k : Nat) : Int) = ((vd_sm (vd_Lx T s at_) (k + 1) : Nat) : Int) := (Int.natCast_add _ _).symm
    have ea : (at_ : Int) + 1 + (s : Int) * (k : Int) = ((at_ + 1 + s * k : Nat) : Int) := by
      have : ((s * k : Nat) : Int) = (s : Int) * (k : Int) := Int.natCast_mul s k
      omega
    have lU := vd_lgU
    have p := fun Q => vd_Q172 hN hT h (show k < mn by omega) d Q
    rw [vd_S171_15 hN]
    simp (disch := first | assumption | omega) only [vd_I_toInt, show ((k : Int) < (mn : Int)) by omega, if_true, vd_S171_21 hN, vd_I_add, vd_I_mul, ea, vd_S171_34 hN, p, vd_rs_v, vd_S171_37 hN, vd_J_add, es, ek]
    exact i
end VDDC
