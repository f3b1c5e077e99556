/-! ===== lemmas that the segments use ===== -/
theorem vd_I_ne0 {b : Int} (h3 : 0 < b) (h4 : b < 2147483648) : vd_I b ≠ 0 := by
  intro h
  have e := congrArg Int32.toInt h
  rw [vd_I_toInt (by omega) h4] at e
  have e0 : (0 : Int32).toInt = 0 := by decide
  omega
theorem vd_ltl {M : vd_M} {o n : Nat} {z : Int} (h : vd_l M o = n) (h2 : z < (n : Int)) : z < (vd_l M o : Int) := by rw [h]; exact h2
theorem vd_lt31 {z n : Int} (h : z < n) (hn : n ≤ 2147483648) : z < 2147483648 := Int.lt_of_lt_of_le h hn
theorem vd_kge {a b : Nat} (h : a = b) (hb : 36 ≤ b) : 36 ≤ a := by omega
theorem vd_klt {a b : Nat} (h : a = b) (hb : b < 41) : a < 41 := by omega
theorem vd_beq {a b : Nat} {c : Bool} (h : a = b) : (c || (a == b)) = true := by
  subst h
  simp
def vd_ua (f : Nat → Nat → Int32) (o : Nat) (g : Nat → Int32) : Nat → Nat → Int32 := fun a b => if a = o then g b else f a b
theorem vd_ua_at (f : Nat → Nat → Int32) (o : Nat) (g : Nat → Int32) (a b : Nat) : vd_ua f o g a b = if a = o then g b else f a b := Eq.trans rfl rfl
theorem vd_sa_mf (M : vd_M) (f : Nat → Nat → Int32) (o : Nat) (g : Nat → Int32) : vd_sa (vd_mf M f) o g = vd_mf M (vd_ua f o g) := Eq.trans rfl rfl
/-- what arraycopy may copy -/
def vd_cpk (k : Nat) (f : Nat → Int32) (sp n : Nat) : Prop := k = 32 ∨ (k = 34 ∧ ∀ i, i < n → (f (sp + i) = 0 ∨ f (sp + i) = 1))
section VDSL
variable {d k pc len a b o v n : Nat} {cv : Value} {i : Instr} {ls st : List Value} {M : vd_M} {Q : vd_M → (Option Value ⊕ Nat) → Prop}
theorem vd_g_getRc {q : Nat} (he : vd_pI k pc = some (.getfield q, len, 1, a, b, cv)) (hf : vd_isr (vd_fty a b) = true) (hk : vd_k M o = a) (hr : vd_r M o b = some v) : vd_wp d k pc ls (.ref o :: st) M Q = vd_wp d k (pc + len) ls (.ref v :: st) M Q := by
  rw [vd_g_getR he hf hk, hr]
  rfl
theorem vd_g_lenc {kk : Nat} (he : vd_pI k pc = some (.arraylength, len, 1, a, b, cv)) (h9 : 9 ≤ o) (hk : vd_k M o = kk) (h1 : 32 ≤ kk) (h2 : kk < 41) (hl : vd_l M o = n) : vd_wp d k pc ls (.ref o :: st) M Q = vd_wp d k (pc + len) ls (.int (vd_I (n : Int)) :: st) M Q := by
  rw [vd_g_len he h9 (by omega) (by omega), hl]
theorem vd_g_ldiv {x y : Int64} (he : vd_pI k pc = some (.ldiv, len, 0, a, b, cv)) (h : y ≠ 0) : vd_wp d k pc ls (.long y :: .long x :: st) M Q = vd_wp d k (pc + len) ls (.long (x / y) :: st) M Q := vd_wp_alu he (by simp only [vd_alu, if_neg h])
theorem vd_g_cp {zn zd zs : Int} {o0 o1 : Nat} (he : vd_pI k pc = some (i, len, 6, a, b, cv)) (hc : vd_cs st ≤ 8) (h0 : 10 ≤ o1) (h1 : vd_k M o0 = vd_k M o1) (h2 : vd_cpk (vd_k M o1) (vd_i M o0) zs.toNat zn.toNat) (h3 : 0 ≤ zn) (h4 : 0 ≤ zd) (h5 : 0 ≤ zs) (h6 : zs + zn ≤ (vd_l M o0 : Int)) (h7 : zd + zn ≤ (vd_l M o1 : Int)) (h8 : (vd_l M o0 : Int) < 2147483648) (h9 : (vd_l M o1 : Int) < 2147483648) : vd_wp d k pc ls (.int (vd_I zn) :: .int (vd_I zd) :: .ref o1 :: .int (vd_I zs) :: .ref o0 :: st) M Q = vd_wp d k (pc + len) ls st (vd_sa M o1 (va_cpy (vd_i M o0) (vd_i M o1) zs.toNat zd.toNat zn.toNat)) Q := by
  have e1 := vd_I_nat h3 (show zn < 2147483648 by omega)
  have e2 := vd_I_nat h4 (show zd < 2147483648 by omega)
  have e3 := vd_I_nat h5 (show zs < 2147483648 by omega)
  refine vd_wp_cp he ?_
  simp only [vd_cp, e1, e2, e3]
  rw [if_pos]
  refine ⟨⟨h0, h1, hc, h2⟩, ?_⟩
  rintro (g | g | g | g | g)
  · exact vd_I_neg0 h3 (by omega) g
  · exact vd_I_neg0 h4 (by omega) g
  · exact vd_I_neg0 h5 (by omega) g
  · omega
  · omega
end VDSL
