/-! ===== whole numbers on the stack; rules of the instructions ===== -/
def vd_I (z : Int) : Int32 := Int32.ofInt z
theorem vd_I_add (a b : Int) : vd_I a + vd_I b = vd_I (a + b) := (Int32.ofInt_add a b).symm
theorem vd_I_sub (a b : Int) : vd_I a - vd_I b = vd_I (a - b) := (Int32.ofInt_sub a b).symm
theorem vd_I_mul (a b : Int) : vd_I a * vd_I b = vd_I (a * b) := (Int32.ofInt_mul a b).symm
theorem vd_I_neg (a : Int) : -(vd_I a) = vd_I (-a) := (Int32.ofInt_neg a).symm
theorem vd_I_toInt {z : Int} (h1 : -2147483648 ≤ z) (h2 : z < 2147483648) : (vd_I z).toInt = z := Int32.toInt_ofInt_of_le h1 h2
theorem vd_I_of (x : Int32) : ∃ z : Int, x = vd_I z ∧ -2147483648 ≤ z ∧ z < 2147483648 := ⟨x.toInt, (Int32.ofInt_toInt x).symm, Int32.le_toInt x, Int32.toInt_lt x⟩
theorem vd_I_nat {z : Int} (h1 : 0 ≤ z) (h2 : z < 2147483648) : (vd_I z).toNatClampNeg = z.toNat := by
  show (vd_I z).toInt.toNat = _
  rw [vd_I_toInt (by omega) h2]
theorem vd_I_neg0 {z : Int} (h1 : 0 ≤ z) (h2 : z < 2147483648) : ¬ (vd_I z < 0) := by
  rw [Int32.lt_iff_toInt_lt, vd_I_toInt (by omega) h2]
  show ¬ (z < 0)
  omega
theorem vd_I_ofNat (n : Nat) : Int32.ofNat n = vd_I (n : Int) := (Int32.ofInt_eq_ofNat).symm
theorem vd_c_lt0 {x : Int32} : x < 0 ↔ x.toInt < 0 := Int32.lt_iff_toInt_lt
theorem vd_c_ge0 {x : Int32} : 0 ≤ x ↔ ¬ x.toInt < 0 := by rw [Int32.le_iff_toInt_le]; show 0 ≤ x.toInt ↔ _; omega
theorem vd_c_gt0 {x : Int32} : 0 < x ↔ 0 < x.toInt := Int32.lt_iff_toInt_lt
theorem vd_c_le0 {x : Int32} : x ≤ 0 ↔ ¬ 0 < x.toInt := by rw [Int32.le_iff_toInt_le]; show x.toInt ≤ 0 ↔ _; omega
theorem vd_c_eq0 {x : Int32} : x = 0 ↔ x.toInt = 0 := Int32.toInt_inj.symm
theorem vd_c_ne0 {x : Int32} : x ≠ 0 ↔ ¬ x.toInt = 0 := not_congr Int32.toInt_inj.symm
theorem vd_c_lt {x y : Int32} : x < y ↔ x.toInt < y.toInt := Int32.lt_iff_toInt_lt
theorem vd_c_ge {x y : Int32} : y ≤ x ↔ ¬ x.toInt < y.toInt := by rw [Int32.le_iff_toInt_le]; omega
theorem vd_c_gt {x y : Int32} : y < x ↔ y.toInt < x.toInt := Int32.lt_iff_toInt_lt
theorem vd_c_le {x y : Int32} : x ≤ y ↔ ¬ y.toInt < x.toInt := by rw [Int32.le_iff_toInt_le]; omega
theorem vd_c_eq {x y : Int32} : x = y ↔ x.toInt = y.toInt := Int32.toInt_inj.symm
theorem vd_c_ne {x y : Int32} : x ≠ y ↔ ¬ x.toInt = y.toInt := not_congr Int32.toInt_inj.symm
section VDR
variable {d k pc len a b n : Nat} {cv : Value} {i : Instr} {ls ls' st st' : List Value} {M : vd_M} {Q : vd_M → (Option Value ⊕ Nat) → Prop} {o v : Nat} {x : Int32} {z : Int}
theorem vd_stS {j : Nat} {v w : Value} (h1 : ls[j]? = some w) (h2 : vd_long w = false) (h3 : j + 1 < ls.length) : vd_st1 ls (j + 1) v = some (ls.set (j + 1) v) := by
  unfold vd_st1
  rw [if_pos h3]
  simp only [h1, h2]
  rfl
theorem vd_stL {j : Nat} {v w : Value} (h1 : ls[j]? = some w) (h2 : vd_long w = false) (h3 : j + 2 < ls.length) : vd_st2 ls (j + 1) v = some ((ls.set (j + 1) v).set (j + 2) vd_U) := by
  unfold vd_st2
  rw [if_pos h3]
  simp only [h1, h2]
  rfl
theorem vd_g_ist (he : vd_pI k pc = some (.istore n, len, 0, a, b, cv)) (h : vd_st1 ls n (.int x) = some ls') : vd_wp d k pc ls (.int x :: st) M Q = vd_wp d k (pc + len) ls' st M Q := vd_wp_alu he (by simp only [vd_alu, h]; rfl)
theorem vd_g_istn {n : Fin 4} (he : vd_pI k pc = some (.istore_n n, len, 0, a, b, cv)) (h : vd_st1 ls (n : Nat) (.int x) = some ls') : vd_wp d k pc ls (.int x :: st) M Q = vd_wp d k (pc + len) ls' st M Q := vd_wp_alu he (by simp only [vd_alu, h]; rfl)
theorem vd_g_ast (he : vd_pI k pc = some (.astore n, len, 0, a, b, cv)) (h : vd_st1 ls n (.ref o) = some ls') : vd_wp d k pc ls (.ref o :: st) M Q = vd_wp d k (pc + len) ls' st M Q := vd_wp_alu he (by simp only [vd_alu, h]; rfl)
theorem vd_g_astn {n : Fin 4} (he : vd_pI k pc = some (.astore_n n, len, 0, a, b, cv)) (h : vd_st1 ls (n : Nat) (.ref o) = some ls') : vd_wp d k pc ls (.ref o :: st) M Q = vd_wp d k (pc + len) ls' st M Q := vd_wp_alu he (by simp only [vd_alu, h]; rfl)
theorem vd_g_ast0 (he : vd_pI k pc = some (.astore n, len, 0, a, b, cv)) (h : vd_st1 ls n .null = some ls') : vd_wp d k pc ls (.null :: st) M Q = vd_wp d k (pc + len) ls' st M Q := vd_wp_alu he (by simp only [vd_alu, h]; rfl)
theorem vd_g_astn0 {n : Fin 4} (he : vd_pI k pc = some (.astore_n n, len, 0, a, b, cv)) (h : vd_st1 ls (n : Nat) .null = some ls') : vd_wp d k pc ls (.null :: st) M Q = vd_wp d k (pc + len) ls' st M Q := vd_wp_alu he (by simp only [vd_alu, h]; rfl)
theorem vd_g_lst {y : Int64} (he : vd_pI k pc = some (.lstore n, len, 0, a, b, cv)) (h : vd_st2 ls n (.long y) = some ls') : vd_wp d k pc ls (.long y :: st) M Q = vd_wp d k (pc + len) ls' st M Q := vd_wp_alu he (by simp only [vd_alu, h]; rfl)
theorem vd_g_lstn {n : Fin 4} {y : Int64} (he : vd_pI k pc = some (.lstore_n n, len, 0, a, b, cv)) (h : vd_st2 ls (n : Nat) (.long y) = some ls') : vd_wp d k pc ls (.long y :: st) M Q = vd_wp d k (pc + len) ls' st M Q := vd_wp_alu he (by simp only [vd_alu, h]; rfl)
theorem vd_g_inc {q : Int} (he : vd_pI k pc = some (.iinc n q, len, 0, a, b, cv)) (h1 : ls[n]? = some (.int x)) (h : vd_st1 ls n (.int (x + vd_I q)) = some ls') : vd_wp d k pc ls st M Q = vd_wp d k (pc + len) ls' st M Q := vd_wp_alu he (by simp only [vd_alu, h1]; rw [show x + Int32.ofInt q = x + vd_I q from rfl, h]; rfl)
/-- a constant -/
theorem vd_g_con {y : Int32} (he : vd_pI k pc = some (i, len, 0, a, b, cv)) (h : vd_alu i pc len cv ls st = some (pc + len, ls, .int y :: st)) (hy : y = vd_I z) : vd_wp d k pc ls st M Q = vd_wp d k (pc + len) ls (.int (vd_I z) :: st) M Q := by
  rw [vd_wp_alu he h, hy]
theorem vd_g_if {c c' : Prop} [Decidable c] [Decidable c'] {p q : Nat} (he : vd_pI k pc = some (i, len, 0, a, b, cv)) (h : vd_alu i pc len cv ls st = some (if c then p else q, ls, st')) (hc : c ↔ c') : vd_wp d k pc ls st M Q = if c' then vd_wp d k p ls st' M Q else vd_wp d k q ls st' M Q := by
  rw [vd_wp_alu he h]
  by_cases h1 : c
  · rw [if_pos h1, if_pos (hc.mp h1)]
  · rw [if_neg h1, if_neg (fun g => h1 (hc.mpr g))]
theorem vd_g_ifn {c c' : Prop} [Decidable c] [Decidable c'] {p q : Nat} (he : vd_pI k pc = some (i, len, 0, a, b, cv)) (h : vd_alu i pc len cv ls st = some (if c then p else q, ls, st')) (hc : c ↔ ¬ c') : vd_wp d k pc ls st M Q = if c' then vd_wp d k q ls st' M Q else vd_wp d k p ls st' M Q := by
  rw [vd_wp_alu he h]
  by_cases h1 : c
  · rw [if_pos h1, if_neg (hc.mp h1)]
  · rw [if_neg h1, if_pos (Classical.byContradiction fun g => h1 (hc.mpr g))]
theorem vd_g_div {y : Int32} (he : vd_pI k pc = some (.idiv, len, 0, a, b, cv)) (h : y ≠ 0) : vd_wp d k pc ls (.int y :: .int x :: st) M Q = vd_wp d k (pc + len) ls (.int (x / y) :: st) M Q := vd_wp_alu he (by simp only [vd_alu, if_neg h])
theorem vd_g_rem {y : Int32} (he : vd_pI k pc = some (.irem, len, 0, a, b, cv)) (h : y ≠ 0) : vd_wp d k pc ls (.int y :: .int x :: st) M Q = vd_wp d k (pc + len) ls (.int (x - x / y * y) :: st) M Q := vd_wp_alu he (by simp only [vd_alu, if_neg h])
theorem vd_g_dup {v : Value} (he : vd_pI k pc = some (.dup, len, 0, a, b, cv)) (h : vd_long v = false) : vd_wp d k pc ls (v :: st) M Q = vd_wp d k (pc + len) ls (v :: v :: st) M Q := vd_wp_alu he (by simp only [vd_alu, h]; rfl)
theorem vd_g_dupx1 {v w : Value} (he : vd_pI k pc = some (.dup_x1, len, 0, a, b, cv)) (h : vd_long v = false) (h' : vd_long w = false) : vd_wp d k pc ls (v :: w :: st) M Q = vd_wp d k (pc + len) ls (v :: w :: v :: st) M Q := vd_wp_alu he (by simp only [vd_alu, h, h']; rfl)
theorem vd_g_dup2 {v w : Value} (he : vd_pI k pc = some (.dup2, len, 0, a, b, cv)) (h : vd_long v = false) (h' : vd_long w = false) : vd_wp d k pc ls (v :: w :: st) M Q = vd_wp d k (pc + len) ls (v :: w :: v :: w :: st) M Q := vd_wp_alu he (by simp only [vd_alu, h, h']; rfl)
theorem vd_g_pop {v : Value} (he : vd_pI k pc = some (.pop, len, 0, a, b, cv)) (h : vd_long v = false) : vd_wp d k pc ls (v :: st) M Q = vd_wp d k (pc + len) ls st M Q := vd_wp_alu he (by simp only [vd_alu, h]; rfl)
/-! cells -/
theorem vd_g_getI {q : Nat} (he : vd_pI k pc = some (.getfield q, len, 1, a, b, cv)) (hf : vd_isr (vd_fty a b) = false) (hk : vd_k M o = a) : vd_wp d k pc ls (.ref o :: st) M Q = vd_wp d k (pc + len) ls (.int (vd_i M o b) :: st) M Q := vd_wp_mm he (by simp only [vd_mm, if_pos hk, hf]; rfl)
theorem vd_g_getR {q : Nat} (he : vd_pI k pc = some (.getfield q, len, 1, a, b, cv)) (hf : vd_isr (vd_fty a b) = true) (hk : vd_k M o = a) : vd_wp d k pc ls (.ref o :: st) M Q = vd_wp d k (pc + len) ls (vd_vr (vd_r M o b) :: st) M Q := vd_wp_mm he (by simp only [vd_mm, if_pos hk, hf]; rfl)
theorem vd_g_putI {q : Nat} (he : vd_pI k pc = some (.putfield q, len, 1, a, b, cv)) (hf : vd_fok (vd_fty a b) x = true) (hk : vd_k M o = a) : vd_wp d k pc ls (.int x :: .ref o :: st) M Q = vd_wp d k (pc + len) ls st (vd_si M o b x) Q := vd_wp_mm he (by simp only [vd_mm, if_pos (And.intro hk hf)])
theorem vd_g_putR {q : Nat} (he : vd_pI k pc = some (.putfield q, len, 1, a, b, cv)) (hf : vd_isr (vd_fty a b) = true) (hk : vd_k M o = a) : vd_wp d k pc ls (.ref v :: .ref o :: st) M Q = vd_wp d k (pc + len) ls st (vd_sr M o b (some v)) Q := vd_wp_mm he (by simp only [vd_mm, if_pos (And.intro hk hf)])
theorem vd_g_putN {q : Nat} (he : vd_pI k pc = some (.putfield q, len, 1, a, b, cv)) (hf : vd_isr (vd_fty a b) = true) (hk : vd_k M o = a) : vd_wp d k pc ls (.null :: .ref o :: st) M Q = vd_wp d k (pc + len) ls st (vd_sr M o b none) Q := vd_wp_mm he (by simp only [vd_mm, if_pos (And.intro hk hf)])
theorem vd_g_gst {q : Nat} (he : vd_pI k pc = some (.getstatic q, len, 1, a, b, cv)) : vd_wp d k pc ls st M Q = vd_wp d k (pc + len) ls (.ref b :: st) M Q := vd_wp_mm he rfl
theorem vd_g_len (he : vd_pI k pc = some (.arraylength, len, 1, a, b, cv)) (h9 : 9 ≤ o) (h1 : 32 ≤ vd_k M o) (h2 : vd_k M o < 41) : vd_wp d k pc ls (.ref o :: st) M Q = vd_wp d k (pc + len) ls (.int (vd_I (vd_l M o : Int)) :: st) M Q := vd_wp_mm he (by simp only [vd_mm, if_pos (And.intro h9 (And.intro h1 h2)), vd_I_ofNat])
theorem vd_ixok (h1 : 0 ≤ z) (h2 : z < (vd_l M o : Int)) (h3 : z < 2147483648) : ¬ (vd_I z < 0 ∨ vd_l M o ≤ (vd_I z).toNatClampNeg) := by
  rw [vd_I_nat h1 h3]
  rintro (g | g)
  · exact vd_I_neg0 h1 h3 g
  · omega
theorem vd_g_ial (he : vd_pI k pc = some (.iaload, len, 1, a, b, cv)) (hk : vd_k M o = 32) (h1 : 0 ≤ z) (h2 : z < (vd_l M o : Int)) (h3 : z < 2147483648) : vd_wp d k pc ls (.int (vd_I z) :: .ref o :: st) M Q = vd_wp d k (pc + len) ls (.int (vd_i M o z.toNat) :: st) M Q := vd_wp_mm he (by simp only [vd_mm, if_pos (And.intro hk (vd_ixok h1 h2 h3))]; simp only [vd_I_nat h1 h3])
theorem vd_g_bal (he : vd_pI k pc = some (.baload, len, 1, a, b, cv)) (hk : vd_k M o = 33 ∨ vd_k M o = 34) (h1 : 0 ≤ z) (h2 : z < (vd_l M o : Int)) (h3 : z < 2147483648) : vd_wp d k pc ls (.int (vd_I z) :: .ref o :: st) M Q = vd_wp d k (pc + len) ls (.int (vd_i M o z.toNat) :: st) M Q := vd_wp_mm he (by simp only [vd_mm, if_pos (And.intro hk (vd_ixok h1 h2 h3))]; simp only [vd_I_nat h1 h3])
theorem vd_g_lal (he : vd_pI k pc = some (.laload, len, 1, a, b, cv)) (hk : vd_k M o = 35) (h1 : 0 ≤ z) (h2 : z < (vd_l M o : Int)) (h3 : z < 2147483648) : vd_wp d k pc ls (.int (vd_I z) :: .ref o :: st) M Q = vd_wp d k (pc + len) ls (.long (vd_j M o z.toNat) :: st) M Q := vd_wp_mm he (by simp only [vd_mm, if_pos (And.intro hk (vd_ixok h1 h2 h3))]; simp only [vd_I_nat h1 h3])
theorem vd_g_aal (he : vd_pI k pc = some (.aaload, len, 1, a, b, cv)) (hk : 36 ≤ vd_k M o) (hk' : vd_k M o < 41) (h1 : 0 ≤ z) (h2 : z < (vd_l M o : Int)) (h3 : z < 2147483648) : vd_wp d k pc ls (.int (vd_I z) :: .ref o :: st) M Q = vd_wp d k (pc + len) ls (vd_vr (vd_r M o z.toNat) :: st) M Q := vd_wp_mm he (by simp only [vd_mm, if_pos (And.intro (And.intro hk hk') (vd_ixok h1 h2 h3))]; simp only [vd_I_nat h1 h3])
theorem vd_g_ias (he : vd_pI k pc = some (.iastore, len, 1, a, b, cv)) (h0 : 10 ≤ o) (hk : vd_k M o = 32) (h1 : 0 ≤ z) (h2 : z < (vd_l M o : Int)) (h3 : z < 2147483648) : vd_wp d k pc ls (.int x :: .int (vd_I z) :: .ref o :: st) M Q = vd_wp d k (pc + len) ls st (vd_si M o z.toNat x) Q := vd_wp_mm he (by simp only [vd_mm, if_pos (And.intro (And.intro h0 hk) (vd_ixok h1 h2 h3))]; simp only [vd_I_nat h1 h3])
theorem vd_g_bas (he : vd_pI k pc = some (.bastore, len, 1, a, b, cv)) (h0 : 10 ≤ o) (hk : vd_k M o = 33) (h1 : 0 ≤ z) (h2 : z < (vd_l M o : Int)) (h3 : z < 2147483648) : vd_wp d k pc ls (.int x :: .int (vd_I z) :: .ref o :: st) M Q = vd_wp d k (pc + len) ls st (vd_si M o z.toNat x.toInt8.toInt32) Q := vd_wp_mm he (by simp only [vd_mm, if_pos (And.intro (And.intro h0 hk) (vd_ixok h1 h2 h3))]; simp only [vd_I_nat h1 h3])
theorem vd_g_bas1 (he : vd_pI k pc = some (.bastore, len, 1, a, b, cv)) (h0 : 10 ≤ o) (hk : vd_k M o = 34) (h1 : 0 ≤ z) (h2 : z < (vd_l M o : Int)) (h3 : z < 2147483648) : vd_wp d k pc ls (.int x :: .int (vd_I z) :: .ref o :: st) M Q = vd_wp d k (pc + len) ls st (vd_si M o z.toNat (x &&& 1)) Q := vd_wp_mm he (by
  have hn : ¬ ((10 ≤ o ∧ vd_k M o = 33) ∧ ¬ (vd_I z < 0 ∨ vd_l M o ≤ (vd_I z).toNatClampNeg)) := fun g => by have := g.1.2; omega
  simp only [vd_mm, if_neg hn, if_pos (And.intro (And.intro h0 hk) (vd_ixok h1 h2 h3))]; simp only [vd_I_nat h1 h3])
theorem vd_g_las {y : Int64} (he : vd_pI k pc = some (.lastore, len, 1, a, b, cv)) (h0 : 10 ≤ o) (hk : vd_k M o = 35) (h1 : 0 ≤ z) (h2 : z < (vd_l M o : Int)) (h3 : z < 2147483648) : vd_wp d k pc ls (.long y :: .int (vd_I z) :: .ref o :: st) M Q = vd_wp d k (pc + len) ls st (vd_sj M o z.toNat y) Q := vd_wp_mm he (by simp only [vd_mm, if_pos (And.intro (And.intro h0 hk) (vd_ixok h1 h2 h3))]; simp only [vd_I_nat h1 h3])
/-- kinds that fit: a row of references and what it takes -/
def vd_akk (M : vd_M) (o v : Nat) : Prop := (vd_k M o = 36 ∧ vd_k M v = 7) ∨ (vd_k M o = 37 ∧ vd_k M v = 13) ∨ (vd_k M o = 38 ∧ vd_k M v = 32) ∨ (vd_k M o = 39 ∧ vd_k M v = 33) ∨ (vd_k M o = 40 ∧ vd_k M v = 34)
theorem vd_g_aas (he : vd_pI k pc = some (.aastore, len, 1, a, b, cv)) (h0 : 10 ≤ o) (h0' : 10 ≤ v) (hk : vd_akk M o v) (h1 : 0 ≤ z) (h2 : z < (vd_l M o : Int)) (h3 : z < 2147483648) : vd_wp d k pc ls (.ref v :: .int (vd_I z) :: .ref o :: st) M Q = vd_wp d k (pc + len) ls st (vd_sr M o z.toNat (some v)) Q := vd_wp_mm he (by
  unfold vd_akk at hk
  simp only [vd_mm, if_pos (And.intro (And.intro h0 (And.intro h0' hk)) (vd_ixok h1 h2 h3))]; simp only [vd_I_nat h1 h3])
theorem vd_g_new {q : Nat} (he : vd_pI k pc = some (.new q, len, 2, a, b, cv)) (h : a < 14) : vd_wp d k pc ls st M Q = vd_wp d k (pc + len) ls (.ref (vd_n M) :: st) (vd_new M a 0 b) Q := vd_wp_al he (by simp only [vd_al, if_pos h])
theorem vd_g_nar {t : ArrayType} (he : vd_pI k pc = some (.newarray t, len, 2, a, b, cv)) (ht : vd_ak t ≠ 99) (h1 : 0 ≤ z) (h2 : z ≤ 65536) : vd_wp d k pc ls (.int (vd_I z) :: st) M Q = vd_wp d k (pc + len) ls (.ref (vd_n M) :: st) (vd_new M (vd_ak t) z.toNat z.toNat) Q := vd_wp_al he (by
  have e := vd_I_nat h1 (show z < 2147483648 by omega)
  have hn : ¬ (vd_I z < 0 ∨ 65536 < (vd_I z).toNatClampNeg ∨ vd_ak t = 99) := by
    rw [e]
    rintro (g | g | g)
    · exact vd_I_neg0 h1 (by omega) g
    · omega
    · exact ht g
  simp only [vd_al, if_neg hn]; simp only [e])
theorem vd_g_anr {q : Nat} (he : vd_pI k pc = some (.anewarray q, len, 2, a, b, cv)) (ht : 36 ≤ a ∧ a < 41) (h1 : 0 ≤ z) (h2 : z ≤ 65536) : vd_wp d k pc ls (.int (vd_I z) :: st) M Q = vd_wp d k (pc + len) ls (.ref (vd_n M) :: st) (vd_new M a z.toNat z.toNat) Q := vd_wp_al he (by
  have e := vd_I_nat h1 (show z < 2147483648 by omega)
  have hn : ¬ (vd_I z < 0 ∨ 65536 < (vd_I z).toNatClampNeg ∨ ¬ (36 ≤ a ∧ a < 41)) := by
    rw [e]
    rintro (g | g | g)
    · exact vd_I_neg0 h1 (by omega) g
    · omega
    · exact g ht
  simp only [vd_al, if_neg hn]; simp only [e])
/-! ends -/
theorem vd_g_iret (he : vd_pI k pc = some (.ireturn, len, 4, a, b, cv)) (h : vd_rok (vd_HD k).2.2.2.1 x = true) : vd_wp d k pc ls [.int x] M Q = Q M (.inl (some (.int x))) := vd_wp_rt (x := (M, .inl (some (.int x)))) he (by simp only [vd_rt, h]; rfl)
theorem vd_g_ret (he : vd_pI k pc = some (.return_, len, 4, a, b, cv)) (h : (vd_HD k).2.2.2.1 = none) : vd_wp d k pc ls [] M Q = Q M (.inl none) := vd_wp_rt (x := (M, .inl none)) he (by simp only [vd_rt, h])
theorem vd_g_aret {c : String} (he : vd_pI k pc = some (.areturn, len, 4, a, b, cv)) (h : (vd_HD k).2.2.2.1 = some (.object c)) : vd_wp d k pc ls [.ref o] M Q = Q M (.inl (some (.ref o))) := vd_wp_rt (x := (M, .inl (some (.ref o)))) he (by simp only [vd_rt, h])
theorem vd_g_aret0 {c : String} (he : vd_pI k pc = some (.areturn, len, 4, a, b, cv)) (h : (vd_HD k).2.2.2.1 = some (.object c)) : vd_wp d k pc ls [.null] M Q = Q M (.inl (some .null)) := vd_wp_rt (x := (M, .inl (some .null))) he (by simp only [vd_rt, h])
theorem vd_g_lret {y : Int64} (he : vd_pI k pc = some (.lreturn, len, 4, a, b, cv)) (h : (vd_HD k).2.2.2.1 = some .long) : vd_wp d k pc ls [.long y] M Q = Q M (.inl (some (.long y))) := vd_wp_rt (x := (M, .inl (some (.long y)))) he (by simp only [vd_rt, h])
/-- a call whose stack is known -/
theorem vd_g_call {args : List Value} {nm : MethodName} {bs : ByteArray} {nL na rc : Nat} {rt : Option FieldType} (he : vd_pI k pc = some (i, len, 3, a, b, cv)) (hh : vd_HD a = (nm, bs, nL, rt, na, rc)) (hst : st = args ++ st') (hl : args.length = na) (hc : vd_cs st' ≤ 8) (hn : (vd_fl args.reverse).length ≤ nL) (hr : (rc == 99 || (match args.reverse with | .ref o :: _ => vd_k M o == rc | _ => false)) = true)
    (h : vd_wp d a 0 (vd_ent nL args.reverse) [] M (fun M1 r => ∃ v, r = .inl v ∧ vd_wp (d + 1) k (pc + len) ls (v.toList ++ st') M1 Q)) : vd_wp (d + 1) k pc ls st M Q := by
  subst hst
  have e1 : (args ++ st').take na = args := by rw [← hl]; simp
  have e2 : (args ++ st').drop na = st' := by rw [← hl]; simp
  refine vd_wp_call he ?_ ?_
  · unfold vd_fit
    rw [hh]
    simp only [e1, e2, Bool.and_eq_true, decide_eq_true_eq]
    refine ⟨⟨⟨?_, hc⟩, hn⟩, hr⟩
    rw [← hl]; simp
  · rw [hh]
    simp only [e1, e2]
    exact h
theorem vd_g_call9 {args : List Value} {nm : MethodName} {bs : ByteArray} {nL na rc : Nat} {rt : Option FieldType} (he : vd_pI k pc = some (i, len, 9, a, b, cv)) (hh : vd_HD a = (nm, bs, nL, rt, na, rc)) (hst : st = args ++ st') (hl : args.length = na) (hc : vd_cs st' ≤ 8) (hn : (vd_fl args.reverse).length ≤ nL) (hr : (rc == 99 || (match args.reverse with | .ref o :: _ => vd_k M o == rc | _ => false)) = true)
    (h : vd_wp d a 0 (vd_ent nL args.reverse) [] M (fun M1 r => match r with
      | .inl v => vd_wp (d + 1) k (pc + len) ls (v.toList ++ st') M1 Q
      | .inr o => ∃ h, vd_hnd (vd_HN k) pc (vd_k M1 o) = some h ∧ vd_wp (d + 1) k h ls [.ref o] M1 Q)) : vd_wp (d + 1) k pc ls st M Q := by
  subst hst
  have e1 : (args ++ st').take na = args := by rw [← hl]; simp
  have e2 : (args ++ st').drop na = st' := by rw [← hl]; simp
  refine vd_wp_call9 he ?_ ?_
  · unfold vd_fit
    rw [hh]
    simp only [e1, e2, Bool.and_eq_true, decide_eq_true_eq]
    refine ⟨⟨⟨?_, hc⟩, hn⟩, hr⟩
    rw [← hl]; simp
  · rw [hh]
    simp only [e1, e2]
    exact h
end VDR
theorem vd_g_mu {d k pc len a b : Nat} {cv : Value} {i : Instr} {ls st : List Value} {M : vd_M} {Q : vd_M → (Option Value ⊕ Nat) → Prop} {z : Int} (he : vd_pI k pc = some (i, len, 8, a, b, cv)) (h1 : 0 ≤ z) (h2 : z ≤ 65536) : vd_wp d k pc ls (.int (vd_I z) :: .int (vd_I 4) :: st) M Q = vd_wp d k (pc + len) ls (.ref (vd_n M) :: st) (vd_mu4 M z.toNat) Q := by
  have e := vd_I_nat h1 (show z < 2147483648 by omega)
  have hn : vd_I 4 = 4 ∧ ¬ (vd_I z < 0 ∨ 65536 < (vd_I z).toNatClampNeg) := by
    refine ⟨by decide, ?_⟩
    rw [e]
    rintro (g | g)
    · exact vd_I_neg0 h1 (by omega) g
    · omega
  refine vd_wp_mu he ?_
  simp only [vd_mu, if_pos hn]
  simp only [e]
