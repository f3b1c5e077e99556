/-! ===== rules for the start: cells made at known numbers ===== -/
/-- a new cell at a known number; whole numbers apart -/
def vd_nwc (M : vd_M) (n k len sl : Nat) : vd_M := ((n + 1, M.1.2.1 + 1, M.1.2.2 + sl), (fun a => if a = n then k else M.2.1 a), (fun a => if a = n then len else M.2.2.1 a), M.2.2.2.1, (fun a b => if a = n then none else M.2.2.2.2.1 a b), (fun a b => if a = n then 0 else M.2.2.2.2.2 a b))
theorem vd_nwc_eq {K : vd_M} {n : Nat} (hn : vd_n K = n) (f : Nat → Nat → Int32) (k len sl : Nat) : vd_new (vd_mf K f) k len sl = vd_mf (vd_nwc K n k len sl) (vd_nz0 f n) := by
  subst hn
  rfl
def vd_mw (M : vd_M) (n z : Nat) : vd_M := vd_sr (vd_nwc (vd_sr (vd_nwc (vd_sr (vd_nwc (vd_sr (vd_nwc (vd_nwc M n 38 4 4) (n + 1) 32 z z) n 0 (some (n + 1))) (n + 2) 32 z z) n 1 (some (n + 2))) (n + 3) 32 z z) n 2 (some (n + 3))) (n + 4) 32 z z) n 3 (some (n + 4))
def vd_mz0 (f : Nat → Nat → Int32) (n : Nat) : Nat → Nat → Int32 := vd_nz0 (vd_nz0 (vd_nz0 (vd_nz0 (vd_nz0 f n) (n + 1)) (n + 2)) (n + 3)) (n + 4)
theorem vd_mw_eq {K : vd_M} {n : Nat} (hn : vd_n K = n) (f : Nat → Nat → Int32) (z : Nat) : vd_mu4 (vd_mf K f) z = vd_mf (vd_mw K n z) (vd_mz0 f n) := by
  subst hn
  rfl
theorem vd_mz0_ne {f : Nat → Nat → Int32} {n c i : Nat} (h : c < n ∨ n + 4 < c) : vd_mz0 f n c i = f c i := by
  unfold vd_mz0
  rw [vd_nz0_ne (by omega), vd_nz0_ne (by omega), vd_nz0_ne (by omega), vd_nz0_ne (by omega), vd_nz0_ne (by omega)]
/-- places that the constructors fill with something else than nought -/
def vd_sp (c i : Nat) : Prop := (c = 10 ∧ (i = 3 ∨ i = 6)) ∨ c = 14 ∨ c = 15 ∨ c = 46 ∨ c = 47 ∨ c = 57 ∨ (c = 63 ∧ i = 4) ∨ (68 ≤ c ∧ c ≤ 71) ∨ c = 73 ∨ (c = 79 ∧ i = 4) ∨ (184 ≤ c ∧ c ≤ 195)
def vd_Zi (n : Nat) (f : Nat → Nat → Int32) : Prop := ∀ c i, 10 ≤ c → c < n → ¬ vd_sp c i → f c i = vd_I 0
theorem vd_Zi.nz {n : Nat} {f : Nat → Nat → Int32} (h : vd_Zi n f) : vd_Zi (n + 1) (vd_nz0 f n) := fun c i h1 h2 h3 => by
  by_cases q : c = n
  · unfold vd_nz0
    rw [if_pos q]
    rfl
  · rw [vd_nz0_ne q]
    exact h c i h1 (by omega) h3
theorem vd_Zi.mz {n : Nat} {f : Nat → Nat → Int32} (h : vd_Zi n f) : vd_Zi (n + 5) (vd_mz0 f n) := h.nz.nz.nz.nz.nz
theorem vd_Zi.up0 {n : Nat} {f : Nat → Nat → Int32} (h : vd_Zi n f) {o b : Nat} : vd_Zi n (vd_up f o b (vd_I 0)) := fun c i h1 h2 h3 => by
  by_cases q : c = o ∧ i = b
  · rw [q.1, q.2, vd_up_eq]
  · rw [vd_up_ne q]
    exact h c i h1 h2 h3
theorem vd_Zi.ups {n : Nat} {f : Nat → Nat → Int32} (h : vd_Zi n f) {o b : Nat} {v : Int32} (hs : vd_sp o b) : vd_Zi n (vd_up f o b v) := fun c i h1 h2 h3 => by
  by_cases q : c = o ∧ i = b
  · rw [q.1, q.2] at h3
    exact absurd hs h3
  · rw [vd_up_ne q]
    exact h c i h1 h2 h3
/-- a loop that fills a place of these alone -/
theorem vd_Zi.fill {n : Nat} {f f' : Nat → Nat → Int32} (h : vd_Zi n f) {o : Nat} (hs : ∀ i, vd_sp o i) (hf : ∀ c i, c ≠ o → f' c i = f c i) : vd_Zi n f' := fun c i h1 h2 h3 => by
  by_cases q : c = o
  · rw [q] at h3
    exact absurd (hs i) h3
  · rw [hf c i q]
    exact h c i h1 h2 h3
section VDRL
variable {d k pc len a b : Nat} {cv : Value} {ls ls' st st' : List Value} {K M : vd_M} {f : Nat → Nat → Int32} {Q : vd_M → (Option Value ⊕ Nat) → Prop} {n o v i nn kk : Nat} {z : Int} {x : Int32}
theorem vd_g_newL {q : Nat} (he : vd_pI k pc = some (.new q, len, 2, a, b, cv)) (h : a < 14) (hn : vd_n K = n) : vd_wp d k pc ls st (vd_mf K f) Q = vd_wp d k (pc + len) ls (.ref n :: st) (vd_mf (vd_nwc K n a 0 b) (vd_nz0 f n)) Q := by
  rw [vd_g_new he h, vd_nwc_eq hn, show vd_n (vd_mf K f) = n from hn]
theorem vd_g_narL {t : ArrayType} (he : vd_pI k pc = some (.newarray t, len, 2, a, b, cv)) (ht : vd_ak t = kk) (h99 : kk ≠ 99) (h1 : 0 ≤ z) (h2 : z ≤ 65536) (hz : z.toNat = nn) (hn : vd_n K = n) : vd_wp d k pc ls (.int (vd_I z) :: st) (vd_mf K f) Q = vd_wp d k (pc + len) ls (.ref n :: st) (vd_mf (vd_nwc K n kk nn nn) (vd_nz0 f n)) Q := by
  subst ht
  rw [vd_g_nar he h99 h1 h2, hz, vd_nwc_eq hn, show vd_n (vd_mf K f) = n from hn]
theorem vd_g_anrL {q : Nat} (he : vd_pI k pc = some (.anewarray q, len, 2, a, b, cv)) (ht : 36 ≤ a ∧ a < 41) (h1 : 0 ≤ z) (h2 : z ≤ 65536) (hz : z.toNat = nn) (hn : vd_n K = n) : vd_wp d k pc ls (.int (vd_I z) :: st) (vd_mf K f) Q = vd_wp d k (pc + len) ls (.ref n :: st) (vd_mf (vd_nwc K n a nn nn) (vd_nz0 f n)) Q := by
  rw [vd_g_anr he ht h1 h2, hz, vd_nwc_eq hn, show vd_n (vd_mf K f) = n from hn]
theorem vd_g_muL {j : Instr} (he : vd_pI k pc = some (j, len, 8, a, b, cv)) (h1 : 0 ≤ z) (h2 : z ≤ 65536) (hz : z.toNat = nn) (hn : vd_n K = n) : vd_wp d k pc ls (.int (vd_I z) :: .int (vd_I 4) :: st) (vd_mf K f) Q = vd_wp d k (pc + len) ls (.ref n :: st) (vd_mf (vd_mw K n nn) (vd_mz0 f n)) Q := by
  rw [vd_g_mu he h1 h2, hz, vd_mw_eq hn, show vd_n (vd_mf K f) = n from hn]
theorem vd_g_putRL {q : Nat} (he : vd_pI k pc = some (.putfield q, len, 1, a, b, cv)) (hf : vd_isr (vd_fty a b) = true) (hk : vd_k K o = a) : vd_wp d k pc ls (.ref v :: .ref o :: st) (vd_mf K f) Q = vd_wp d k (pc + len) ls st (vd_mf (vd_sr K o b (some v)) f) Q := vd_g_putR (M := vd_mf K f) he hf hk
theorem vd_g_putNL {q : Nat} (he : vd_pI k pc = some (.putfield q, len, 1, a, b, cv)) (hf : vd_isr (vd_fty a b) = true) (hk : vd_k K o = a) : vd_wp d k pc ls (.null :: .ref o :: st) (vd_mf K f) Q = vd_wp d k (pc + len) ls st (vd_mf (vd_sr K o b none) f) Q := vd_g_putN (M := vd_mf K f) he hf hk
theorem vd_g_putIL {q : Nat} (he : vd_pI k pc = some (.putfield q, len, 1, a, b, cv)) (hf : vd_fok (vd_fty a b) x = true) (hk : vd_k K o = a) : vd_wp d k pc ls (.int x :: .ref o :: st) (vd_mf K f) Q = vd_wp d k (pc + len) ls st (vd_mf K (vd_up f o b x)) Q := vd_g_putI (M := vd_mf K f) he hf hk
theorem vd_g_iasL (he : vd_pI k pc = some (.iastore, len, 1, a, b, cv)) (h0 : 10 ≤ o) (hk : vd_k K o = 32) (h1 : 0 ≤ z) (h2 : decide (z < (vd_l K o : Int)) = true) (h3 : z < 2147483648) (hi : z.toNat = i) : vd_wp d k pc ls (.int x :: .int (vd_I z) :: .ref o :: st) (vd_mf K f) Q = vd_wp d k (pc + len) ls st (vd_mf K (vd_up f o i x)) Q := by
  subst hi
  exact vd_g_ias (M := vd_mf K f) he h0 hk h1 (of_decide_eq_true h2) h3
theorem vd_g_aasL (he : vd_pI k pc = some (.aastore, len, 1, a, b, cv)) (h0 : 10 ≤ o) (h0' : 10 ≤ v) (hk : vd_akk K o v) (h1 : 0 ≤ z) (h2 : decide (z < (vd_l K o : Int)) = true) (h3 : z < 2147483648) (hi : z.toNat = i) : vd_wp d k pc ls (.ref v :: .int (vd_I z) :: .ref o :: st) (vd_mf K f) Q = vd_wp d k (pc + len) ls st (vd_mf (vd_sr K o i (some v)) f) Q := by
  subst hi
  exact vd_g_aas (M := vd_mf K f) he h0 h0' hk h1 (of_decide_eq_true h2) h3
theorem vd_g_incL {m : Nat} {q : Int} (he : vd_pI k pc = some (.iinc m q, len, 0, a, b, cv)) (h1 : ls[m]? = some (.int x)) (hz : x + vd_I q = vd_I z) (h : vd_st1 ls m (.int (vd_I z)) = some ls') : vd_wp d k pc ls st M Q = vd_wp d k (pc + len) ls' st M Q := vd_g_inc he h1 (by rw [hz]; exact h)
theorem vd_g_bin {j : Instr} {y : Int32} (he : vd_pI k pc = some (j, len, 0, a, b, cv)) (h : vd_alu j pc len cv ls st = some (pc + len, ls, .int y :: st')) (hy : y = vd_I z) : vd_wp d k pc ls st M Q = vd_wp d k (pc + len) ls (.int (vd_I z) :: st') M Q := by
  rw [vd_wp_alu he h, hy]
end VDRL
