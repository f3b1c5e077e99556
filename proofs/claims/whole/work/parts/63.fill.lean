/-! ===== rows that are filled ===== -/
def vd_uf (f : Nat → Nat → Int32) (o a b : Nat) (x : Int32) : Nat → Nat → Int32 := fun c i => if c = o ∧ a ≤ i ∧ i < b then x else f c i
theorem vd_uf_at (f : Nat → Nat → Int32) (o a b : Nat) (x : Int32) (c i : Nat) : vd_uf f o a b x c i = if c = o ∧ a ≤ i ∧ i < b then x else f c i := Eq.trans rfl rfl
theorem vd_uf_ne {f : Nat → Nat → Int32} {o a b : Nat} {x : Int32} {c i : Nat} (h : ¬ (c = o ∧ a ≤ i ∧ i < b)) : vd_uf f o a b x c i = f c i := by rw [vd_uf_at, if_neg h]
theorem vd_uf_in {f : Nat → Nat → Int32} {o a b : Nat} {x : Int32} {i : Nat} (h1 : a ≤ i) (h2 : i < b) : vd_uf f o a b x o i = x := by rw [vd_uf_at, if_pos ⟨rfl, h1, h2⟩]
theorem vd_uf_0 (f : Nat → Nat → Int32) (o a : Nat) (x : Int32) : vd_uf f o a a x = f := by
  funext c i
  exact vd_uf_ne (by omega)
theorem vd_uf_up {f : Nat → Nat → Int32} {o a j : Nat} {x : Int32} (h : a ≤ j) : vd_up (vd_uf f o a j x) o j x = vd_uf f o a (j + 1) x := by
  funext c i
  by_cases q : c = o ∧ i = j
  · obtain ⟨rfl, rfl⟩ := q
    rw [vd_up_eq, vd_uf_in h (by omega)]
  · rw [vd_up_ne q]
    by_cases q2 : c = o ∧ a ≤ i ∧ i < j
    · obtain ⟨rfl, q3, q4⟩ := q2
      rw [vd_uf_in q3 q4, vd_uf_in q3 (by omega)]
    · rw [vd_uf_ne q2, vd_uf_ne (by omega)]
section VDFI
variable {M : vd_M} {f : Nat → Nat → Int32} {d : Nat} {Q : vd_M → (Option Value ⊕ Nat) → Prop}
theorem vd_F286L {o len : Nat} {x : Int32} (ho : 10 ≤ o) (hk : vd_k M o = 32) (hl : vd_l M o = len) (h2 : len ≤ 65536) : ∀ (m j : Nat), j + m = len → vd_wp d 286 5 [.ref o, .int x, .int (vd_I (j : Int)), .int (vd_I (len : Int))] [] (vd_mf M (vd_uf f o 0 j x)) Q = Q (vd_mf M (vd_uf f o 0 len x)) (.inl none) := by
  intro m
  induction m with
  | zero =>
    intro j hj
    have hj : j = len := by omega
    subst hj
    simp (disch := omega) only [vd_S286_5, vd_S286_20, vd_I_toInt, Int.lt_irrefl, if_false]
  | succ m ih =>
    intro j hj
    have hjl : (j : Int) < (len : Int) := by omega
    have e := ih (j + 1) (by omega)
    rw [vd_S286_5]
    simp (disch := first | assumption | omega) only [vd_S286_10, vd_S286_13, vd_I_toInt, hjl, if_true, vd_I_add, Int.toNat_natCast, vd_uf_up (Nat.zero_le j)]
    rw [show (j : Int) + 1 = ((j + 1 : Nat) : Int) by omega]
    exact e
theorem vd_F286 {o len : Nat} {x : Int32} (ho : 10 ≤ o) (hk : vd_k M o = 32) (hl : vd_l M o = len) (h2 : len ≤ 65536) : vd_wp d 286 0 [.ref o, .int x, vd_U, vd_U] [] (vd_mf M f) Q = Q (vd_mf M (vd_uf f o 0 len x)) (.inl none) := by
  have e := vd_F286L (f := f) (d := d) (Q := Q) (x := x) ho hk hl h2 len 0 (by omega)
  rw [vd_uf_0] at e
  simp (disch := first | assumption | omega) only [vd_S286_0, vd_S286_3, hl]
  exact e
theorem vd_F288L {o len : Nat} {x : Int32} (ho : 10 ≤ o) (hk : vd_k M o = 33) (hl : vd_l M o = len) (h2 : len ≤ 65536) : ∀ (m j : Nat), j + m = len → vd_wp d 288 5 [.ref o, .int x, .int (vd_I (j : Int)), .int (vd_I (len : Int))] [] (vd_mf M (vd_uf f o 0 j x.toInt8.toInt32)) Q = Q (vd_mf M (vd_uf f o 0 len x.toInt8.toInt32)) (.inl none) := by
  intro m
  induction m with
  | zero =>
    intro j hj
    have hj : j = len := by omega
    subst hj
    simp (disch := omega) only [vd_S288_5, vd_S288_20, vd_I_toInt, Int.lt_irrefl, if_false]
  | succ m ih =>
    intro j hj
    have hjl : (j : Int) < (len : Int) := by omega
    have e := ih (j + 1) (by omega)
    rw [vd_S288_5]
    simp (disch := first | assumption | omega) only [vd_S288_10, vd_S288_13, vd_I_toInt, hjl, if_true, vd_I_add, Int.toNat_natCast, vd_uf_up (Nat.zero_le j)]
    rw [show (j : Int) + 1 = ((j + 1 : Nat) : Int) by omega]
    exact e
theorem vd_F288 {o len : Nat} {x : Int32} (ho : 10 ≤ o) (hk : vd_k M o = 33) (hl : vd_l M o = len) (h2 : len ≤ 65536) : vd_wp d 288 0 [.ref o, .int x, vd_U, vd_U] [] (vd_mf M f) Q = Q (vd_mf M (vd_uf f o 0 len x.toInt8.toInt32)) (.inl none) := by
  have e := vd_F288L (f := f) (d := d) (Q := Q) (x := x) ho hk hl h2 len 0 (by omega)
  rw [vd_uf_0] at e
  simp (disch := first | assumption | omega) only [vd_S288_0, vd_S288_3, hl]
  exact e
theorem vd_F294L {o len : Nat} {x : Int32} (ho : 10 ≤ o) (hk : vd_k M o = 34) (hl : vd_l M o = len) (h2 : len ≤ 65536) : ∀ (m j : Nat), j + m = len → vd_wp d 294 5 [.ref o, .int x, .int (vd_I (j : Int)), .int (vd_I (len : Int))] [] (vd_mf M (vd_uf f o 0 j (x &&& 1))) Q = Q (vd_mf M (vd_uf f o 0 len (x &&& 1))) (.inl none) := by
  intro m
  induction m with
  | zero =>
    intro j hj
    have hj : j = len := by omega
    subst hj
    simp (disch := omega) only [vd_S294_5, vd_S294_20, vd_I_toInt, Int.lt_irrefl, if_false]
  | succ m ih =>
    intro j hj
    have hjl : (j : Int) < (len : Int) := by omega
    have e := ih (j + 1) (by omega)
    rw [vd_S294_5]
    simp (disch := first | assumption | omega) only [vd_S294_10, vd_S294_13b, vd_I_toInt, hjl, if_true, vd_I_add, Int.toNat_natCast, vd_uf_up (Nat.zero_le j)]
    rw [show (j : Int) + 1 = ((j + 1 : Nat) : Int) by omega]
    exact e
theorem vd_F294 {o len : Nat} {x : Int32} (ho : 10 ≤ o) (hk : vd_k M o = 34) (hl : vd_l M o = len) (h2 : len ≤ 65536) : vd_wp d 294 0 [.ref o, .int x, vd_U, vd_U] [] (vd_mf M f) Q = Q (vd_mf M (vd_uf f o 0 len (x &&& 1))) (.inl none) := by
  have e := vd_F294L (f := f) (d := d) (Q := Q) (x := x) ho hk hl h2 len 0 (by omega)
  rw [vd_uf_0] at e
  simp (disch := first | assumption | omega) only [vd_S294_0, vd_S294_3, hl]
  exact e
theorem vd_F290L {o len a b : Nat} {x : Int32} (ho : 10 ≤ o) (hk : vd_k M o = 32) (hl : vd_l M o = len) (h2 : len ≤ 65536) (hb : b ≤ len) : ∀ (m j : Nat), j + m = b → a ≤ j → vd_wp d 290 10 [.ref o, .int (vd_I (a : Int)), .int (vd_I (b : Int)), .int x, .int (vd_I (j : Int))] [] (vd_mf M (vd_uf f o a j x)) Q = Q (vd_mf M (vd_uf f o a b x)) (.inl none) := by
  intro m
  induction m with
  | zero =>
    intro j hj ha
    have hj : j = b := by omega
    subst hj
    simp (disch := omega) only [vd_S290_10, vd_S290_27, vd_I_toInt, Int.lt_irrefl, if_false]
  | succ m ih =>
    intro j hj ha
    have hjl : (j : Int) < (b : Int) := by omega
    have e := ih (j + 1) (by omega) (by omega)
    rw [vd_S290_10]
    simp (disch := first | assumption | omega) only [vd_S290_16, vd_S290_20, vd_I_toInt, hjl, if_true, vd_I_add, Int.toNat_natCast, vd_uf_up ha]
    rw [show (j : Int) + 1 = ((j + 1 : Nat) : Int) by omega]
    exact e
theorem vd_F290 {o len a b : Nat} {x : Int32} (ho : 10 ≤ o) (hk : vd_k M o = 32) (hl : vd_l M o = len) (h2 : len ≤ 65536) (hab : a ≤ b) (hb : b ≤ len) : vd_wp (d + 1) 290 0 [.ref o, .int (vd_I (a : Int)), .int (vd_I (b : Int)), .int x, vd_U] [] (vd_mf M f) Q = Q (vd_mf M (vd_uf f o a b x)) (.inl none) := by
  have e := vd_F290L (f := f) (d := d + 1) (Q := Q) (x := x) ho hk hl h2 hb (b - a) a (by omega) (Nat.le_refl a)
  rw [vd_uf_0] at e
  have c1 : ¬ (b : Int) < (a : Int) := by omega
  have c2 : ¬ (a : Int) < 0 := by omega
  have c3 : ¬ (len : Int) < (b : Int) := by omega
  simp (disch := first | assumption | omega) only [vd_S290_0, vd_S290_1, vd_S290_4, vd_S290_7, vd_S291_0, vd_S291_46, vd_S291_59, vd_S291_73, hl, vd_I_toInt, c1, c2, c3, if_false, vd_rs_v, vd_rs_n]
  exact e
theorem vd_F293L {o len a b : Nat} {x : Int32} (ho : 10 ≤ o) (hk : vd_k M o = 33) (hl : vd_l M o = len) (h2 : len ≤ 65536) (hb : b ≤ len) : ∀ (m j : Nat), j + m = b → a ≤ j → vd_wp d 293 10 [.ref o, .int (vd_I (a : Int)), .int (vd_I (b : Int)), .int x, .int (vd_I (j : Int))] [] (vd_mf M (vd_uf f o a j x.toInt8.toInt32)) Q = Q (vd_mf M (vd_uf f o a b x.toInt8.toInt32)) (.inl none) := by
  intro m
  induction m with
  | zero =>
    intro j hj ha
    have hj : j = b := by omega
    subst hj
    simp (disch := omega) only [vd_S293_10, vd_S293_27, vd_I_toInt, Int.lt_irrefl, if_false]
  | succ m ih =>
    intro j hj ha
    have hjl : (j : Int) < (b : Int) := by omega
    have e := ih (j + 1) (by omega) (by omega)
    rw [vd_S293_10]
    simp (disch := first | assumption | omega) only [vd_S293_16, vd_S293_20, vd_I_toInt, hjl, if_true, vd_I_add, Int.toNat_natCast, vd_uf_up ha]
    rw [show (j : Int) + 1 = ((j + 1 : Nat) : Int) by omega]
    exact e
theorem vd_F293 {o len a b : Nat} {x : Int32} (ho : 10 ≤ o) (hk : vd_k M o = 33) (hl : vd_l M o = len) (h2 : len ≤ 65536) (hab : a ≤ b) (hb : b ≤ len) : vd_wp (d + 1) 293 0 [.ref o, .int (vd_I (a : Int)), .int (vd_I (b : Int)), .int x, vd_U] [] (vd_mf M f) Q = Q (vd_mf M (vd_uf f o a b x.toInt8.toInt32)) (.inl none) := by
  have e := vd_F293L (f := f) (d := d + 1) (Q := Q) (x := x) ho hk hl h2 hb (b - a) a (by omega) (Nat.le_refl a)
  rw [vd_uf_0] at e
  have c1 : ¬ (b : Int) < (a : Int) := by omega
  have c2 : ¬ (a : Int) < 0 := by omega
  have c3 : ¬ (len : Int) < (b : Int) := by omega
  simp (disch := first | assumption | omega) only [vd_S293_0, vd_S293_1, vd_S293_4, vd_S293_7, vd_S291_0, vd_S291_46, vd_S291_59, vd_S291_73, hl, vd_I_toInt, c1, c2, c3, if_false, vd_rs_v, vd_rs_n]
  exact e
end VDFI
