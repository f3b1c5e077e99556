/-! ===== scans: the order by keys ===== -/
def vd_sv (n wx wy m : Nat) : Bool := decide (wy * (m % n) ≤ m / n) && decide ((m / n - wy * (m % n)) % wx = 0) && decide ((m / n - wy * (m % n)) / wx < n)
def vd_suv (n wx wy m : Nat) : Nat := (m % n) * n + (m / n - wy * (m % n)) / wx
def vd_scn (n wx wy : Nat) : Nat → Nat
  | 0 => 0
  | m + 1 => vd_scn n wx wy m + (if vd_sv n wx wy m = true then 1 else 0)
def vd_spre (n wx wy : Nat) : Nat → List Nat
  | 0 => []
  | m + 1 => vd_spre n wx wy m ++ (if vd_sv n wx wy m = true then [vd_suv n wx wy m] else [])
def vd_sZ (n wx wy N i : Nat) : Nat := (vd_spre n wx wy N).getD i 0
section VDSCP
variable {n wx wy N : Nat}
theorem vd_sv_iff {m : Nat} : vd_sv n wx wy m = true ↔ wy * (m % n) ≤ m / n ∧ (m / n - wy * (m % n)) % wx = 0 ∧ (m / n - wy * (m % n)) / wx < n := by
  unfold vd_sv
  simp only [Bool.and_eq_true, decide_eq_true_eq, and_assoc]
theorem vd_spre_len (m : Nat) : (vd_spre n wx wy m).length = vd_scn n wx wy m := by
  induction m with
  | zero => rfl
  | succ m ih =>
    show (vd_spre n wx wy m ++ (if vd_sv n wx wy m = true then [vd_suv n wx wy m] else [])).length = vd_scn n wx wy m + (if vd_sv n wx wy m = true then 1 else 0)
    rw [List.length_append, ih]
    by_cases q : vd_sv n wx wy m = true
    · rw [if_pos q, if_pos q]; rfl
    · rw [if_neg q, if_neg q]; rfl
theorem vd_spre_pre {m : Nat} : ∀ k, ∃ r, vd_spre n wx wy (m + k) = vd_spre n wx wy m ++ r := by
  intro k
  induction k with
  | zero => exact ⟨[], by rw [List.append_nil]; rfl⟩
  | succ k ih =>
    obtain ⟨r, e⟩ := ih
    refine ⟨r ++ (if vd_sv n wx wy (m + k) = true then [vd_suv n wx wy (m + k)] else []), ?_⟩
    show vd_spre n wx wy (m + k) ++ (if vd_sv n wx wy (m + k) = true then [vd_suv n wx wy (m + k)] else []) = _
    rw [e, List.append_assoc]
theorem vd_scn_mono {m m' : Nat} (h : m ≤ m') : vd_scn n wx wy m ≤ vd_scn n wx wy m' := by
  obtain ⟨k, rfl⟩ : ∃ k, m' = m + k := ⟨m' - m, by omega⟩
  clear h
  induction k with
  | zero => exact Nat.le_refl _
  | succ k ih =>
    refine Nat.le_trans ih ?_
    show _ ≤ vd_scn n wx wy (m + k) + _
    exact Nat.le_add_right _ _
theorem vd_scn_lt {m m' : Nat} (h : m < m') (hv : vd_sv n wx wy m = true) : vd_scn n wx wy m < vd_scn n wx wy m' := by
  have h1 : vd_scn n wx wy (m + 1) = vd_scn n wx wy m + 1 := by
    show vd_scn n wx wy m + (if vd_sv n wx wy m = true then 1 else 0) = _
    rw [if_pos hv]
  have h2 : vd_scn n wx wy (m + 1) ≤ vd_scn n wx wy m' := vd_scn_mono h
  omega
theorem vd_sZ_at {m : Nat} (h : m < N) (hv : vd_sv n wx wy m = true) : vd_sZ n wx wy N (vd_scn n wx wy m) = vd_suv n wx wy m := by
  obtain ⟨k, hk⟩ : ∃ k, N = (m + 1) + k := ⟨N - (m + 1), by omega⟩
  obtain ⟨r, e⟩ := vd_spre_pre (n := n) (wx := wx) (wy := wy) (m := m + 1) k
  have e1 : vd_spre n wx wy (m + 1) = vd_spre n wx wy m ++ [vd_suv n wx wy m] := by
    show vd_spre n wx wy m ++ (if vd_sv n wx wy m = true then [vd_suv n wx wy m] else []) = _
    rw [if_pos hv]
  unfold vd_sZ
  rw [hk, e, e1, List.append_assoc, ← vd_spre_len m, List.getD_eq_getElem?_getD, List.getElem?_append_right (Nat.le_refl _), Nat.sub_self]
  rfl
theorem vd_scn_ex : ∀ (N i : Nat), i < vd_scn n wx wy N → ∃ m, m < N ∧ vd_sv n wx wy m = true ∧ vd_scn n wx wy m = i := by
  intro N
  induction N with
  | zero =>
    intro i h
    exact absurd h (Nat.not_lt_zero _)
  | succ N ih =>
    intro i h
    by_cases q : i < vd_scn n wx wy N
    · obtain ⟨m, h1, h2, h3⟩ := ih i q
      exact ⟨m, by omega, h2, h3⟩
    · have h' : i < vd_scn n wx wy N + (if vd_sv n wx wy N = true then 1 else 0) := h
      by_cases v : vd_sv n wx wy N = true
      · rw [if_pos v] at h'
        exact ⟨N, by omega, v, by omega⟩
      · rw [if_neg v] at h'
        omega
/-- key and row of a step -/
theorem vd_skey {key y : Nat} (hy : y < n) : (key * n + y) / n = key ∧ (key * n + y) % n = y := by
  constructor
  · rw [Nat.mul_comm, Nat.mul_add_div (by omega), Nat.div_eq_of_lt hy, Nat.add_zero]
  · rw [Nat.mul_comm, Nat.mul_add_mod, Nat.mod_eq_of_lt hy]
theorem vd_sv_of {x y : Nat} (hw : 1 ≤ wx) (hx : x < n) (hy : y < n) : vd_sv n wx wy ((wx * x + wy * y) * n + y) = true ∧ vd_suv n wx wy ((wx * x + wy * y) * n + y) = y * n + x := by
  obtain ⟨e1, e2⟩ := vd_skey (n := n) (key := wx * x + wy * y) hy
  have e3 : wx * x + wy * y - wy * y = wx * x := Nat.add_sub_cancel _ _
  constructor
  · rw [vd_sv_iff, e1, e2, e3]
    refine ⟨Nat.le_add_left _ _, Nat.mul_mod_right _ _, ?_⟩
    rw [Nat.mul_div_cancel_left _ (by omega)]
    exact hx
  · unfold vd_suv
    rw [e1, e2, e3, Nat.mul_div_cancel_left _ (by omega)]
theorem vd_sm_of {m : Nat} (hn : 1 ≤ n) (hv : vd_sv n wx wy m = true) : ∃ x y, x < n ∧ y < n ∧ m = (wx * x + wy * y) * n + y := by
  obtain ⟨h1, h2, h3⟩ := vd_sv_iff.mp hv
  refine ⟨(m / n - wy * (m % n)) / wx, m % n, h3, Nat.mod_lt _ (by omega), ?_⟩
  have e1 : wx * ((m / n - wy * (m % n)) / wx) = m / n - wy * (m % n) := Nat.mul_div_cancel' (Nat.dvd_of_mod_eq_zero h2)
  rw [e1, Nat.sub_add_cancel h1]
  have := Nat.div_add_mod m n
  rw [Nat.mul_comm] at this
  omega
theorem vd_scN (hn : 1 ≤ n) (hx : 1 ≤ wx) (hy : 1 ≤ wy) (hN : 0 < N) (hc : vd_scn n wx wy N = n * n) : vd_SCN n (vd_sZ n wx wy N) := by
  have ex : ∀ i, i < n * n → ∃ x y, x < n ∧ y < n ∧ (wx * x + wy * y) * n + y < N ∧ vd_scn n wx wy ((wx * x + wy * y) * n + y) = i ∧ vd_sZ n wx wy N i = y * n + x := fun i hi => by
    obtain ⟨m, h1, h2, h3⟩ := vd_scn_ex (n := n) (wx := wx) (wy := wy) N i (by omega)
    obtain ⟨x, y, q1, q2, q3⟩ := vd_sm_of hn h2
    subst q3
    refine ⟨x, y, q1, q2, h1, h3, ?_⟩
    rw [← h3, vd_sZ_at h1 h2, (vd_sv_of hx q1 q2).2]
  have yx : ∀ x y, x < n → y < n → y * n + x < n * n := fun x y h1 h2 => by
    have : (y + 1) * n ≤ n * n := Nat.mul_le_mul_right n h2
    have e : (y + 1) * n = y * n + n := Nat.succ_mul y n
    omega
  have dm : ∀ x y, x < n → (y * n + x) / n = y ∧ (y * n + x) % n = x := fun x y h => vd_skey h
  refine ⟨fun i hi => ?_, fun i j hi hj e => ?_, ?_, fun i h0 hi => ⟨fun h => ?_, fun h => ?_⟩⟩
  · obtain ⟨x, y, q1, q2, _, _, e⟩ := ex i hi
    rw [e]
    exact yx x y q1 q2
  · obtain ⟨x, y, q1, q2, _, c1, e1⟩ := ex i hi
    obtain ⟨x', y', q1', q2', _, c2, e2⟩ := ex j hj
    rw [e1, e2] at e
    have a1 := dm x y q1
    have a2 := dm x' y' q1'
    rw [e] at a1
    have b1 : y' = y := a2.1.symm.trans a1.1
    have b2 : x' = x := a2.2.symm.trans a1.2
    subst b1 b2
    rw [← c1, c2]
  · have v := vd_sv_of (n := n) (wx := wx) (wy := wy) (x := 0) (y := 0) hx (by omega) (by omega)
    have z : (wx * 0 + wy * 0) * n + 0 = 0 := by simp
    rw [z] at v
    have := vd_sZ_at (N := N) hN v.1
    have s0 : vd_scn n wx wy 0 = 0 := rfl
    rw [s0] at this
    rw [this, v.2]
    simp
  · obtain ⟨x, y, q1, q2, lt, c1, e1⟩ := ex i hi
    rw [e1] at h ⊢
    have y1 : 1 ≤ y := by
      by_cases q : y = 0
      · subst q
        rw [Nat.zero_mul] at h
        omega
      · omega
    obtain ⟨y', rfl⟩ : ∃ y', y = y' + 1 := ⟨y - 1, by omega⟩
    have v := vd_sv_of (n := n) (wx := wx) (wy := wy) (x := x) (y := y') hx q1 (by omega)
    have lt2 : (wx * x + wy * y') * n + y' < (wx * x + wy * (y' + 1)) * n + (y' + 1) := by
      have : (wx * x + wy * y') * n ≤ (wx * x + wy * (y' + 1)) * n := Nat.mul_le_mul_right n (Nat.add_le_add_left (Nat.mul_le_mul_left wy (Nat.le_succ y')) _)
      omega
    refine ⟨vd_scn n wx wy ((wx * x + wy * y') * n + y'), ?_, ?_⟩
    · rw [← c1]
      exact vd_scn_lt lt2 v.1
    · rw [vd_sZ_at (by omega) v.1, v.2]
      have e : (y' + 1) * n = y' * n + n := Nat.succ_mul y' n
      omega
  · obtain ⟨x, y, q1, q2, lt, c1, e1⟩ := ex i hi
    rw [e1] at h ⊢
    rw [(dm x y q1).2] at h
    obtain ⟨x', rfl⟩ : ∃ x', x = x' + 1 := ⟨x - 1, by omega⟩
    have v := vd_sv_of (n := n) (wx := wx) (wy := wy) (x := x') (y := y) hx (by omega) q2
    have lt2 : (wx * x' + wy * y) * n + y < (wx * (x' + 1) + wy * y) * n + y := by
      have e : wx * (x' + 1) = wx * x' + wx := Nat.mul_succ wx x'
      have : (wx * x' + wy * y + 1) * n ≤ (wx * (x' + 1) + wy * y) * n := Nat.mul_le_mul_right n (by omega)
      have e2 : (wx * x' + wy * y + 1) * n = (wx * x' + wy * y) * n + n := Nat.succ_mul _ n
      omega
    refine ⟨vd_scn n wx wy ((wx * x' + wy * y) * n + y), ?_, ?_⟩
    · rw [← c1]
      exact vd_scn_lt lt2 v.1
    · rw [vd_sZ_at (by omega) v.1, v.2]
      omega
end VDSCP
section VDSCL
variable {M : vd_M} {o len first n wx wy K N : Nat}
/-- a key's row in the class -/
theorem vd_L10y (ho : 10 ≤ o) (hk : vd_k M o = 32) (hl : vd_l M o = len) (hlen : len ≤ 65536) (hn : 1 ≤ n ∧ n ≤ 32) (hx : 1 ≤ wx ∧ wx ≤ 4) (hy : 1 ≤ wy ∧ wy ≤ 4) (hN : K * n ≤ N) (hc : vd_scn n wx wy N = n * n) (hfl : first + n * n ≤ len) {key : Nat} (hkey : key < K) (hK : K ≤ 200) (j : Nat) : ∀ (y : Nat) (f : Nat → Nat → Int32) (a8 : Value), y + j = n → (∀ i, i < vd_scn n wx wy (key * n + y) → f o (first + i) = vd_I ((vd_sZ n wx wy N i : Nat) : Int)) → ∃ (f' : Nat → Nat → Int32) (a8' : Value), (∀ d Q, vd_wp d 10 22 [.ref o, .int (vd_I (first : Int)), .int (vd_I (n : Int)), .int (vd_I (wx : Int)), .int (vd_I (wy : Int)), .int (vd_I ((first + vd_scn n wx wy (key * n + y) : Nat) : Int)), .int (vd_I (key : Int)), .int (vd_I (y : Int)), a8] [] (vd_mf M f) Q = vd_wp d 10 80 [.ref o, .int (vd_I (first : Int)), .int (vd_I (n : Int)), .int (vd_I (wx : Int)), .int (vd_I (wy : Int)), .int (vd_I ((first + vd_scn n wx wy (key * n + n) : Nat) : Int)), .int (vd_I (key : Int)), .int (vd_I (n : Int)), a8'] [] (vd_mf M f') Q) ∧ (∀ i, i < vd_scn n wx wy (key * n + n) → f' o (first + i) = vd_I ((vd_sZ n wx wy N i : Nat) : Int)) ∧ (∀ c i, ¬ (c = o ∧ first ≤ i ∧ i < first + n * n) → f' c i = f c i) := by
  induction j with
  | zero =>
    intro y f a8 h hf
    have hy' : y = n := by omega
    subst hy'
    refine ⟨f, a8, fun d Q => ?_, hf, fun _ _ _ => rfl⟩
    rw [vd_S10_22, if_neg (Int.lt_irrefl _)]
  | succ j ih =>
    intro y f a8 h hf
    have hyn : y < n := by omega
    obtain ⟨e1, e2⟩ := vd_skey (n := n) (key := key) hyn
    have kn : (key + 1) * n ≤ K * n := Nat.mul_le_mul_right n hkey
    have kn' : (key + 1) * n = key * n + n := Nat.succ_mul key n
    have hmN : key * n + y < N := by omega
    have ey : (y : Int) + 1 = ((y + 1 : Nat) : Int) := by omega
    have em : key * n + (y + 1) = (key * n + y) + 1 := by omega
    have wyy : wy * y ≤ 4 * 32 := Nat.mul_le_mul hy.2 (by omega)
    have ewy : (wy : Int) * (y : Int) = ((wy * y : Nat) : Int) := (Int.natCast_mul wy y).symm
    have lt0 : (vd_I (y : Int)).toInt < (vd_I (n : Int)).toInt := by rw [vd_I_toInt (by omega) (by omega), vd_I_toInt (by omega) (by omega)]; omega
    have sk : vd_sv n wx wy (key * n + y) = false → vd_scn n wx wy (key * n + (y + 1)) = vd_scn n wx wy (key * n + y) := fun q => by
      rw [em]
      show vd_scn n wx wy (key * n + y) + (if vd_sv n wx wy (key * n + y) = true then 1 else 0) = _
      rw [if_neg (by rw [q]; decide), Nat.add_zero]
    have skip : vd_sv n wx wy (key * n + y) = false → (∃ x8 : Int32, ∀ d Q, vd_wp d 10 22 [.ref o, .int (vd_I (first : Int)), .int (vd_I (n : Int)), .int (vd_I (wx : Int)), .int (vd_I (wy : Int)), .int (vd_I ((first + vd_scn n wx wy (key * n + y) : Nat) : Int)), .int (vd_I (key : Int)), .int (vd_I (y : Int)), a8] [] (vd_mf M f) Q = vd_wp d 10 74 [.ref o, .int (vd_I (first : Int)), .int (vd_I (n : Int)), .int (vd_I (wx : Int)), .int (vd_I (wy : Int)), .int (vd_I ((first + vd_scn n wx wy (key * n + y) : Nat) : Int)), .int (vd_I (key : Int)), .int (vd_I (y : Int)), .int x8] [] (vd_mf M f) Q) → ∃ (f' : Nat → Nat → Int32) (a8' : Value), (∀ d Q, vd_wp d 10 22 [.ref o, .int (vd_I (first : Int)), .int (vd_I (n : Int)), .int (vd_I (wx : Int)), .int (vd_I (wy : Int)), .int (vd_I ((first + vd_scn n wx wy (key * n + y) : Nat) : Int)), .int (vd_I (key : Int)), .int (vd_I (y : Int)), a8] [] (vd_mf M f) Q = vd_wp d 10 80 [.ref o, .int (vd_I (first : Int)), .int (vd_I (n : Int)), .int (vd_I (wx : Int)), .int (vd_I (wy : Int)), .int (vd_I ((first + vd_scn n wx wy (key * n + n) : Nat) : Int)), .int (vd_I (key : Int)), .int (vd_I (n : Int)), a8'] [] (vd_mf M f') Q) ∧ (∀ i, i < vd_scn n wx wy (key * n + n) → f' o (first + i) = vd_I ((vd_sZ n wx wy N i : Nat) : Int)) ∧ (∀ c i, ¬ (c = o ∧ first ≤ i ∧ i < first + n * n) → f' c i = f c i) := fun q ⟨x8, hw⟩ => by
      obtain ⟨f', a', r1, r2, r3⟩ := ih (y + 1) f (.int x8) (by omega) (fun i hi => hf i (by rw [sk q] at hi; exact hi))
      rw [sk q] at r1
      refine ⟨f', a', fun d Q => ?_, r2, r3⟩
      rw [hw d Q, vd_S10_74, vd_I_add, ey]
      exact r1 d Q
    by_cases c1 : key < wy * y
    · refine skip ?_ ⟨vd_I ((key : Int) - ((wy * y : Nat) : Int)), fun d Q => ?_⟩
      · cases q : vd_sv n wx wy (key * n + y) with
        | false => rfl
        | true =>
          have := (vd_sv_iff.mp q).1
          rw [e1, e2] at this
          omega
      · rw [vd_S10_22, if_pos lt0, vd_S10_28, vd_I_mul, ewy, vd_I_sub, if_pos (by rw [vd_I_toInt (by omega) (by omega)]; omega)]
    obtain ⟨r, hr⟩ : ∃ r, r = key - wy * y := ⟨_, rfl⟩
    have er : (key : Int) - ((wy * y : Nat) : Int) = (r : Int) := by omega
    have to43 : ∀ d Q, vd_wp d 10 22 [.ref o, .int (vd_I (first : Int)), .int (vd_I (n : Int)), .int (vd_I (wx : Int)), .int (vd_I (wy : Int)), .int (vd_I ((first + vd_scn n wx wy (key * n + y) : Nat) : Int)), .int (vd_I (key : Int)), .int (vd_I (y : Int)), a8] [] (vd_mf M f) Q = if ((r : Int) % (wx : Int)) = 0 then vd_wp d 10 50 [.ref o, .int (vd_I (first : Int)), .int (vd_I (n : Int)), .int (vd_I (wx : Int)), .int (vd_I (wy : Int)), .int (vd_I ((first + vd_scn n wx wy (key * n + y) : Nat) : Int)), .int (vd_I (key : Int)), .int (vd_I (y : Int)), .int (vd_I (r : Int))] [] (vd_mf M f) Q else vd_wp d 10 74 [.ref o, .int (vd_I (first : Int)), .int (vd_I (n : Int)), .int (vd_I (wx : Int)), .int (vd_I (wy : Int)), .int (vd_I ((first + vd_scn n wx wy (key * n + y) : Nat) : Int)), .int (vd_I (key : Int)), .int (vd_I (y : Int)), .int (vd_I (r : Int))] [] (vd_mf M f) Q := fun d Q => by
      have rb : (r : Int) % (wx : Int) < (wx : Int) := Int.emod_lt_of_pos _ (by omega)
      have rb' : 0 ≤ (r : Int) % (wx : Int) := Int.emod_nonneg _ (by omega)
      rw [vd_S10_22, if_pos lt0, vd_S10_28, vd_I_mul, ewy, vd_I_sub, er, if_neg (by rw [vd_I_toInt (by omega) (by omega)]; omega), vd_S10_43, vd_S10_46 _ _ _ _ _ _ _ _ _ _ _ _ _ _ (show (0 : Int) < (wx : Int) by omega) (show (wx : Int) < 2147483648 by omega), vd_I_rem (by omega) (by omega) (by omega) (by omega), vd_I_toInt (by omega) (by omega)]
    have emod : ((r : Int) % (wx : Int)) = ((r % wx : Nat) : Int) := (Int.natCast_emod r wx).symm
    obtain ⟨rd, hrd⟩ : ∃ rd, rd = r / wx := ⟨_, rfl⟩
    have ediv : ((r : Int) / (wx : Int)) = (rd : Int) := by rw [hrd]; exact (Int.natCast_ediv r wx).symm
    by_cases c2 : r % wx = 0
    · have dr : rd ≤ r := by rw [hrd]; exact Nat.div_le_self r wx
      have to53 : ∀ d Q, vd_wp d 10 22 [.ref o, .int (vd_I (first : Int)), .int (vd_I (n : Int)), .int (vd_I (wx : Int)), .int (vd_I (wy : Int)), .int (vd_I ((first + vd_scn n wx wy (key * n + y) : Nat) : Int)), .int (vd_I (key : Int)), .int (vd_I (y : Int)), a8] [] (vd_mf M f) Q = if (rd : Int) < (n : Int) then vd_wp d 10 58 [.ref o, .int (vd_I (first : Int)), .int (vd_I (n : Int)), .int (vd_I (wx : Int)), .int (vd_I (wy : Int)), .int (vd_I ((first + vd_scn n wx wy (key * n + y) : Nat) : Int)), .int (vd_I (key : Int)), .int (vd_I (y : Int)), .int (vd_I (r : Int))] [] (vd_mf M f) Q else vd_wp d 10 74 [.ref o, .int (vd_I (first : Int)), .int (vd_I (n : Int)), .int (vd_I (wx : Int)), .int (vd_I (wy : Int)), .int (vd_I ((first + vd_scn n wx wy (key * n + y) : Nat) : Int)), .int (vd_I (key : Int)), .int (vd_I (y : Int)), .int (vd_I (r : Int))] [] (vd_mf M f) Q := fun d Q => by
        rw [to43 d Q, if_pos (by rw [emod, c2]; rfl), vd_S10_50, vd_S10_53 _ _ _ _ _ _ _ _ _ _ _ _ _ _ (show (0 : Int) < (wx : Int) by omega) (show (wx : Int) < 2147483648 by omega), vd_I_div (by omega) (by omega) (by omega) (by omega), ediv, vd_I_toInt (by omega) (by omega), vd_I_toInt (by omega) (by omega)]
      by_cases c3 : rd < n
      · have v : vd_sv n wx wy (key * n + y) = true := by
          rw [vd_sv_iff, e1, e2, ← hr, ← hrd]
          exact ⟨by omega, c2, c3⟩
        have su : vd_suv n wx wy (key * n + y) = y * n + rd := by
          unfold vd_suv
          rw [e1, e2, ← hr, ← hrd]
        have s1 : vd_scn n wx wy (key * n + (y + 1)) = vd_scn n wx wy (key * n + y) + 1 := by
          rw [em]
          show vd_scn n wx wy (key * n + y) + (if vd_sv n wx wy (key * n + y) = true then 1 else 0) = _
          rw [if_pos v]
        have slt : vd_scn n wx wy (key * n + y) < n * n := by
          rw [← hc]
          exact vd_scn_lt hmN v
        have zat := vd_sZ_at (N := N) hmN v
        obtain ⟨p, hp⟩ : ∃ p, p = vd_scn n wx wy (key * n + y) := ⟨_, rfl⟩
        rw [← hp] at hf s1 slt zat to53
        obtain ⟨f1, hf1⟩ : ∃ f1, f1 = vd_up f o (first + p) (vd_I ((vd_sZ n wx wy N p : Nat) : Int)) := ⟨_, rfl⟩
        obtain ⟨f', a', r1, r2, r3⟩ := ih (y + 1) f1 (.int (vd_I (r : Int))) (by omega) (fun i hi => by
          rw [s1] at hi
          rw [hf1]
          by_cases q : i = p
          · subst q
            rw [vd_up_eq]
          · rw [vd_up_ne (by omega)]
            exact hf i (by omega))
        rw [s1] at r1
        refine ⟨f', a', fun d Q => ?_, r2, fun c i q => by rw [r3 c i q, hf1, vd_up_ne (by omega)]⟩
        have ep : ((first + p : Nat) : Int) + 1 = ((first + (p + 1) : Nat) : Int) := by omega
        have eyn : (y : Int) * (n : Int) = ((y * n : Nat) : Int) := (Int.natCast_mul y n).symm
        have ev : ((y * n : Nat) : Int) + (rd : Int) = ((vd_sZ n wx wy N p : Nat) : Int) := by
          rw [zat, su]
          omega
        have lb : ((first + p : Nat) : Int) < (vd_l M o : Int) := by rw [hl]; omega
        rw [← hp, to53 d Q, if_pos (by omega), vd_S10_58, vd_S10_68 _ _ _ _ _ _ _ _ _ _ _ _ _ _ _ _ _ (show (0 : Int) < (wx : Int) by omega) (show (wx : Int) < 2147483648 by omega), vd_I_div (by omega) (by omega) (by omega) (by omega), ediv, vd_I_mul, eyn, vd_I_add, ev, vd_S10_70 _ _ _ _ _ _ _ _ _ _ _ _ _ _ _ (show (0 : Int) ≤ ((first + p : Nat) : Int) by omega) lb (by omega) ho hk, Int.toNat_natCast, ← hf1, vd_I_add, ep, vd_S10_74, vd_I_add, ey]
        exact r1 d Q
      · refine skip ?_ ⟨vd_I (r : Int), fun d Q => by rw [to53 d Q, if_neg (by omega)]⟩
        cases q : vd_sv n wx wy (key * n + y) with
        | false => rfl
        | true =>
          have := (vd_sv_iff.mp q).2.2
          rw [e1, e2, ← hr, ← hrd] at this
          exact absurd this c3
    · refine skip ?_ ⟨vd_I (r : Int), fun d Q => by rw [to43 d Q, if_neg (by rw [emod]; omega)]⟩
      cases q : vd_sv n wx wy (key * n + y) with
      | false => rfl
      | true =>
        have := (vd_sv_iff.mp q).2.1
        rw [e1, e2, ← hr] at this
        exact absurd this c2
theorem vd_L10k (ho : 10 ≤ o) (hk : vd_k M o = 32) (hl : vd_l M o = len) (hlen : len ≤ 65536) (hn : 1 ≤ n ∧ n ≤ 32) (hx : 1 ≤ wx ∧ wx ≤ 4) (hy : 1 ≤ wy ∧ wy ≤ 4) (hN : K * n ≤ N) (hc : vd_scn n wx wy N = n * n) (hfl : first + n * n ≤ len) (hK : K ≤ 200) (eK : ((wx : Int) + (wy : Int)) * ((n : Int) - 1) = (K : Int) - 1) (j : Nat) : ∀ (key : Nat) (f : Nat → Nat → Int32) (a7 a8 : Value), key + j = K → (∀ i, i < vd_scn n wx wy (key * n) → f o (first + i) = vd_I ((vd_sZ n wx wy N i : Nat) : Int)) → ∃ (f' : Nat → Nat → Int32), (∀ d Q, vd_wp d 10 6 [.ref o, .int (vd_I (first : Int)), .int (vd_I (n : Int)), .int (vd_I (wx : Int)), .int (vd_I (wy : Int)), .int (vd_I ((first + vd_scn n wx wy (key * n) : Nat) : Int)), .int (vd_I (key : Int)), a7, a8] [] (vd_mf M f) Q = Q (vd_mf M f') (.inl none)) ∧ (∀ i, i < vd_scn n wx wy (K * n) → f' o (first + i) = vd_I ((vd_sZ n wx wy N i : Nat) : Int)) ∧ (∀ c i, ¬ (c = o ∧ first ≤ i ∧ i < first + n * n) → f' c i = f c i) := by
  induction j with
  | zero =>
    intro key f a7 a8 h hf
    have hkk : key = K := by omega
    subst hkk
    refine ⟨f, fun d Q => ?_, hf, fun _ _ _ => rfl⟩
    rw [vd_S10_6, vd_I_add, vd_I_sub, vd_I_mul, eK, if_pos (by rw [vd_I_toInt (by omega) (by omega), vd_I_toInt (by omega) (by omega)]; omega), vd_S10_86]
  | succ j ih =>
    intro key f a7 a8 h hf
    have ek : (key : Int) + 1 = ((key + 1 : Nat) : Int) := by omega
    have kn' : key * n + n = (key + 1) * n := (Nat.succ_mul key n).symm
    obtain ⟨f1, a1, r1, r2, r3⟩ := vd_L10y (M := M) (K := K) ho hk hl hlen hn hx hy hN hc hfl (key := key) (by omega) hK n 0 f a8 (by omega) hf
    rw [kn'] at r1 r2
    obtain ⟨f', q1, q2, q3⟩ := ih (key + 1) f1 (.int (vd_I (n : Int))) a1 (by omega) r2
    refine ⟨f', fun d Q => ?_, q2, fun c i q => by rw [q3 c i q, r3 c i q]⟩
    have r1' := r1 d Q
    rw [show vd_I ((0 : Nat) : Int) = vd_I 0 from rfl, Nat.add_zero] at r1'
    rw [vd_S10_6, vd_I_add, vd_I_sub, vd_I_mul, eK, if_neg (by rw [vd_I_toInt (by omega) (by omega), vd_I_toInt (by omega) (by omega)]; omega), vd_S10_19, r1', vd_S10_80, vd_I_add, ek]
    exact q1 d Q
theorem vd_fillS (ho : 10 ≤ o) (hk : vd_k M o = 32) (hl : vd_l M o = len) (hlen : len ≤ 65536) (hn : 1 ≤ n ∧ n ≤ 32) (hx : 1 ≤ wx ∧ wx ≤ 4) (hy : 1 ≤ wy ∧ wy ≤ 4) (hN : K * n ≤ N) (hc : vd_scn n wx wy N = n * n) (hfl : first + n * n ≤ len) (hK : K ≤ 200) (eK : ((wx : Int) + (wy : Int)) * ((n : Int) - 1) = (K : Int) - 1) (hc' : vd_scn n wx wy (K * n) = n * n) (f : Nat → Nat → Int32) : ∃ (f' : Nat → Nat → Int32), (∀ d Q, vd_wp d 10 0 [.ref o, .int (vd_I (first : Int)), .int (vd_I (n : Int)), .int (vd_I (wx : Int)), .int (vd_I (wy : Int)), vd_U, vd_U, vd_U, vd_U] [] (vd_mf M f) Q = Q (vd_mf M f') (.inl none)) ∧ (∀ i, i < n * n → f' o (first + i) = vd_I ((vd_sZ n wx wy N i : Nat) : Int)) ∧ (∀ c i, ¬ (c = o ∧ first ≤ i ∧ i < first + n * n) → f' c i = f c i) := by
  have s0 : vd_scn n wx wy (0 * n) = 0 := by rw [Nat.zero_mul]; rfl
  obtain ⟨f', q1, q2, q3⟩ := vd_L10k (M := M) ho hk hl hlen hn hx hy hN hc hfl hK eK K 0 f vd_U vd_U (by omega) (fun i hi => by rw [s0] at hi; omega)
  rw [s0, Nat.add_zero] at q1
  rw [hc'] at q2
  refine ⟨f', fun d Q => ?_, q2, q3⟩
  rw [vd_S10_0]
  exact q1 d Q
end VDSCL
