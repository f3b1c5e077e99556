/-! ===== the filter: one line of samples ===== -/
def vd_hd (z : Int) : Int := vd_wn z (-128) 127
def vd_av (z : Int) : Int := if z < 0 then -z else z
theorem vd_hd_b (z : Int) : -128 ≤ vd_hd z ∧ vd_hd z ≤ 127 := vd_wn_b (by decide)
theorem vd_av_b {z c : Int} (h1 : -c ≤ z) (h2 : z ≤ c) : 0 ≤ vd_av z ∧ vd_av z ≤ c := by
  unfold vd_av
  split <;> omega
def vd_ui (v : Int → Int) (i w : Int) : Int → Int := fun j => if j = i then w else v j
theorem vd_ui_eq (v : Int → Int) (i w : Int) : vd_ui v i w i = w := if_pos rfl
theorem vd_ui_ne {v : Int → Int} {i w j : Int} (h : j ≠ i) : vd_ui v i w j = v j := if_neg h
def vd_cg (c o w : Int) : Int := if c = 0 ∧ o = w then 0 else 1
theorem vd_cg_v (c o w : Int) : vd_cg c o w = 0 ∨ vd_cg c o w = 1 := by
  unfold vd_cg
  split
  · exact Or.inl rfl
  · exact Or.inr rfl
/-- the class's line: offsets from the first sample behind the edge -/
def vd_LC (s : Nat) (b0 st m : Int) (v : Int → Int) (f : Nat → Nat → Int32) : Prop := 1 ≤ st ∧ st ≤ 192 ∧ ∀ i : Int, -m ≤ i → i < m → 0 ≤ b0 + i * st ∧ b0 + i * st < 55296 ∧ f s (b0 + i * st).toNat = vd_I (v i)
def vd_vb (v : Int → Int) : Prop := ∀ i, 0 ≤ v i ∧ v i ≤ 255
theorem vd_ui_b {v : Int → Int} {i w : Int} (h : vd_vb v) (hw : 0 ≤ w ∧ w ≤ 255) : vd_vb (vd_ui v i w) := fun j => by
  unfold vd_ui
  split
  · exact hw
  · exact h j
def vd_eq3 (v : Int → Int) : Nat → Int → Int
  | 0, _ => 1
  | m + 1, k => if 1 < vd_av (v (-1 - k) - v (-1)) ∨ 1 < vd_av (v k - v 0) then 0 else vd_eq3 v m (k + 1)
theorem vd_eq3_v (v : Int → Int) : ∀ m k, vd_eq3 v m k = 0 ∨ vd_eq3 v m k = 1 := by
  intro m
  induction m with
  | zero => intro k; exact Or.inr rfl
  | succ m ih =>
    intro k
    simp only [vd_eq3]
    split
    · exact Or.inl rfl
    · exact ih _
section VDLN
variable {M N : vd_M} {ow fa lo lf p s : Nat} {b0 st m : Int} {v : Int → Int} {f g : Nat → Nat → Int32}
theorem vd_P145 (hM : vd_SC M ow fa lo lf) {z : Int} (h : -100000 ≤ z ∧ z ≤ 100000) (d : Nat) (Q : vd_M → (Option Value ⊕ Nat) → Prop) : vd_wp (d + 1) 145 0 [.int (vd_I z)] [] (vd_mf M f) Q = Q (vd_mf M f) (.inl (some (.int (vd_I (vd_hd z))))) := by
  have P58 := fun (d : Nat) (Q : vd_M → (Option Value ⊕ Nat) → Prop) => vd_P58 (f := f) (d := d) (Q := Q) (a := z) (b := -128) (c := 127) hM (by omega) (by omega) (by omega) (by omega) (by omega) (by omega)
  simp only [vd_S145_0 hM, vd_S145_5 hM, P58, vd_S145_8 hM, vd_hd, vd_rs_v, vd_rs_n]
theorem vd_P275 (hN : vd_SR N) {z : Int} (h : -100000 ≤ z ∧ z ≤ 100000) (d : Nat) (Q : vd_M → (Option Value ⊕ Nat) → Prop) : vd_wp (d + 1) 275 0 [.int (vd_I z)] [] (vd_mf N g) Q = Q (vd_mf N g) (.inl (some (.int (vd_I (vd_hd z))))) := by
  have P194 := fun (d : Nat) (Q : vd_M → (Option Value ⊕ Nat) → Prop) => vd_P194 (f := g) (d := d) (Q := Q) (a := z) (b := -128) (c := 127) hN (by omega) (by omega) (by omega) (by omega) (by omega) (by omega)
  simp only [vd_S275_0 hN, vd_S275_5 hN, P194, vd_S275_8 hN, vd_hd, vd_rs_v, vd_rs_n]
theorem vd_abP {M : vd_M} {f : Nat → Nat → Int32} {z : Int} (h : -100000 ≤ z ∧ z ≤ 100000) (d : Nat) (Q : vd_M → (Option Value ⊕ Nat) → Prop) : vd_wp d 292 0 [.int (vd_I z)] [] (vd_mf M f) Q = Q (vd_mf M f) (.inl (some (.int (vd_I (vd_av z))))) := vd_P292 (by omega) (by omega)
theorem vd_P146 (hM : vd_SC M ow fa lo lf) (hp : vd_PC M p s) (h605 : vd_r M 60 5 = some s) (lc : vd_LC s b0 st m v f) (hv : vd_vb v) {c : Int} (h9 : f 60 9 = vd_I c) (hc : c = 0 ∨ c = 1) {i w : Int} (i0 : -m ≤ i) (i1 : i < m) (hw : 0 ≤ w ∧ w ≤ 255) : ∃ f' : Nat → Nat → Int32, (∀ d Q, vd_wp d 146 0 [.ref 60, .int (vd_I (b0 + i * st)), .int (vd_I w)] [] (vd_mf M f) Q = Q (vd_mf M f') (.inl none)) ∧ vd_LC s b0 st m (vd_ui v i w) f' ∧ f' 60 9 = vd_I (vd_cg c (v i) w) ∧ (∀ k j, k ≠ s → ¬ (k = 60 ∧ j = 9) → f' k j = f k j) ∧ (∀ j, j ≠ (b0 + i * st).toNat → f' s j = f s j) := by
  obtain ⟨⟨hk7, hrs⟩, ⟨hks, hls⟩, hp1, hp2, hp3⟩ := id hp
  obtain ⟨s0, s1, l⟩ := id lc
  obtain ⟨z0, z1, zv⟩ := l i i0 i1
  have vb := hv i
  have b0' : vd_fok .boolean (vd_I 0) = true := by decide
  have b1' : vd_fok .boolean (vd_I 1) = true := by decide
  have zl : b0 + i * st < ((vd_l M s : Nat) : Int) := by rw [hls]; exact z1
  refine ⟨vd_up (vd_up f 60 9 (vd_I (vd_cg c (v i) w))) s (b0 + i * st).toNat (vd_I w), fun d Q => ?_, ⟨s0, s1, fun j j0 j1 => ?_⟩, ?_, fun k j h1 h2 => ?_, fun j h => ?_⟩
  · generalize b0 + i * st = z at *
    rcases hc with rfl | rfl
    · by_cases e : v i = w
      · have ec : vd_cg 0 (v i) w = 0 := if_pos ⟨rfl, e⟩
        rw [ec]
        simp (disch := first | assumption | omega) only [vd_S146_0 hM, h9, vd_I_toInt, eq_self, if_true, vd_S146_8 hM, h605, vd_vr_some, vd_S146_13 hM, zv, e, vd_S146_22 hM, vd_S146_23 hM, vd_S146_32 hM]
      · have ec : vd_cg 0 (v i) w = 1 := if_neg (fun h => e h.2)
        rw [ec]
        simp (disch := first | assumption | omega) only [vd_S146_0 hM, h9, vd_I_toInt, eq_self, if_true, vd_S146_8 hM, h605, vd_vr_some, vd_S146_13 hM, zv, e, if_false, vd_S146_18 hM, vd_S146_23 hM, vd_S146_32 hM]
    · have ec : vd_cg 1 (v i) w = 1 := if_neg (fun h => absurd h.1 (by decide))
      rw [ec]
      simp (disch := first | assumption | omega) only [vd_S146_0 hM, h9, vd_I_toInt, show ¬ ((1 : Int) = 0) by decide, if_false, vd_S146_18 hM, vd_S146_23 hM, h605, vd_vr_some, vd_S146_32 hM]
  · obtain ⟨y0, y1, yv⟩ := l j j0 j1
    refine ⟨y0, y1, ?_⟩
    by_cases e : j = i
    · rw [e, vd_up_eq, vd_ui_eq]
    · have ne : (b0 + j * st).toNat ≠ (b0 + i * st).toNat := fun h => by
        have h2 : j * st = i * st := by omega
        have := Int.eq_of_mul_eq_mul_right (by omega : st ≠ 0) h2
        exact e this
      rw [vd_up_ne (fun h => ne h.2), vd_up_ne (by omega), vd_ui_ne e]
      exact yv
  · rw [vd_up_ne (by omega), vd_up_eq]
  · rw [vd_up_ne (fun h => h1 h.1), vd_up_ne (by omega)]
  · rw [vd_up_ne (fun h' => h h'.2), vd_up_ne (by omega)]
/-- the samples on both sides are even -/
theorem vd_L143 (hM : vd_SC M ow fa lo lf) (hp : vd_PC M p s) (h605 : vd_r M 60 5 = some s) (lc : vd_LC s b0 st m v f) (hv : vd_vb v) {a e : Int} (hae : (a = 1 ∧ e = 3) ∨ (a = 4 ∧ e = 7)) (hm : e < m) (bb : 0 ≤ b0 ∧ b0 < 55296) (d : Nat) (Q : vd_M → (Option Value ⊕ Nat) → Prop) : ∀ (n : Nat) (k : Int), k + n = e + 1 → a ≤ k → vd_wp (d + 1) 143 3 [.ref 60, .int (vd_I b0), .int (vd_I st), .int (vd_I a), .int (vd_I k)] [] (vd_mf M f) Q = Q (vd_mf M f) (.inl (some (.int (vd_I (vd_eq3 v n k))))) := by
  obtain ⟨⟨hk7, hrs⟩, ⟨hks, hls⟩, hp1, hp2, hp3⟩ := id hp
  obtain ⟨s0, s1, l⟩ := id lc
  have end' : ∀ k : Int, a ≤ k → k ≤ 8 → vd_wp (d + 1) 143 3 [.ref 60, .int (vd_I b0), .int (vd_I st), .int (vd_I a), .int (vd_I k)] [] (vd_mf M f) Q = if e < k then vd_wp (d + 1) 143 81 [.ref 60, .int (vd_I b0), .int (vd_I st), .int (vd_I a), .int (vd_I k)] [] (vd_mf M f) Q else vd_wp (d + 1) 143 19 [.ref 60, .int (vd_I b0), .int (vd_I st), .int (vd_I a), .int (vd_I k)] [] (vd_mf M f) Q := by
    intro k k0 k1
    rw [vd_S143_3 hM]
    rcases hae with ⟨rfl, rfl⟩ | ⟨rfl, rfl⟩
    · simp (disch := omega) only [vd_I_toInt, eq_self, if_true, vd_S143_10 hM, vd_S143_16 hM]
    · simp (disch := omega) only [vd_I_toInt, show ¬ ((4 : Int) = 1) by decide, if_false, vd_S143_14 hM, vd_S143_16 hM]
  intro n
  induction n with
  | zero =>
    intro k hk ak
    rw [end' k ak (by omega), if_pos (by omega), vd_S143_81 hM]
    rfl
  | succ n ih =>
    intro k hk ak
    have A := fun (z : Int) (h : -100000 ≤ z ∧ z ≤ 100000) => vd_abP (M := M) (f := f) h
    obtain ⟨y0, y1, yv⟩ := l (-1 - k) (by omega) (by omega)
    obtain ⟨w0, w1, wv⟩ := l (-1) (by omega) (by omega)
    obtain ⟨t0, t1, tv⟩ := l k (by omega) (by omega)
    obtain ⟨u0, u1, uv⟩ := l 0 (by omega) (by omega)
    have h1 := hv (-1 - k)
    have h2 := hv (-1)
    have h3 := hv k
    have h4 := hv 0
    have e1 : b0 - (k + 1) * st = b0 + (-1 - k) * st := by
      rw [show (-1 - k) = -(k + 1) by omega, Int.neg_mul]
      omega
    have e2 : b0 - st = b0 + -1 * st := by omega
    have e3 : b0 = b0 + 0 * st := by omega
    have q1 := vd_av_b (z := v (-1 - k) - v (-1)) (c := 255) (by omega) (by omega)
    have q2 := vd_av_b (z := v k - v 0) (c := 255) (by omega) (by omega)
    have kst : -2000 ≤ k * st ∧ k * st ≤ 2000 := by
      have a1 : 0 ≤ k * st := Int.mul_nonneg (by omega) (by omega)
      have a2 : k * st ≤ 8 * st := Int.mul_le_mul_of_nonneg_right (by omega) (by omega)
      omega
    have kst1 : (k + 1) * st = k * st + st := by rw [Int.add_mul, Int.one_mul]
    have uv' : f s b0.toNat = vd_I (v 0) := by rw [e3]; exact uv
    have first : vd_wp (d + 1) 143 19 [.ref 60, .int (vd_I b0), .int (vd_I st), .int (vd_I a), .int (vd_I k)] [] (vd_mf M f) Q = vd_wp (d + 1) 143 44 [.ref 60, .int (vd_I b0), .int (vd_I st), .int (vd_I a), .int (vd_I k)] [.int (vd_I (vd_av (v (-1 - k) - v (-1))))] (vd_mf M f) Q := by
      rw [vd_S143_19 hM]
      simp (disch := omega) only [vd_I_add, vd_I_mul, vd_I_sub, e1, h605, vd_vr_some]
      rw [vd_S143_31 hM _ _ _ _ _ _ _ _ _ y0 (by rw [hls]; exact y1) (by omega) hks]
      simp (disch := omega) only [vd_I_sub, e2, h605, vd_vr_some, yv]
      rw [vd_S143_39 hM _ _ _ _ _ _ _ _ _ _ w0 (by rw [hls]; exact w1) (by omega) hks]
      simp (disch := omega) only [vd_I_sub, wv, vd_S143_41 hM, A, vd_rs_v, vd_rs_n]
    have second : vd_wp (d + 1) 143 48 [.ref 60, .int (vd_I b0), .int (vd_I st), .int (vd_I a), .int (vd_I k)] [] (vd_mf M f) Q = vd_wp (d + 1) 143 69 [.ref 60, .int (vd_I b0), .int (vd_I st), .int (vd_I a), .int (vd_I k)] [.int (vd_I (vd_av (v k - v 0)))] (vd_mf M f) Q := by
      rw [vd_S143_48 hM]
      simp (disch := omega) only [vd_I_add, vd_I_mul, h605, vd_vr_some]
      rw [vd_S143_58 hM _ _ _ _ _ _ _ _ _ t0 (by rw [hls]; exact t1) (by omega) hks]
      simp (disch := omega) only [h605, vd_vr_some, tv]
      rw [vd_S143_64 hM _ _ _ _ _ _ _ _ _ _ bb.1 (by rw [hls]; exact bb.2) (by omega) hks]
      simp (disch := omega) only [vd_I_sub, uv', vd_S143_66 hM, A, vd_rs_v, vd_rs_n]
    rw [end' k ak (by omega), if_neg (by omega), first, vd_S143_44 hM, vd_I_toInt (by omega) (by omega), vd_I_toInt (by omega) (by omega)]
    simp only [vd_eq3]
    by_cases c1 : 1 < vd_av (v (-1 - k) - v (-1))
    · rw [if_pos c1, if_pos (Or.inl c1), vd_S143_73 hM]
    · rw [if_neg c1, second, vd_S143_69 hM, vd_I_toInt (by omega) (by omega), vd_I_toInt (by omega) (by omega)]
      by_cases c2 : 1 < vd_av (v k - v 0)
      · rw [if_pos c2, if_pos (Or.inr c2), vd_S143_73 hM]
      · rw [if_neg c2, if_neg (by omega), vd_S143_75 hM, vd_I_add]
        exact ih (k + 1) (by omega) (by omega)
end VDLN
