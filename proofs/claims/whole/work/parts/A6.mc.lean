/-! ===== prediction from others: the class's rows ===== -/
def vd_sum (F : Nat → Int) : Nat → Int
  | 0 => 0
  | n + 1 => vd_sum F n + F n
theorem vd_sum_b {F : Nat → Int} (h : ∀ t, -40000 ≤ F t ∧ F t ≤ 40000) : ∀ n : Nat, -40000 * (n : Int) ≤ vd_sum F n ∧ vd_sum F n ≤ 40000 * (n : Int) := by
  intro n
  induction n with
  | zero => simp only [vd_sum]; omega
  | succ n ih =>
    have := h n
    simp only [vd_sum]
    omega
theorem vd_mulb {a b : Int} (a0 : -128 ≤ a) (a1 : a ≤ 128) (b0 : 0 ≤ b) (b1 : b ≤ 255) : -40000 ≤ a * b ∧ a * b ≤ 40000 := by
  have h1 : a * b ≤ 128 * b := Int.mul_le_mul_of_nonneg_right a1 b0
  have h2 : -128 * b ≤ a * b := Int.mul_le_mul_of_nonneg_right a0 b0
  omega
/-- a filtered sample -/
def vd_hr (T l : Nat → Int) (c : Nat) : Int := vd_wn ((64 + vd_sum (fun t => T t * l (c + t)) 8) / 128) 0 255
theorem vd_hr_b (T l : Nat → Int) (c : Nat) : 0 ≤ vd_hr T l c ∧ vd_hr T l c ≤ 255 := vd_wn_b (by decide)
def vd_PC (M : vd_M) (p s : Nat) : Prop := (vd_k M p = 7 ∧ vd_r M p 2 = some s) ∧ (vd_k M s = 32 ∧ vd_l M s = 55296) ∧ (197 ≤ p ∧ 197 ≤ s ∧ p ≠ s)
def vd_pd (pl : Nat) (w : Int) : Int := if pl = 0 then w else (w + 1) / 2
def vd_ax (pl x y : Nat) : Nat := if pl = 0 then 192 * y + x else 27648 + 9216 * pl + 96 * y + x
theorem vd_ax_add (pl x y : Nat) : vd_ax pl x y = vd_ax pl 0 y + x := by
  unfold vd_ax
  split <;> omega
section VDMC
variable {M : vd_M} {ow fa lo lf : Nat} {f : Nat → Nat → Int32} {d : Nat} {Q : vd_M → (Option Value ⊕ Nat) → Prop} {p s pl : Nat}
theorem vd_P107 (hM : vd_SC M ow fa lo lf) (hk : vd_k M p = 7) {w : Int} (hw : f p 0 = vd_I w) (w0 : 0 ≤ w) (w1 : w ≤ 192) (hpl : pl < 3) : vd_wp d 107 0 [.ref p, .int (vd_I (pl : Int))] [] (vd_mf M f) Q = Q (vd_mf M f) (.inl (some (.int (vd_I (vd_pd pl w))))) := by
  by_cases c : pl = 0
  · have e : vd_pd pl w = w := by unfold vd_pd; rw [if_pos c]
    have c' : ((pl : Nat) : Int) = 0 := by omega
    simp (disch := first | assumption | omega) only [vd_S107_0 hM, vd_S107_4 hM, vd_S107_19 hM, hw, vd_I_toInt, c', eq_self, if_true, e]
  · have e : (w + 1) / 2 = vd_pd pl w := by unfold vd_pd; rw [if_neg c]
    have c' : ¬ (((pl : Nat) : Int) = 0) := by omega
    simp (disch := first | assumption | omega) only [vd_S107_0 hM, vd_S107_11 hM, vd_S107_19 hM, hw, vd_I_toInt, c', if_false, vd_I_add, vd_I_div, e]
theorem vd_P108 (hM : vd_SC M ow fa lo lf) (hk : vd_k M p = 7) {w : Int} (hw : f p 1 = vd_I w) (w0 : 0 ≤ w) (w1 : w ≤ 192) (hpl : pl < 3) : vd_wp d 108 0 [.ref p, .int (vd_I (pl : Int))] [] (vd_mf M f) Q = Q (vd_mf M f) (.inl (some (.int (vd_I (vd_pd pl w))))) := by
  by_cases c : pl = 0
  · have e : vd_pd pl w = w := by unfold vd_pd; rw [if_pos c]
    have c' : ((pl : Nat) : Int) = 0 := by omega
    simp (disch := first | assumption | omega) only [vd_S108_0 hM, vd_S108_4 hM, vd_S108_19 hM, hw, vd_I_toInt, c', eq_self, if_true, e]
  · have e : (w + 1) / 2 = vd_pd pl w := by unfold vd_pd; rw [if_neg c]
    have c' : ¬ (((pl : Nat) : Int) = 0) := by omega
    simp (disch := first | assumption | omega) only [vd_S108_0 hM, vd_S108_11 hM, vd_S108_19 hM, hw, vd_I_toInt, c', if_false, vd_I_add, vd_I_div, e]
theorem vd_P109 (hM : vd_SC M ow fa lo lf) {x y : Nat} (hpl : pl < 3) : vd_wp d 109 0 [.int (vd_I (pl : Int)), .int (vd_I (x : Int)), .int (vd_I (y : Int))] [] (vd_mf M f) Q = Q (vd_mf M f) (.inl (some (.int (vd_I ((vd_ax pl x y : Nat) : Int))))) := by
  by_cases c : pl = 0
  · have e : (y : Int) * 192 + (x : Int) = ((vd_ax pl x y : Nat) : Int) := by unfold vd_ax; rw [if_pos c]; omega
    have c' : ((pl : Nat) : Int) = 0 := by omega
    have c2 : (vd_I ((pl : Nat) : Int)).toInt = 0 := by rw [c', vd_I_toInt (by decide) (by decide)]
    simp (disch := first | assumption | omega) only [vd_S109_0 hM, vd_S109_4 hM, vd_S109_31 hM, c2, eq_self, if_true, vd_I_mul, vd_I_add, e]
  · have e : 36864 + ((pl : Int) - 1) * 9216 + (y : Int) * 96 + (x : Int) = ((vd_ax pl x y : Nat) : Int) := by unfold vd_ax; rw [if_neg c]; omega
    have c' : ¬ (((pl : Nat) : Int) = 0) := by omega
    have c2 : ¬ ((vd_I ((pl : Nat) : Int)).toInt = 0) := by rw [vd_I_toInt (by omega) (by omega)]; exact c'
    simp (disch := first | assumption | omega) only [vd_S109_0 hM, vd_S109_14 hM, vd_S109_31 hM, c2, if_false, vd_I_mul, vd_I_add, vd_I_sub, e]
/-- the taps of a row -/
theorem vd_L106t (hM : vd_SC M ow fa lo lf) {T l : Nat → Int} {first i : Nat} (hT : ∀ t, t < 8 → f 57 (first + t) = vd_I (T t)) (hl : ∀ t, t < 8 → f 58 (i + t) = vd_I (l (i + t))) (h1 : first + 8 ≤ 256) (h2 : i + 8 ≤ 72) (x2 x3 x5 x6 x7 x8 : Int32) : ∀ (m t : Nat), t + m = 8 → vd_wp d 106 132 [.ref 54, .ref p, .int x2, .int x3, .int (vd_I (first : Int)), .int x5, .int x6, .int x7, .int x8, .int (vd_I (i : Int)), .int (vd_I (64 + vd_sum (fun t => T t * l (i + t)) t)), .int (vd_I (t : Int))] [] (vd_mf M f) Q = vd_wp d 106 171 [.ref 54, .ref p, .int x2, .int x3, .int (vd_I (first : Int)), .int x5, .int x6, .int x7, .int x8, .int (vd_I (i : Int)), .int (vd_I (64 + vd_sum (fun t => T t * l (i + t)) 8)), .int (vd_I 8)] [] (vd_mf M f) Q := by
  intro m
  induction m with
  | zero =>
    intro t ht
    have e : t = 8 := by omega
    subst e
    rw [vd_S106_132 hM]
    simp (disch := omega) only [vd_I_toInt, show ((8 : Nat) : Int) = 8 from rfl, Int.lt_irrefl, if_false]
  | succ m ih =>
    intro t ht
    have c : (t : Int) < 8 := by omega
    have n1 : ((first : Int) + (t : Int)).toNat = first + t := by omega
    have n2 : ((i : Int) + (t : Int)).toNat = i + t := by omega
    have e1 : (t : Int) + 1 = ((t + 1 : Nat) : Int) := by omega
    have e2 : 64 + vd_sum (fun t => T t * l (i + t)) t + T t * l (i + t) = 64 + vd_sum (fun t => T t * l (i + t)) (t + 1) := Int.add_assoc _ _ _
    have a := hT t (by omega)
    have b := hl t (by omega)
    rw [← ih (t + 1) (by omega), vd_S106_132 hM]
    simp (disch := omega) only [vd_S106_139 hM, vd_S106_150 hM, vd_S106_160 hM, vd_I_toInt, c, if_true, vd_I_add, vd_I_mul, n1, n2, a, b, e1, e2]
/-- the filtered samples of a row -/
theorem vd_L106i (hM : vd_SC M ow fa lo lf) {T l : Nat → Int} {first wide j : Nat} (h1 : first + 8 ≤ 256) (h2 : wide ≤ 64) (hj : j < 72) (hTb : ∀ t, -128 ≤ T t ∧ T t ≤ 128) (hlb : ∀ t, 0 ≤ l t ∧ l t ≤ 255) (x2 x3 x5 x6 x8 : Int32) : ∀ (m i : Nat) (f : Nat → Nat → Int32) (a10 a11 : Value), i + m = wide → (∀ t, t < 8 → f 57 (first + t) = vd_I (T t)) → (∀ t, t < wide + 7 → f 58 t = vd_I (l t)) → f 54 11 = vd_I (wide : Int) → ∃ (f' : Nat → Nat → Int32) (b10 b11 : Value), (∀ d Q, vd_wp (d + 1) 106 116 [.ref 54, .ref p, .int x2, .int x3, .int (vd_I (first : Int)), .int x5, .int x6, .int (vd_I (j : Int)), .int x8, .int (vd_I (i : Int)), a10, a11] [] (vd_mf M f) Q = vd_wp (d + 1) 106 198 [.ref 54, .ref p, .int x2, .int x3, .int (vd_I (first : Int)), .int x5, .int x6, .int (vd_I (j : Int)), .int x8, .int (vd_I (wide : Int)), b10, b11] [] (vd_mf M f') Q) ∧ (∀ c, i ≤ c → c < wide → f' 59 (64 * j + c) = vd_I (vd_hr T l c)) ∧ (∀ c q, ¬ (c = 59 ∧ 64 * j + i ≤ q ∧ q < 64 * j + wide) → f' c q = f c q) := by
  intro m
  induction m with
  | zero =>
    intro i f a10 a11 hi hT hl h11
    have e : i = wide := by omega
    subst e
    refine ⟨f, a10, a11, fun d Q => ?_, fun c a b => by omega, fun _ _ _ => rfl⟩
    rw [vd_S106_116 hM, h11]
    simp (disch := omega) only [Int.lt_irrefl, if_false]
  | succ m ih =>
    intro i f a10 a11 hi hT hl h11
    have ic : i < wide := by omega
    have c : (i : Int) < (wide : Int) := by omega
    have sb := vd_sum_b (F := fun t => T t * l (i + t)) (fun t => vd_mulb (hTb t).1 (hTb t).2 (hlb _).1 (hlb _).2) 8
    have e8 : ((8 : Nat) : Int) = 8 := rfl
    rw [e8] at sb
    have e1 : (i : Int) + 1 = ((i + 1 : Nat) : Int) := by omega
    have n1 : ((j : Int) * 64 + (i : Int)).toNat = 64 * j + i := by omega
    have tl := fun d (Q : vd_M → (Option Value ⊕ Nat) → Prop) => vd_L106t (p := p) (d := d) (Q := Q) hM hT (fun t ht => hl (i + t) (by omega)) h1 (by omega) x2 x3 x5 x6 (vd_I (j : Int)) x8 8 0 rfl
    have s0 : vd_sum (fun t => T t * l (i + t)) 0 = 0 := rfl
    have z0 : ((0 : Nat) : Int) = 0 := rfl
    simp only [s0, z0, Int.add_zero] at tl
    generalize hS : 64 + vd_sum (fun t => T t * l (i + t)) 8 = S at tl
    have P103 := fun (f : Nat → Nat → Int32) (d : Nat) (Q : vd_M → (Option Value ⊕ Nat) → Prop) => vd_P103 (a := S / 128) (f := f) (d := d) (Q := Q) hM (by omega) (by omega)
    have ev : vd_wn (S / 128) 0 255 = vd_hr T l i := by unfold vd_hr; rw [hS]
    rw [ev] at P103
    obtain ⟨f2, b10, b11, p1, p2, p3⟩ := ih (i + 1) (vd_up f 59 (64 * j + i) (vd_I (vd_hr T l i))) (.int (vd_I S)) (.int (vd_I 8)) (by omega) (fun t ht => by rw [vd_up_ne (by omega)]; exact hT t ht) (fun t ht => by rw [vd_up_ne (by omega)]; exact hl t ht) (by rw [vd_up_ne (by omega)]; exact h11)
    refine ⟨f2, b10, b11, fun d Q => ?_, fun q a b => ?_, fun c q hq => ?_⟩
    · rw [← p1 d Q, vd_S106_116 hM, h11]
      simp (disch := omega) only [vd_S106_125 hM, tl, vd_S106_171 hM, vd_S106_188 hM, vd_S106_191 hM, vd_I_toInt, c, if_true, vd_shr7, vd_I_mul, vd_I_add, P103, n1, e1, vd_rs_v, vd_rs_n]
    · by_cases cq : q = i
      · subst cq
        rw [p3 _ _ (by omega), vd_up_eq]
      · exact p2 q (by omega) b
    · rw [p3 c q (by omega), vd_up_ne (by omega)]
end VDMC
