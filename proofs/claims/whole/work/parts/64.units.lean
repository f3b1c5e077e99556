/-! ===== rectangles of units ===== -/
/-- n rows of a rectangle filled, in rows of S units -/
def vd_ur (S : Nat) (f : Nat → Nat → Int32) (o x0 x1 y0 : Nat) (v : Int32) : Nat → (Nat → Nat → Int32)
  | 0 => f
  | n + 1 => vd_uf (vd_ur S f o x0 x1 y0 v n) o (S * (y0 + n) + x0) (S * (y0 + n) + x1) v
theorem vd_ur_ne {S : Nat} {f : Nat → Nat → Int32} {o x0 x1 y0 : Nat} {v : Int32} {c : Nat} (h : c ≠ o) : ∀ (n i : Nat), vd_ur S f o x0 x1 y0 v n c i = f c i := by
  intro n
  induction n with
  | zero => intro i; rfl
  | succ n ih =>
    intro i
    show vd_uf _ _ _ _ _ _ _ = _
    rw [vd_uf_ne (by omega), ih]
theorem vd_ur_at {S : Nat} {f : Nat → Nat → Int32} {o x0 x1 y0 : Nat} {v : Int32} (hx : x1 ≤ S) : ∀ (n i j : Nat), i < S → vd_ur S f o x0 x1 y0 v n o (S * j + i) = if x0 ≤ i ∧ i < x1 ∧ y0 ≤ j ∧ j < y0 + n then v else f o (S * j + i) := by
  intro n
  induction n with
  | zero =>
    intro i j hi
    rw [if_neg (by omega)]
    rfl
  | succ n ih =>
    intro i j hi
    show vd_uf _ _ _ _ _ _ _ = _
    by_cases c : j = y0 + n
    · subst c
      by_cases c2 : x0 ≤ i ∧ i < x1
      · rw [vd_uf_in (by omega) (by omega), if_pos (by omega)]
      · rw [vd_uf_ne (by omega), ih i _ hi, if_neg (by omega), if_neg (by omega)]
    · have hne : ¬ (o = o ∧ S * (y0 + n) + x0 ≤ S * j + i ∧ S * j + i < S * (y0 + n) + x1) := by
        rintro ⟨_, q1, q2⟩
        by_cases c3 : j < y0 + n
        · have := Nat.mul_le_mul_left S (show j + 1 ≤ y0 + n by omega)
          rw [Nat.mul_succ] at this
          omega
        · have := Nat.mul_le_mul_left S (show y0 + n + 1 ≤ j by omega)
          rw [Nat.mul_succ] at this
          omega
      rw [vd_uf_ne hne, ih i j hi]
      by_cases c4 : x0 ≤ i ∧ i < x1 ∧ y0 ≤ j ∧ j < y0 + n
      · rw [if_pos c4, if_pos (by omega)]
      · rw [if_neg c4, if_neg (by omega)]
section VDUN
variable {M N : vd_M} {ow fa lo lf : Nat} {f g : Nat → Nat → Int32} {d : Nat} {Q : vd_M → (Option Value ⊕ Nat) → Prop}
/-- open -/
theorem vd_P70 (hM : vd_SC M ow fa lo lf) {nb : Nat} {x y w h : Int32} (hb : f 37 4 = vd_I (nb : Int)) (hn : nb < 576) : ∃ f', (∀ d Q, vd_wp (d + 2) 70 0 [.ref 37, .int x, .int y, .int w, .int h, vd_U] [] (vd_mf M f) Q = Q (vd_mf M f') (.inl (some (.int (vd_I (18 * (nb : Int))))))) ∧ f' 37 4 = vd_I ((nb : Int) + 1) ∧ (f' fa (18 * nb) = x ∧ f' fa (18 * nb + 1) = y ∧ f' fa (18 * nb + 2) = w ∧ f' fa (18 * nb + 3) = h ∧ ∀ q, 4 ≤ q → q < 18 → f' fa (18 * nb + q) = vd_I 0) ∧ (∀ c i, ¬ (c = 37 ∧ i = 4) → ¬ (c = fa ∧ 18 * nb ≤ i ∧ i < 18 * nb + 18) → f' c i = f c i) := by
  have hp := hM.par
  have e0 : (18 * (nb : Int)) = ((18 * nb : Nat) : Int) := by omega
  have e1 : ((nb : Int) * 18 + 18) = ((18 * nb + 18 : Nat) : Int) := by omega
  have e2 : ((nb : Int) * 18) = ((18 * nb : Nat) : Int) := by omega
  have n0 : (((18 * nb : Nat) : Int) + 0).toNat = 18 * nb := by omega
  have n1 : (((18 * nb : Nat) : Int) + 1).toNat = 18 * nb + 1 := by omega
  have n2 : (((18 * nb : Nat) : Int) + 2).toNat = 18 * nb + 2 := by omega
  have n3 : (((18 * nb : Nat) : Int) + 3).toNat = 18 * nb + 3 := by omega
  have hF : ∀ (f : Nat → Nat → Int32) d Q, vd_wp (d + 1) 290 0 [.ref fa, .int (vd_I ((18 * nb : Nat) : Int)), .int (vd_I ((18 * nb + 18 : Nat) : Int)), .int (vd_I 0), vd_U] [] (vd_mf M f) Q = Q (vd_mf M (vd_uf f fa (18 * nb) (18 * nb + 18) (vd_I 0))) (.inl none) := fun f d Q => vd_F290 hM.gfa hM.kfa hM.lfa (by decide) (by omega) (by omega)
  refine ⟨vd_up (vd_up (vd_up (vd_up (vd_uf (vd_up f 37 4 (vd_I ((nb : Int) + 1))) fa (18 * nb) (18 * nb + 18) (vd_I 0)) fa (18 * nb) x) fa (18 * nb + 1) y) fa (18 * nb + 2) w) fa (18 * nb + 3) h, fun d Q => ?_, ?_, ⟨?_, ?_, ?_, ?_, fun q q1 q2 => ?_⟩, fun c i h1 h2 => ?_⟩
  · rw [e0]
    have e3 : (((18 * nb : Nat) : Int) + 18) = ((18 * nb + 18 : Nat) : Int) := by omega
    simp (disch := first | assumption | omega) only [vd_S70_0 hM, vd_S70_31 hM, vd_S70_34 hM, vd_S70_43 hM, vd_S70_53 hM, vd_S70_63 hM, vd_S70_74 hM, hb, vd_I_mul, vd_I_add, e1, e2, e3, hF, vd_rs_v, vd_rs_n, n0, n1, n2, n3]
  · rw [vd_up_ne (by omega), vd_up_ne (by omega), vd_up_ne (by omega), vd_up_ne (by omega), vd_uf_ne (by omega), vd_up_eq]
  · rw [vd_up_ne (by omega), vd_up_ne (by omega), vd_up_ne (by omega), vd_up_eq]
  · rw [vd_up_ne (by omega), vd_up_ne (by omega), vd_up_eq]
  · rw [vd_up_ne (by omega), vd_up_eq]
  · rw [vd_up_eq]
  · rw [vd_up_ne (by omega), vd_up_ne (by omega), vd_up_ne (by omega), vd_up_ne (by omega), vd_uf_in (by omega) (by omega)]
  · rw [vd_up_ne (by omega), vd_up_ne (by omega), vd_up_ne (by omega), vd_up_ne (by omega), vd_uf_ne h2, vd_up_ne h1]
/-- fillUnits, one row -/
theorem vd_F77R (hM : vd_SC M ow fa lo lf) {o j x0 x1 : Nat} {hx v : Int32} {y1 : Int} (ho : 10 ≤ o) (hk : vd_k M o = 32) (hl : vd_l M o = 576) (hj : j < 24) (h1 : x1 ≤ 24) : ∀ (m i : Nat), i + m = x1 → x0 ≤ i → vd_wp d 77 79 [.ref 37, .ref o, .int hx, .int v, .int (vd_I (x1 : Int)), .int (vd_I y1), .int (vd_I (j : Int)), .int (vd_I (i : Int))] [] (vd_mf M (vd_uf f o (24 * j + x0) (24 * j + i) v)) Q = vd_wp d 77 103 [.ref 37, .ref o, .int hx, .int v, .int (vd_I (x1 : Int)), .int (vd_I y1), .int (vd_I (j : Int)), .int (vd_I (x1 : Int))] [] (vd_mf M (vd_uf f o (24 * j + x0) (24 * j + x1) v)) Q := by
  intro m
  induction m with
  | zero =>
    intro i hi h0
    have hi : i = x1 := by omega
    subst hi
    simp (disch := omega) only [vd_S77_79 hM, vd_I_toInt, Int.lt_irrefl, if_false]
  | succ m ih =>
    intro i hi h0
    have c : (i : Int) < (x1 : Int) := by omega
    have e := ih (i + 1) (by omega) (by omega)
    have ei : ((j : Int) * 24 + (i : Int)).toNat = 24 * j + i := by omega
    rw [vd_S77_79 hM]
    simp (disch := first | assumption | omega) only [vd_S77_86 hM, vd_S77_96 hM, vd_I_toInt, c, if_true, vd_I_mul, vd_I_add, ei, vd_uf_up (show 24 * j + x0 ≤ 24 * j + i by omega)]
    rw [show (i : Int) + 1 = ((i + 1 : Nat) : Int) by omega]
    exact e
end VDUN
