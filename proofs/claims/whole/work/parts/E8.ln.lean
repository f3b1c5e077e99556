/-! ===== the filter: a line, whole, by the reference ===== -/
def vd_df (w v : Int → Int) : Nat → Int → Int
  | 0, _ => 0
  | n + 1, i => if w i = v i then vd_df w v n (i + 1) else 1
theorem vd_df_0 (w v : Int → Int) : ∀ (n : Nat) (i : Int), vd_df w v n i = 0 ↔ ∀ j, i ≤ j → j < i + n → w j = v j := by
  intro n
  induction n with
  | zero => intro i; simp only [vd_df]; exact ⟨fun _ j a b => by omega, fun _ => trivial⟩
  | succ n ih =>
    intro i
    simp only [vd_df]
    by_cases c : w i = v i
    · rw [if_pos c, ih (i + 1)]
      constructor
      · intro h j a b
        by_cases e : j = i
        · rw [e, c]
        · exact h j (by omega) (by omega)
      · intro h j a b
        exact h j (by omega) (by omega)
    · rw [if_neg c]
      constructor
      · intro h
        exact absurd h (by decide)
      · intro h
        exact absurd (h i (by omega) (by omega)) c
theorem vd_df_v (w v : Int → Int) : ∀ (n : Nat) (i : Int), vd_df w v n i = 0 ∨ vd_df w v n i = 1 := by
  intro n
  induction n with
  | zero => intro i; exact Or.inl rfl
  | succ n ih =>
    intro i
    simp only [vd_df]
    split
    · exact ih _
    · exact Or.inr rfl
theorem vd_lnw_o {L E t n m : Int} {v : Int → Int} (hm : (n < 16 ∧ 4 ≤ m) ∨ 8 ≤ m) {i : Int} (hi : i < -m ∨ m ≤ i) : vd_lnw L E t n v i = v i := by
  unfold vd_lnw
  split
  · rfl
  · split
    · unfold vd_nwr vd_nC
      split
      · rw [vd_ui_ne (by omega), vd_ui_ne (by omega), vd_ui_ne (by omega), vd_ui_ne (by omega)]
      · rw [vd_ui_ne (by omega), vd_ui_ne (by omega)]
    · split
      · exact if_neg (by omega)
      · exact if_neg (by omega)
section VDL8
variable {N : vd_M} {q pl : Nat} {pw vt x y m L E t : Int} {v : Int → Int}
theorem vd_L267a (hN : vd_SR N) (hq : vd_PD N q) (hnow : vd_r N 63 23 = some q) (hpl : pl < 3) (p0 : 1 ≤ pw ∧ pw ≤ 192) (m0 : 1 ≤ m ∧ m ≤ 8) (x1 x2 x3 x4 x5 x6 x7 x8 : Int32) (a11 : Value) : ∀ (n : Nat) (i : Int) (g : Nat → Nat → Int32), i + n = m → -m ≤ i → vd_LR q pl pw vt x y m v g → (∀ j : Int, -m ≤ j → j < i → g 128 (8 + j).toNat = vd_I (v j)) → ∃ g' : Nat → Nat → Int32, (∀ d Q, vd_wp (d + 3) 267 40 [.ref 63, .int x1, .int x2, .int x3, .int x4, .int x5, .int x6, .int x7, .int x8, .int (vd_I m), .int (vd_I i), a11] [] (vd_mf N g) Q = vd_wp (d + 3) 267 69 [.ref 63, .int x1, .int x2, .int x3, .int x4, .int x5, .int x6, .int x7, .int x8, .int (vd_I m), .int (vd_I m), a11] [] (vd_mf N g') Q) ∧ vd_LR q pl pw vt x y m v g' ∧ vd_L8 m v g' ∧ (∀ c k, c ≠ 128 → g' c k = g c k) := by
  have hqb := hq.2.2.2
  intro n
  induction n with
  | zero =>
    intro i g hi i0 lr hA
    have e : i = m := by omega
    subst e
    refine ⟨g, fun d Q => ?_, lr, hA, fun _ _ _ => rfl⟩
    rw [vd_S267_40 hN]
    simp (disch := omega) only [vd_I_toInt, Int.lt_irrefl, if_false]
  | succ n ih =>
    intro i g hi i0 lr hA
    have c : i < m := by omega
    have P := vd_P268 hN hq hnow hpl p0 lr i0 c
    obtain ⟨z1, ⟨z2, z3, z4, z5⟩, z6, z7⟩ := id lr
    obtain ⟨g2, p1, p2, p3, p4⟩ := ih (i + 1) (vd_up g 128 (8 + i).toNat (vd_I (v i))) (by omega) (by omega) ⟨z1, ⟨by rw [vd_up_ne (by omega)]; exact z2, by rw [vd_up_ne (by omega)]; exact z3, by rw [vd_up_ne (by omega)]; exact z4, by rw [vd_up_ne (by omega)]; exact z5⟩, by rw [vd_up_ne (by omega)]; exact z6, fun j j0 j1 => by
      have := z7 j j0 j1
      refine ⟨this.1, this.2.1, ?_⟩
      rw [vd_up_ne (by omega)]
      exact this.2.2⟩ (fun j j0 j1 => by
      by_cases e : j = i
      · rw [e, vd_up_eq]
      · rw [vd_up_ne (by omega)]; exact hA j j0 (by omega))
    refine ⟨g2, fun d Q => ?_, p2, p3, fun c k h => by rw [p4 c k h, vd_up_ne (by omega)]⟩
    rw [← p1 d Q, vd_S267_40 hN]
    simp (disch := omega) only [vd_I_toInt, c, if_true, vd_S267_47 hN, vd_I_add, vd_S267_59 hN, P, vd_S267_62 hN, vd_rs_v, vd_rs_n]
theorem vd_L267b (hN : vd_SR N) {g : Nat → Nat → Int32} (hv : vd_vb v) (m0 : 4 ≤ m ∧ m ≤ 8) (h8 : vd_L8 m v g) (hL : -1000 ≤ L ∧ L ≤ 1000) (x1 x2 x3 x4 x5 x7 x8 : Int32) (a11 : Value) (d : Nat) (Q : vd_M → (Option Value ⊕ Nat) → Prop) : ∀ (n : Nat) (k : Int), k + n = 3 → 0 ≤ k → vd_wp (d + 1) 267 72 [.ref 63, .int x1, .int x2, .int x3, .int x4, .int x5, .int (vd_I L), .int x7, .int x8, .int (vd_I m), .int (vd_I k), a11] [] (vd_mf N g) Q = if vd_ok3 L v n k = 0 then Q (vd_mf N g) (.inl none) else vd_wp (d + 1) 267 131 [.ref 63, .int x1, .int x2, .int x3, .int x4, .int x5, .int (vd_I L), .int x7, .int x8, .int (vd_I m), .int (vd_I 3), a11] [] (vd_mf N g) Q := by
  have A := fun (z : Int) (h : -100000 ≤ z ∧ z ≤ 100000) => vd_abP (M := N) (f := g) h
  have P := fun (k : Int) (k0 : 0 ≤ k) (k1 : k < m) => vd_P269 hN h8 k0 k1 m0.2
  have P' := fun (k : Int) (k0 : 0 ≤ k) (k1 : k < m) => vd_P270 hN h8 k0 k1 m0.2
  intro n
  induction n with
  | zero =>
    intro k hk k0
    have e : k = 3 := by omega
    subst e
    rw [vd_S267_72 hN]
    simp (disch := omega) only [vd_I_toInt, Int.lt_irrefl, if_false, vd_ok3, show ¬ ((1 : Int) = 0) by decide]
  | succ n ih =>
    intro k hk k0
    have c : k < 3 := by omega
    have h1 := hv (-1 - k)
    have h2 := hv (-2 - k)
    have h3 := hv k
    have h4 := hv (k + 1)
    have e2 : -1 - (k + 1) = -2 - k := by omega
    have q1 := vd_av_b (z := v (-1 - k) - v (-2 - k)) (c := 255) (by omega) (by omega)
    have q2 := vd_av_b (z := v k - v (k + 1)) (c := 255) (by omega) (by omega)
    have first : vd_wp (d + 1) 267 72 [.ref 63, .int x1, .int x2, .int x3, .int x4, .int x5, .int (vd_I L), .int x7, .int x8, .int (vd_I m), .int (vd_I k), a11] [] (vd_mf N g) Q = vd_wp (d + 1) 267 96 [.ref 63, .int x1, .int x2, .int x3, .int x4, .int x5, .int (vd_I L), .int x7, .int x8, .int (vd_I m), .int (vd_I k), a11] [.int (vd_I (vd_av (v (-1 - k) - v (-2 - k))))] (vd_mf N g) Q := by
      rw [vd_S267_72 hN]
      simp (disch := omega) only [vd_I_toInt, c, if_true, vd_S267_78 hN, vd_S267_81 hN, P, vd_S267_84 hN, vd_I_add, vd_S267_89 hN, e2, vd_S267_92 hN, vd_I_sub, vd_S267_93 hN, A, vd_rs_v, vd_rs_n]
    have second : vd_wp (d + 1) 267 101 [.ref 63, .int x1, .int x2, .int x3, .int x4, .int x5, .int (vd_I L), .int x7, .int x8, .int (vd_I m), .int (vd_I k), a11] [] (vd_mf N g) Q = vd_wp (d + 1) 267 119 [.ref 63, .int x1, .int x2, .int x3, .int x4, .int x5, .int (vd_I L), .int x7, .int x8, .int (vd_I m), .int (vd_I k), a11] [.int (vd_I (vd_av (v k - v (k + 1))))] (vd_mf N g) Q := by
      simp (disch := omega) only [vd_S267_101 hN, vd_S267_104 hN, P', vd_S267_107 hN, vd_I_add, vd_S267_112 hN, vd_S267_115 hN, vd_I_sub, vd_S267_116 hN, A, vd_rs_v, vd_rs_n]
    rw [first, vd_S267_96 hN, vd_I_toInt (by omega) (by omega), vd_I_toInt (by omega) (by omega)]
    by_cases c1 : L < vd_av (v (-1 - k) - v (-2 - k))
    · have eo : vd_ok3 L v (n + 1) k = 0 := by simp only [vd_ok3]; exact if_pos (Or.inl c1)
      rw [if_pos c1, if_pos eo, vd_S267_124 hN]
    · rw [if_neg c1, second, vd_S267_119 hN, vd_I_toInt (by omega) (by omega), vd_I_toInt (by omega) (by omega)]
      by_cases c2 : L < vd_av (v k - v (k + 1))
      · have eo : vd_ok3 L v (n + 1) k = 0 := by simp only [vd_ok3]; exact if_pos (Or.inr c2)
        rw [if_pos c2, if_pos eo, vd_S267_124 hN]
      · have eo : vd_ok3 L v (n + 1) k = vd_ok3 L v n (k + 1) := by simp only [vd_ok3]; exact if_neg (by omega)
        rw [if_neg c2, eo, vd_S267_125 hN, vd_I_add]
        exact ih (k + 1) (by omega) (by omega)
theorem vd_L267c (hN : vd_SR N) (hq : vd_PD N q) (hnow : vd_r N 63 23 = some q) (hpl : pl < 3) (p0 : 1 ≤ pw ∧ pw ≤ 192) {w : Int → Int} {g : Nat → Nat → Int32} (m0 : 1 ≤ m ∧ m ≤ 8) (hv : vd_vb v) (hw : vd_vb w) (lr : vd_LR q pl pw vt x y m w g) (h8 : vd_L8 m v g) (x1 x2 x3 x4 x5 x6 x7 x8 x10 : Int32) (d : Nat) (Q : vd_M → (Option Value ⊕ Nat) → Prop) : ∀ (n : Nat) (i : Int), i + n = m → -m ≤ i → vd_wp (d + 3) 267 245 [.ref 63, .int x1, .int x2, .int x3, .int x4, .int x5, .int x6, .int x7, .int x8, .int (vd_I m), .int x10, .int (vd_I i)] [] (vd_mf N g) Q = if vd_df w v n i = 0 then Q (vd_mf N g) (.inl none) else Q (vd_mf N (vd_up g 63 129 (g 63 129 + vd_I 1))) (.inl none) := by
  intro n
  induction n with
  | zero =>
    intro i hi i0
    have e : i = m := by omega
    subst e
    rw [vd_S267_245 hN]
    simp (disch := omega) only [vd_I_toInt, Int.lt_irrefl, if_false, vd_S267_291 hN, vd_df, if_true]
  | succ n ih =>
    intro i hi i0
    have c : i < m := by omega
    have P := vd_P268 hN hq hnow hpl p0 lr i0 c
    have vi := h8 i i0 c
    have b1 := hw i
    have b2 := hv i
    rw [vd_S267_245 hN]
    by_cases e : w i = v i
    · have ed : vd_df w v (n + 1) i = vd_df w v n (i + 1) := by simp only [vd_df]; exact if_pos e
      rw [ed, ← ih (i + 1) (by omega) (by omega)]
      simp (disch := omega) only [vd_I_toInt, c, if_true, vd_S267_252 hN, vd_S267_255 hN, P, vd_S267_258 hN, vd_I_add, vd_S267_267 hN, vi, e, vd_S267_271 hN, vd_S267_285 hN, vd_rs_v, vd_rs_n]
    · have ed : vd_df w v (n + 1) i = 1 := by simp only [vd_df]; exact if_neg e
      rw [ed]
      simp (disch := omega) only [vd_I_toInt, c, if_true, vd_S267_252 hN, vd_S267_255 hN, P, vd_S267_258 hN, vd_I_add, vd_S267_267 hN, vi, e, if_false, vd_S267_274 hN, show ¬ ((1 : Int) = 0) by decide, vd_rs_v, vd_rs_n]
end VDL8
