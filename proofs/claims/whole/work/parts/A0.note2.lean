/-! ===== note, its loops ===== -/
theorem vd_ixi {W i j i' j' : Nat} (hi : i < W) (hi' : i' < W) (e : W * j + i = W * j' + i') : i = i' ∧ j = j' := by
  rcases Nat.lt_trichotomy j j' with c | c | c
  · have := Nat.mul_le_mul_left W (show j + 1 ≤ j' by omega)
    rw [Nat.mul_succ] at this
    omega
  · subst c
    exact ⟨by omega, rfl⟩
  · have := Nat.mul_le_mul_left W (show j' + 1 ≤ j by omega)
    rw [Nat.mul_succ] at this
    omega
theorem vd_nk_ne {c q W i j i' j' : Nat} (hi : i < W) (hi' : i' < W) (hne : ¬ (i = i' ∧ j = j')) (h : vd_nk c q (W * j + i)) : ¬ vd_nk c q (W * j' + i') := by
  intro h'
  apply hne
  apply vd_ixi hi hi'
  unfold vd_nk at h h'
  omega
section VDNU
variable {N : vd_M} {b : Nat → Int} {W H x y w h x1 y1 : Nat}
/-- what a block's box is -/
def vd_bb (b : Nat → Int) (x y w h : Nat) : Prop := (b 0 = (x : Int) ∧ b 1 = (y : Int) ∧ b 2 = (w : Int) ∧ b 3 = (h : Int)) ∧ (x < 24 ∧ y < 24 ∧ w ≤ 8 ∧ h ≤ 8) ∧ (b 5 = 0 ∨ b 5 = 1) ∧ (b 17 = 0 ∨ b 17 = 1)
theorem vd_note3 (hN : vd_SR N) {g : Nat → Nat → Int32} (k : vd_nb b g) (hb : vd_bb b x y w h) (hW : g 63 26 = vd_I (W : Int)) (w1 : W ≤ 24) {i j : Nat} (hj : j < 24) (hi : i < W) (hix : i < x + w) : ∃ g', (∀ a3 a4 d Q, vd_wp d 221 34 [.ref 63, .int (vd_I (j : Int)), .int (vd_I (i : Int)), a3, a4] [] (vd_mf N g) Q = vd_wp d 221 34 [.ref 63, .int (vd_I (j : Int)), .int (vd_I ((i + 1 : Nat) : Int)), .int (vd_I ((W * j + i : Nat) : Int)), .int (vd_I 2)] [] (vd_mf N g') Q) ∧ vd_nd b g' (W * j + i) ∧ (∀ c q, ¬ vd_nk c q (W * j + i) → g' c q = g c q) := by
  obtain ⟨⟨p0, p1, p2, p3⟩, ⟨p4, p5, p6, p7⟩, p8, p9⟩ := hb
  have hu : W * j + i < 576 := by
    have := vd_ix hi hj
    have := Nat.mul_le_mul_right 24 w1
    omega
  obtain ⟨g1, e1, ⟨s1, s2, s3, s4, s5, s6, s7, s8, s9, s10, s11, s12, s13, s14⟩, K1⟩ := vd_note1 hN k p8 p9 p0 p2 (by omega) p4 p6 hW w1 hj hi hix (vd_ixN W i j) hu
  obtain ⟨g2, e2, ⟨⟨t1, t2⟩, t3, t4, t5, t6⟩, K2⟩ := vd_note2 hN (k.keep (g' := g1) fun c i q => K1 c i (by omega)) hu (vd_I (j : Int)) (vd_I (i : Int))
  refine ⟨g2, fun a3 a4 d Q => ?_, ?_, fun c q hq => ?_⟩
  · rw [e1, e2, vd_S221_279 hN, vd_I_add, show (i : Int) + 1 = ((i + 1 : Nat) : Int) by omega]
  · refine ⟨?_, ⟨?_, ?_, ?_, ?_, ?_, ?_⟩, ⟨?_, ?_, ?_, ?_⟩, ⟨t1, t2, ?_⟩, ⟨t3, t4, t5, t6⟩, ?_, ?_⟩ <;> rw [K2 _ _ (by omega)] <;> assumption
  · unfold vd_nk at hq
    rw [K2 c q (by omega), K1 c q (by omega)]
theorem vd_noteR (hN : vd_SR N) (hb : vd_bb b x y w h) (w1 : W ≤ 24) (hx1 : x1 = min W (x + w)) {j : Nat} (hj : j < 24) : ∀ (m i : Nat) (g : Nat → Nat → Int32) (a3 a4 : Value), i + m = x1 → vd_nb b g → g 63 26 = vd_I (W : Int) → ∃ (g' : Nat → Nat → Int32) (b3 b4 : Value), (∀ d Q, vd_wp d 221 34 [.ref 63, .int (vd_I (j : Int)), .int (vd_I (i : Int)), a3, a4] [] (vd_mf N g) Q = vd_wp d 221 285 [.ref 63, .int (vd_I (j : Int)), .int (vd_I (x1 : Int)), b3, b4] [] (vd_mf N g') Q) ∧ (∀ i', i ≤ i' → i' < x1 → vd_nd b g' (W * j + i')) ∧ (∀ c q, (∀ i', i ≤ i' → i' < x1 → ¬ vd_nk c q (W * j + i')) → g' c q = g c q) := by
  intro m
  induction m with
  | zero =>
    intro i g a3 a4 hi k hW
    have ei : i = x1 := by omega
    subst ei
    obtain ⟨⟨p0, p1, p2, p3⟩, ⟨p4, p5, p6, p7⟩, p8, p9⟩ := hb
    refine ⟨g, a3, a4, fun d Q => ?_, fun i' a b => by omega, fun _ _ _ => rfl⟩
    have q1 := k.1.1
    have q2 := k.1.2.2.1
    have ew : (8 * b 2) / 8 = b 2 := by omega
    by_cases c : (i : Int) < b 0 + b 2
    · have c2 : ¬ ((i : Int) < (W : Int)) := by omega
      simp (disch := omega) only [vd_S221_34 hN, vd_S221_50 hN, q1, q2, hW, vd_I_div, ew, vd_I_add, vd_I_toInt, c, c2, if_true, if_false]
    · simp (disch := omega) only [vd_S221_34 hN, q1, q2, vd_I_div, ew, vd_I_add, vd_I_toInt, c, if_false]
  | succ m ih =>
    intro i g a3 a4 hi k hW
    obtain ⟨g1, e1, n1, K1⟩ := vd_note3 hN k hb hW w1 hj (i := i) (by omega) (by omega)
    obtain ⟨g2, b3, b4, e2, n2, K2⟩ := ih (i + 1) g1 (.int (vd_I ((W * j + i : Nat) : Int))) (.int (vd_I 2)) (by omega) (k.keep fun c q hq => K1 c q (by unfold vd_nk; omega)) (by rw [K1 _ _ (by unfold vd_nk; omega)]; exact hW)
    refine ⟨g2, b3, b4, fun d Q => (e1 a3 a4 d Q).trans (e2 d Q), fun i' a b => ?_, fun c q hq => ?_⟩
    · by_cases c : i' = i
      · subst c
        refine n1.keep fun c q hk => K2 c q fun i2 a2 b2 => vd_nk_ne (i := i') (j := j) (by omega) (by omega) (by omega) hk
      · exact n2 i' (by omega) b
    · rw [K2 c q (fun i' a b => hq i' (by omega) b), K1 c q (hq i (Nat.le_refl _) (by omega))]
theorem vd_noteC (hN : vd_SR N) (hb : vd_bb b x y w h) (w1 : W ≤ 24) (w2 : H ≤ 24) (hx1 : x1 = min W (x + w)) (hy1 : y1 = min H (y + h)) (hxx : x ≤ x1) : ∀ (m j : Nat) (g : Nat → Nat → Int32) (a2 a3 a4 : Value), j + m = y1 → vd_nb b g → g 63 26 = vd_I (W : Int) → g 63 27 = vd_I (H : Int) → ∃ (g' : Nat → Nat → Int32), (∀ d Q, vd_wp d 221 5 [.ref 63, .int (vd_I (j : Int)), a2, a3, a4] [] (vd_mf N g) Q = Q (vd_mf N g') (.inl none)) ∧ (∀ i' j', x ≤ i' → i' < x1 → j ≤ j' → j' < y1 → vd_nd b g' (W * j' + i')) ∧ (∀ c q, (∀ i' j', x ≤ i' → i' < x1 → j ≤ j' → j' < y1 → ¬ vd_nk c q (W * j' + i')) → g' c q = g c q) := by
  intro m
  induction m with
  | zero =>
    intro j g a2 a3 a4 hj k hW hH
    have ej : j = y1 := by omega
    subst ej
    obtain ⟨⟨p0, p1, p2, p3⟩, ⟨p4, p5, p6, p7⟩, p8, p9⟩ := hb
    refine ⟨g, fun d Q => ?_, fun i' j' a b c d => by omega, fun _ _ _ => rfl⟩
    have q1 := k.1.2.1
    have q2 := k.1.2.2.2.1
    have eh : (8 * b 3) / 8 = b 3 := by omega
    by_cases c : (j : Int) < b 1 + b 3
    · have c2 : ¬ ((j : Int) < (H : Int)) := by omega
      simp (disch := omega) only [vd_S221_5 hN, vd_S221_21 hN, vd_S221_291 hN, q1, q2, hH, vd_I_div, eh, vd_I_add, vd_I_toInt, c, c2, if_true, if_false]
    · simp (disch := omega) only [vd_S221_5 hN, vd_S221_291 hN, q1, q2, vd_I_div, eh, vd_I_add, vd_I_toInt, c, if_false]
  | succ m ih =>
    intro j g a2 a3 a4 hj k hW hH
    have hb' := hb
    obtain ⟨⟨p0, p1, p2, p3⟩, ⟨p4, p5, p6, p7⟩, p8, p9⟩ := hb'
    have q0 := k.1.1
    have q1 := k.1.2.1
    have q2 := k.1.2.2.2.1
    have eh : (8 * b 3) / 8 = b 3 := by omega
    have c : (j : Int) < b 1 + b 3 := by omega
    have c2 : (j : Int) < (H : Int) := by omega
    obtain ⟨g1, b3, b4, e1, n1, K1⟩ := vd_noteR (x1 := x1) hN hb w1 hx1 (j := j) (by omega) (x1 - x) x g a3 a4 (by omega) k hW
    have ke : ∀ c i, c = 63 ∨ 105 ≤ c → g1 c i = g c i := fun c i q => K1 c i fun i' _ _ => by unfold vd_nk; omega
    obtain ⟨g2, e2, n2, K2⟩ := ih (j + 1) g1 (.int (vd_I (x1 : Int))) b3 b4 (by omega) (k.keep ke) (by rw [ke _ _ (Or.inl rfl)]; exact hW) (by rw [ke _ _ (Or.inl rfl)]; exact hH)
    refine ⟨g2, fun d Q => ?_, fun i' j' a b a' b' => ?_, fun c q hq => ?_⟩
    · rw [vd_S221_5 hN]
      simp (disch := omega) only [vd_S221_21 hN, vd_S221_29 hN, q0, q1, q2, hH, vd_I_div, eh, vd_I_add, vd_I_toInt, c, c2, if_true, p0, e1, vd_S221_285 hN, show (j : Int) + 1 = ((j + 1 : Nat) : Int) by omega, e2]
    · by_cases c : j' = j
      · subst c
        exact (n1 i' a b).keep fun c q hk => K2 c q fun i2 j2 _ _ _ _ => vd_nk_ne (i := i') (j := j') (by omega) (by omega) (by omega) hk
      · exact n2 i' j' a b (by omega) b'
    · rw [K2 c q (fun i' j' a b a' b' => hq i' j' a b (by omega) b'), K1 c q (fun i' a b => hq i' j a b (Nat.le_refl _) (by omega))]
theorem vd_P221 (hN : vd_SR N) {g : Nat → Nat → Int32} (k : vd_nb b g) (hb : vd_bb b x y w h) (hW : g 63 26 = vd_I (W : Int)) (hH : g 63 27 = vd_I (H : Int)) (w1 : W ≤ 24) (w2 : H ≤ 24) (hx : x ≤ W) (hy : y ≤ H) : ∃ (g' : Nat → Nat → Int32), (∀ d Q, vd_wp d 221 0 [.ref 63, vd_U, vd_U, vd_U, vd_U] [] (vd_mf N g) Q = Q (vd_mf N g') (.inl none)) ∧ (∀ i' j', x ≤ i' → i' < min W (x + w) → y ≤ j' → j' < min H (y + h) → vd_nd b g' (W * j' + i')) ∧ (∀ c q, (∀ i' j', x ≤ i' → i' < min W (x + w) → y ≤ j' → j' < min H (y + h) → ¬ vd_nk c q (W * j' + i')) → g' c q = g c q) := by
  obtain ⟨g', e, n, K⟩ := vd_noteC (x1 := min W (x + w)) (y1 := min H (y + h)) hN hb w1 w2 rfl rfl (by omega) (min H (y + h) - y) y g vd_U vd_U vd_U (by omega) k hW hH
  refine ⟨g', fun d Q => ?_, n, K⟩
  rw [vd_S221_0 hN, k.1.2.1, hb.1.2.1]
  exact e d Q
end VDNU
