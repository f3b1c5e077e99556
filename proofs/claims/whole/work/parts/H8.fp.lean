/-! ===== the class's free picture ===== -/
theorem vd_pigeon : ∀ (n : Nat) (h : Nat → Nat), (∀ i, i < n + 1 → h i < n) → ∃ i j, i < j ∧ j < n + 1 ∧ h i = h j := by
  intro n
  induction n with
  | zero =>
    intro h hh
    exact absurd (hh 0 (by omega)) (by omega)
  | succ n ih =>
    intro h hh
    by_cases c : ∃ i, i < n + 1 ∧ h i = h (n + 1)
    · obtain ⟨i, a, b⟩ := c
      exact ⟨i, n + 1, a, by omega, b⟩
    · -- put the last one's place into the hole
      obtain ⟨i, j, a, b, e⟩ := ih (fun i => if h i = n then h (n + 1) else h i) (fun i hi => by
        have h1 := hh i (by omega)
        have h2 := hh (n + 1) (by omega)
        have h3 : h i ≠ h (n + 1) := fun q => c ⟨i, hi, q⟩
        show (if h i = n then h (n + 1) else h i) < n
        split <;> omega)
      have e : (if h i = n then h (n + 1) else h i) = (if h j = n then h (n + 1) else h j) := e
      have ni : h i ≠ h (n + 1) := fun q => c ⟨i, by omega, q⟩
      have nj : h j ≠ h (n + 1) := fun q => c ⟨j, b, q⟩
      refine ⟨i, j, a, by omega, ?_⟩
      by_cases x : h i = n
      · by_cases y : h j = n
        · omega
        · rw [if_pos x, if_neg y] at e
          exact absurd e.symm nj
      · by_cases y : h j = n
        · rw [if_neg x, if_pos y] at e
          exact absurd e ni
        · rw [if_neg x, if_neg y] at e
          exact e
theorem vd_SC.keep {M M' : vd_M} {ow fa lo lf : Nat} (h : vd_SC M ow fa lo lf) (hk : ∀ c, c < 63 → vd_k M' c = vd_k M c) (hl : ∀ c, c < 63 → vd_l M' c = vd_l M c) (hr : ∀ c i, c < 63 → c ≠ 12 → c ≠ 13 → ¬ (c = 10 ∧ i = 9) → ¬ (c = 44 ∧ i = 7) → c ≠ 55 → ¬ (c = 60 ∧ i = 5) → vd_r M' c i = vd_r M c i) : vd_SC M' ow fa lo lf := by
  have hp := h.par
  have o1 : ow < 63 := by omega
  have o2 : fa < 63 := by omega
  have o3 : lo < 63 := by omega
  have o4 : lf < 63 := by omega
  unfold vd_SC at *
  simp (disch := first | assumption | decide) only [hk, hl, hr]
  exact h
section VDFP
variable {M : vd_M} {ow fa lo lf : Nat}
/-- who holds pictures: eight slots, the one shown last -/
def vd_hol (M : vd_M) (h : Nat) : Option Nat := if h < 8 then vd_r M 13 h else vd_r M 10 9
theorem vd_okr_vr {o : Option Nat} (h : ∀ k, o = some k → 10 ≤ k) : vd_okr (vd_vr o) = true := by
  cases o with
  | none => rfl
  | some k => exact decide_eq_true (h k rfl)
theorem vd_od_vr (o : Option Nat) : vd_od (vd_vr o) = o := by cases o <;> rfl
theorem vd_L62 (hM : vd_SC M ow fa lo lf) {p : Nat} (hp : 10 ≤ p) (hs : ∀ r k, r < 8 → vd_r M 13 r = some k → 10 ≤ k) (f : Nat → Nat → Int32) : ∀ (m r : Nat) (b : Int), r + m = 8 → (b = 0 ∨ b = 1) → ∃ b' : Int, (b' = 0 ∨ b' = 1) ∧ (b' = 1 ↔ b = 1 ∨ ∃ j, r ≤ j ∧ j < 8 ∧ vd_r M 13 j = some p) ∧ ∀ d Q, vd_wp d 62 16 [.ref 10, .ref p, .int (vd_I b), .int (vd_I (r : Int))] [] (vd_mf M f) Q = Q (vd_mf M f) (.inl (some (.int (vd_I b')))) := by
  intro m
  induction m with
  | zero =>
    intro r b hr hb
    have hok : vd_rok (some .boolean) (vd_I b) = true := by rcases hb with rfl | rfl <;> decide
    refine ⟨b, hb, ⟨fun q => Or.inl q, fun q => ?_⟩, fun d Q => ?_⟩
    · rcases q with q | ⟨j, a, b, _⟩
      · exact q
      · omega
    · simp (disch := first | assumption | omega) only [vd_S62_16 hM, vd_S62_48 hM, vd_I_toInt, show ¬ ((r : Int) < 8) by omega, if_false]
  | succ m ih =>
    intro r b hr hb
    have er : (r : Int) + 1 = ((r + 1 : Nat) : Int) := by omega
    have step : ∃ b1 : Int, (b1 = 0 ∨ b1 = 1) ∧ (b1 = 1 ↔ b = 1 ∨ vd_r M 13 r = some p) ∧ ∀ d Q, vd_wp d 62 16 [.ref 10, .ref p, .int (vd_I b), .int (vd_I (r : Int))] [] (vd_mf M f) Q = vd_wp d 62 16 [.ref 10, .ref p, .int (vd_I b1), .int (vd_I ((r + 1 : Nat) : Int))] [] (vd_mf M f) Q := by
      rcases hb with rfl | rfl
      · have k1 : vd_okr (vd_vr (vd_r M 13 r)) = true := vd_okr_vr (fun k hk => hs r k (by omega) hk)
        have k2 : vd_okr (.ref p) = true := decide_eq_true hp
        have e1 : vd_od (.ref p) = some p := rfl
        by_cases c : vd_r M 13 r = some p
        · refine ⟨1, Or.inr rfl, ⟨fun _ => Or.inr c, fun _ => rfl⟩, fun d Q => ?_⟩
          conv => lhs; rw [vd_S62_16 hM]
          simp (disch := first | assumption | omega) only [vd_S62_22 hM, vd_S62_26 hM, vd_S62_31 hM, Int.toNat_natCast, vd_S62_33 hM, vd_od_vr, e1, if_pos c, eq_self, if_true, vd_S62_36 hM, vd_S62_41 hM, vd_I_toInt, show ((r : Int) < 8) by omega, vd_I_add, er]
        · refine ⟨0, Or.inl rfl, ⟨fun q => absurd q (by decide), fun q => ?_⟩, fun d Q => ?_⟩
          · rcases q with q | q
            · exact absurd q (by decide)
            · exact absurd q c
          · conv => lhs; rw [vd_S62_16 hM]
            simp (disch := first | assumption | omega) only [vd_S62_22 hM, vd_S62_26 hM, vd_S62_31 hM, Int.toNat_natCast, vd_S62_33 hM, vd_od_vr, e1, c, if_false, eq_self, if_true, vd_S62_40 hM, vd_S62_41 hM, vd_I_toInt, show ((r : Int) < 8) by omega, vd_I_add, er]
      · refine ⟨1, Or.inr rfl, ⟨fun _ => Or.inl rfl, fun _ => rfl⟩, fun d Q => ?_⟩
        conv => lhs; rw [vd_S62_16 hM]
        simp (disch := omega) only [vd_S62_22 hM, vd_S62_36 hM, vd_S62_41 hM, vd_I_toInt, show ((r : Int) < 8) by omega, if_true, show ¬ ((1 : Int) = 0) by decide, if_false, vd_I_add, er]
    obtain ⟨b1, b01, bw, e⟩ := step
    obtain ⟨b2, c01, cw, e2⟩ := ih (r + 1) b1 (by omega) b01
    refine ⟨b2, c01, ?_, fun d Q => by rw [e, e2]⟩
    rw [cw, bw]
    constructor
    · rintro ((q | q) | ⟨j, a, b, x⟩)
      · exact Or.inl q
      · exact Or.inr ⟨r, Nat.le_refl r, by omega, q⟩
      · exact Or.inr ⟨j, by omega, b, x⟩
    · rintro (q | ⟨j, a, b, x⟩)
      · exact Or.inl (Or.inl q)
      · by_cases h : j = r
        · exact Or.inl (Or.inr (h ▸ x))
        · exact Or.inr ⟨j, by omega, b, x⟩
/-- isHeld -/
theorem vd_P62 (hM : vd_SC M ow fa lo lf) {p : Nat} (hp : 10 ≤ p) (hs : ∀ h k, h < 9 → vd_hol M h = some k → 10 ≤ k) (f : Nat → Nat → Int32) : ∃ b : Int, (b = 0 ∨ b = 1) ∧ (b = 1 ↔ ∃ h, h < 9 ∧ vd_hol M h = some p) ∧ ∀ d Q, vd_wp d 62 0 [.ref 10, .ref p, vd_U, vd_U] [] (vd_mf M f) Q = Q (vd_mf M f) (.inl (some (.int (vd_I b)))) := by
  have hs' : ∀ r k, r < 8 → vd_r M 13 r = some k → 10 ≤ k := fun r k hr hk => hs r k (by omega) (by unfold vd_hol; rw [if_pos hr]; exact hk)
  have h9 : ∀ k, vd_r M 10 9 = some k → 10 ≤ k := fun k hk => hs 8 k (by omega) (by unfold vd_hol; rw [if_neg (by omega)]; exact hk)
  have k1 : vd_okr (vd_vr (vd_r M 10 9)) = true := vd_okr_vr h9
  have k2 : vd_okr (.ref p) = true := decide_eq_true hp
  have e1 : vd_od (.ref p) = some p := rfl
  obtain ⟨b0, b01, bw, e0⟩ : ∃ b0 : Int, (b0 = 0 ∨ b0 = 1) ∧ (b0 = 1 ↔ vd_r M 10 9 = some p) ∧ ∀ d Q, vd_wp d 62 0 [.ref 10, .ref p, vd_U, vd_U] [] (vd_mf M f) Q = vd_wp d 62 16 [.ref 10, .ref p, .int (vd_I b0), .int (vd_I ((0 : Nat) : Int))] [] (vd_mf M f) Q := by
    by_cases c : vd_r M 10 9 = some p
    · refine ⟨1, Or.inr rfl, ⟨fun _ => c, fun _ => rfl⟩, fun d Q => ?_⟩
      simp (disch := first | assumption | omega) only [vd_S62_0 hM, vd_S62_5 hM, vd_od_vr, e1, if_pos c.symm, vd_S62_8 hM, vd_S62_13 hM]
      rfl
    · have c' : ¬ (some p = vd_r M 10 9) := fun q => c q.symm
      refine ⟨0, Or.inl rfl, ⟨fun q => absurd q (by decide), fun q => absurd q c⟩, fun d Q => ?_⟩
      simp (disch := first | assumption | omega) only [vd_S62_0 hM, vd_S62_5 hM, vd_od_vr, e1, c', if_false, vd_S62_12 hM, vd_S62_13 hM]
      rfl
  obtain ⟨b, c01, cw, e⟩ := vd_L62 hM hp hs' f 8 0 b0 rfl b01
  refine ⟨b, c01, ?_, fun d Q => by rw [e0, e]⟩
  rw [cw, bw]
  constructor
  · rintro (q | ⟨j, _, b, x⟩)
    · exact ⟨8, by omega, by unfold vd_hol; rw [if_neg (by omega)]; exact q⟩
    · exact ⟨j, by omega, by unfold vd_hol; rw [if_pos b]; exact x⟩
  · rintro ⟨h, a, x⟩
    unfold vd_hol at x
    by_cases c : h < 8
    · rw [if_pos c] at x
      exact Or.inr ⟨h, by omega, c, x⟩
    · rw [if_neg c] at x
      exact Or.inl x
end VDFP
