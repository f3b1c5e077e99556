/-! ===== vectors that are found ===== -/
/-- how many, and the two -/
abbrev vd_FT : Type := Int × (Int × Int) × (Int × Int)
def vd_addv (s : vd_FT) (x y : Int) : vd_FT := if s.1 = 0 then (1, (x, y), s.2.2) else if s.1 = 1 ∧ ¬ (x = s.2.1.1 ∧ y = s.2.1.2) then (2, s.2.1, (x, y)) else s
/-- what the found may be; where fewer are found, zeros stand -/
def vd_FV (s : vd_FT) : Prop := (s.1 = 0 ∨ s.1 = 1 ∨ s.1 = 2) ∧ (-20000 ≤ s.2.1.1 ∧ s.2.1.1 ≤ 20000 ∧ -20000 ≤ s.2.1.2 ∧ s.2.1.2 ≤ 20000) ∧ (-20000 ≤ s.2.2.1 ∧ s.2.2.1 ≤ 20000 ∧ -20000 ≤ s.2.2.2 ∧ s.2.2.2 ≤ 20000) ∧ (s.1 = 0 → s.2.1 = (0, 0)) ∧ (s.1 < 2 → s.2.2 = (0, 0))
def vd_FSA (s : vd_FT) (f : Nat → Nat → Int32) : Prop := f 54 4 = vd_I s.1 ∧ f 56 0 = vd_I s.2.1.1 ∧ f 56 1 = vd_I s.2.1.2 ∧ f 56 2 = vd_I s.2.2.1 ∧ f 56 3 = vd_I s.2.2.2
def vd_FSB (s : vd_FT) (g : Nat → Nat → Int32) : Prop := g 63 116 = vd_I s.1 ∧ (1 ≤ s.1 → g 120 0 = vd_I s.2.1.1 ∧ g 121 0 = vd_I s.2.1.2) ∧ (2 ≤ s.1 → g 120 1 = vd_I s.2.2.1 ∧ g 121 1 = vd_I s.2.2.2)
theorem vd_addv_V {s : vd_FT} {x y : Int} (h : vd_FV s) (x0 : -20000 ≤ x) (x1 : x ≤ 20000) (y0 : -20000 ≤ y) (y1 : y ≤ 20000) : vd_FV (vd_addv s x y) := by
  obtain ⟨h1, h2, h3, h4, h5⟩ := h
  unfold vd_addv
  split
  · rename_i c
    exact ⟨Or.inr (Or.inl rfl), ⟨x0, x1, y0, y1⟩, h3, fun q => absurd q (by show ¬ ((1 : Int) = 0); decide), fun _ => h5 (by omega)⟩
  · split
    · rename_i c c2
      exact ⟨Or.inr (Or.inr rfl), h2, ⟨x0, x1, y0, y1⟩, fun q => absurd q (by show ¬ ((2 : Int) = 0); decide), fun q => absurd q (by show ¬ ((2 : Int) < 2); decide)⟩
    · exact ⟨h1, h2, h3, h4, h5⟩
section VDFN
variable {M N : vd_M} {ow fa lo lf : Nat} {f g : Nat → Nat → Int32} {s : vd_FT} {x y : Int}
theorem vd_P95 (hM : vd_SC M ow fa lo lf) (hs : vd_FV s) (h : vd_FSA s f) (x0 : -20000 ≤ x) (x1 : x ≤ 20000) (y0 : -20000 ≤ y) (y1 : y ≤ 20000) : ∃ f', (∀ d Q, vd_wp d 95 0 [.ref 54, .int (vd_I x), .int (vd_I y)] [] (vd_mf M f) Q = Q (vd_mf M f') (.inl none)) ∧ vd_FSA (vd_addv s x y) f' ∧ (∀ c i, ¬ (c = 54 ∧ i = 4) → c ≠ 56 → f' c i = f c i) := by
  obtain ⟨e1, e2, e3, e4, e5⟩ := h
  obtain ⟨h1, h2, h3, _⟩ := hs
  have i0 : (0 : Int).toNat = 0 := rfl
  have i1 : (1 : Int).toNat = 1 := rfl
  have i2 : (2 : Int).toNat = 2 := rfl
  have i3 : (3 : Int).toNat = 3 := rfl
  by_cases c0 : s.1 = 0
  · refine ⟨vd_up (vd_up (vd_up f 56 0 (vd_I x)) 56 1 (vd_I y)) 54 4 (vd_I 1), fun d Q => ?_, ?_, fun c i q1 q2 => by rw [vd_up_ne (by omega), vd_up_ne (by omega), vd_up_ne (by omega)]⟩
    · rw [c0] at e1
      simp (disch := omega) only [vd_S95_0 hM, vd_S95_7 hM, vd_S95_15 hM, vd_S95_25 hM, vd_S95_35 hM, vd_S95_71 hM, vd_S95_21 hM, vd_S95_31 hM, vd_S95_46 hM, vd_S95_60 hM, vd_up_at, vd_ua_at, Nat.reduceEqDiff, Nat.reduceAdd, Nat.reduceMul, and_false, false_and, and_true, true_and, and_self, if_true, if_false, reduceIte, ne_eq, not_false_eq_true, not_true_eq_false, eq_self, e1, vd_I_toInt, eq_self, if_true, vd_I_mul, vd_I_add, show (2 * 0 : Int) = 0 by decide, show (0 + 1 : Int) = 1 by decide, i0, i1]
    · unfold vd_addv
      rw [if_pos c0]
      refine ⟨?_, ?_, ?_, ?_, ?_⟩ <;> simp only [vd_up_at, vd_ua_at, Nat.reduceEqDiff, Nat.reduceAdd, Nat.reduceMul, and_false, false_and, and_true, true_and, and_self, if_true, if_false, reduceIte, ne_eq, not_false_eq_true, not_true_eq_false, eq_self, e4, e5]
  · by_cases c1 : s.1 = 1 ∧ ¬ (x = s.2.1.1 ∧ y = s.2.1.2)
    · refine ⟨vd_up (vd_up (vd_up f 56 2 (vd_I x)) 56 3 (vd_I y)) 54 4 (vd_I 2), fun d Q => ?_, ?_, fun c i q1 q2 => by rw [vd_up_ne (by omega), vd_up_ne (by omega), vd_up_ne (by omega)]⟩
      · rw [c1.1] at e1
        by_cases cx : x = s.2.1.1
        · have cy : ¬ y = s.2.1.2 := fun q => c1.2 ⟨cx, q⟩
          simp (disch := omega) only [vd_S95_0 hM, vd_S95_7 hM, vd_S95_15 hM, vd_S95_25 hM, vd_S95_35 hM, vd_S95_71 hM, vd_S95_21 hM, vd_S95_31 hM, vd_S95_46 hM, vd_S95_60 hM, vd_up_at, vd_ua_at, Nat.reduceEqDiff, Nat.reduceAdd, Nat.reduceMul, and_false, false_and, and_true, true_and, and_self, if_true, if_false, reduceIte, ne_eq, not_false_eq_true, not_true_eq_false, eq_self, e1, e2, e3, vd_I_toInt, eq_true cx, eq_false cy, show ¬ ((1 : Int) = 0) by decide, eq_self, if_true, if_false, vd_I_mul, vd_I_add, show (2 * 1 : Int) = 2 by decide, show (2 + 1 : Int) = 3 by decide, show (1 + 1 : Int) = 2 by decide, i0, i1, i2, i3]
        · simp (disch := omega) only [vd_S95_0 hM, vd_S95_7 hM, vd_S95_15 hM, vd_S95_25 hM, vd_S95_35 hM, vd_S95_71 hM, vd_S95_21 hM, vd_S95_31 hM, vd_S95_46 hM, vd_S95_60 hM, vd_up_at, vd_ua_at, Nat.reduceEqDiff, Nat.reduceAdd, Nat.reduceMul, and_false, false_and, and_true, true_and, and_self, if_true, if_false, reduceIte, ne_eq, not_false_eq_true, not_true_eq_false, eq_self, e1, e2, e3, vd_I_toInt, eq_false cx, show ¬ ((1 : Int) = 0) by decide, eq_self, if_true, if_false, vd_I_mul, vd_I_add, show (2 * 1 : Int) = 2 by decide, show (2 + 1 : Int) = 3 by decide, show (1 + 1 : Int) = 2 by decide, i0, i1, i2, i3]
      · unfold vd_addv
        rw [if_neg c0, if_pos c1]
        refine ⟨?_, ?_, ?_, ?_, ?_⟩ <;> simp only [vd_up_at, vd_ua_at, Nat.reduceEqDiff, Nat.reduceAdd, Nat.reduceMul, and_false, false_and, and_true, true_and, and_self, if_true, if_false, reduceIte, ne_eq, not_false_eq_true, not_true_eq_false, eq_self, e2, e3]
    · refine ⟨f, fun d Q => ?_, by unfold vd_addv; rw [if_neg c0, if_neg c1]; exact ⟨e1, e2, e3, e4, e5⟩, fun _ _ _ _ => rfl⟩
      by_cases c2 : s.1 = 1
      · have cxy : x = s.2.1.1 ∧ y = s.2.1.2 := by
          by_cases q : x = s.2.1.1 ∧ y = s.2.1.2
          · exact q
          · exact absurd ⟨c2, q⟩ c1
        rw [c2] at e1
        simp (disch := omega) only [vd_S95_0 hM, vd_S95_7 hM, vd_S95_15 hM, vd_S95_25 hM, vd_S95_35 hM, vd_S95_71 hM, vd_S95_21 hM, vd_S95_31 hM, vd_S95_46 hM, vd_S95_60 hM, e1, e2, e3, vd_I_toInt, eq_true cxy.1, eq_true cxy.2, show ¬ ((1 : Int) = 0) by decide, eq_self, if_true, if_false, i0, i1]
      · simp (disch := omega) only [vd_S95_0 hM, vd_S95_7 hM, vd_S95_15 hM, vd_S95_25 hM, vd_S95_35 hM, vd_S95_71 hM, vd_S95_21 hM, vd_S95_31 hM, vd_S95_46 hM, vd_S95_60 hM, e1, vd_I_toInt, c0, c2, if_false]
theorem vd_P214 (hN : vd_SR N) (hs : vd_FV s) (h : vd_FSB s g) (x0 : -20000 ≤ x) (x1 : x ≤ 20000) (y0 : -20000 ≤ y) (y1 : y ≤ 20000) : ∃ g', (∀ d Q, vd_wp d 214 0 [.ref 63, .int (vd_I x), .int (vd_I y)] [] (vd_mf N g) Q = Q (vd_mf N g') (.inl none)) ∧ vd_FSB (vd_addv s x y) g' ∧ (∀ c i, ¬ (c = 63 ∧ i = 116) → c ≠ 120 → c ≠ 121 → g' c i = g c i) := by
  obtain ⟨e1, e2, e3⟩ := h
  obtain ⟨h1, h2, h3, _⟩ := hs
  have i0 : (0 : Int).toNat = 0 := rfl
  have i1 : (1 : Int).toNat = 1 := rfl
  by_cases c0 : s.1 = 0
  · refine ⟨vd_up (vd_up (vd_up g 120 0 (vd_I x)) 63 116 (vd_I 1)) 121 0 (vd_I y), fun d Q => ?_, ?_, fun c i q1 q2 q3 => by rw [vd_up_ne (by omega), vd_up_ne (by omega), vd_up_ne (by omega)]⟩
    · rw [c0] at e1
      simp (disch := omega) only [vd_S214_0 hN, vd_S214_8 hN, vd_S214_16 hN, vd_S214_26 hN, vd_S214_36 hN, vd_S214_37 hN, vd_S214_21 hN, vd_S214_31 hN, vd_S214_46 hN, vd_S214_63 hN, vd_up_at, vd_ua_at, Nat.reduceEqDiff, Nat.reduceAdd, Nat.reduceMul, and_false, false_and, and_true, true_and, and_self, if_true, if_false, reduceIte, ne_eq, not_false_eq_true, not_true_eq_false, eq_self, e1, vd_I_toInt, show ¬ ((0 : Int) = 2) by decide, show ¬ ((0 : Int) = 1) by decide, if_true, if_false, vd_I_add, show (0 + 1 : Int) = 1 by decide, i0, i1]
    · unfold vd_addv
      rw [if_pos c0]
      refine ⟨?_, fun _ => ⟨?_, ?_⟩, fun q => absurd q (by show ¬ ((2 : Int) ≤ 1); decide)⟩ <;> simp only [vd_up_at, vd_ua_at, Nat.reduceEqDiff, Nat.reduceAdd, Nat.reduceMul, and_false, false_and, and_true, true_and, and_self, if_true, if_false, reduceIte, ne_eq, not_false_eq_true, not_true_eq_false, eq_self]
  · by_cases c1 : s.1 = 1 ∧ ¬ (x = s.2.1.1 ∧ y = s.2.1.2)
    · have e2' := e2 (by omega)
      refine ⟨vd_up (vd_up (vd_up g 120 1 (vd_I x)) 63 116 (vd_I 2)) 121 1 (vd_I y), fun d Q => ?_, ?_, fun c i q1 q2 q3 => by rw [vd_up_ne (by omega), vd_up_ne (by omega), vd_up_ne (by omega)]⟩
      · rw [c1.1] at e1
        by_cases cx : s.2.1.1 = x
        · have cy : ¬ s.2.1.2 = y := fun q => c1.2 ⟨cx.symm, q.symm⟩
          simp (disch := omega) only [vd_S214_0 hN, vd_S214_8 hN, vd_S214_16 hN, vd_S214_26 hN, vd_S214_36 hN, vd_S214_37 hN, vd_S214_21 hN, vd_S214_31 hN, vd_S214_46 hN, vd_S214_63 hN, vd_up_at, vd_ua_at, Nat.reduceEqDiff, Nat.reduceAdd, Nat.reduceMul, and_false, false_and, and_true, true_and, and_self, if_true, if_false, reduceIte, ne_eq, not_false_eq_true, not_true_eq_false, eq_self, e1, e2'.1, e2'.2, vd_I_toInt, eq_true cx, eq_false cy, show ¬ ((1 : Int) = 2) by decide, eq_self, if_true, if_false, vd_I_add, show (1 + 1 : Int) = 2 by decide, i0, i1]
        · simp (disch := omega) only [vd_S214_0 hN, vd_S214_8 hN, vd_S214_16 hN, vd_S214_26 hN, vd_S214_36 hN, vd_S214_37 hN, vd_S214_21 hN, vd_S214_31 hN, vd_S214_46 hN, vd_S214_63 hN, vd_up_at, vd_ua_at, Nat.reduceEqDiff, Nat.reduceAdd, Nat.reduceMul, and_false, false_and, and_true, true_and, and_self, if_true, if_false, reduceIte, ne_eq, not_false_eq_true, not_true_eq_false, eq_self, e1, e2'.1, e2'.2, vd_I_toInt, eq_false cx, show ¬ ((1 : Int) = 2) by decide, eq_self, if_true, if_false, vd_I_add, show (1 + 1 : Int) = 2 by decide, i0, i1]
      · unfold vd_addv
        rw [if_neg c0, if_pos c1]
        refine ⟨?_, fun _ => ⟨?_, ?_⟩, fun _ => ⟨?_, ?_⟩⟩ <;> simp only [vd_up_at, vd_ua_at, Nat.reduceEqDiff, Nat.reduceAdd, Nat.reduceMul, and_false, false_and, and_true, true_and, and_self, if_true, if_false, reduceIte, ne_eq, not_false_eq_true, not_true_eq_false, eq_self, e2'.1, e2'.2]
    · refine ⟨g, fun d Q => ?_, by unfold vd_addv; rw [if_neg c0, if_neg c1]; exact ⟨e1, e2, e3⟩, fun _ _ _ _ _ => rfl⟩
      by_cases c2 : s.1 = 1
      · have cxy : s.2.1.1 = x ∧ s.2.1.2 = y := by
          by_cases q : x = s.2.1.1 ∧ y = s.2.1.2
          · exact ⟨q.1.symm, q.2.symm⟩
          · exact absurd ⟨c2, q⟩ c1
        have e2' := e2 (by omega)
        rw [c2] at e1
        simp (disch := omega) only [vd_S214_0 hN, vd_S214_8 hN, vd_S214_16 hN, vd_S214_26 hN, vd_S214_36 hN, vd_S214_37 hN, vd_S214_21 hN, vd_S214_31 hN, vd_S214_46 hN, vd_S214_63 hN, e1, e2'.1, e2'.2, vd_I_toInt, eq_true cxy.1, eq_true cxy.2, show ¬ ((1 : Int) = 2) by decide, eq_self, if_true, if_false, i0, i1]
      · have c3 : s.1 = 2 := by omega
        simp (disch := omega) only [vd_S214_0 hN, vd_S214_8 hN, vd_S214_16 hN, vd_S214_26 hN, vd_S214_36 hN, vd_S214_37 hN, vd_S214_21 hN, vd_S214_31 hN, vd_S214_46 hN, vd_S214_63 hN, e1, vd_I_toInt, c3, eq_self, if_true]
end VDFN
