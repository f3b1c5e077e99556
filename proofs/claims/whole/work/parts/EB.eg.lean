/-! ===== the filter: limits, and where an edge is ===== -/
def vd_lim (X : Nat → Nat → Int) (lev : Int) : Int := max (if 0 < X 0 11 then min (lev / (if 4 < X 0 11 then 4 else 2)) (9 - X 0 11) else lev) 1
theorem vd_lim_b {X : Nat → Nat → Int} (hX : vd_XV X) {lev : Int} (l0 : 0 ≤ lev ∧ lev ≤ 63) : 1 ≤ vd_lim X lev ∧ vd_lim X lev ≤ 63 := by
  have := hX.2.1.2.2.1
  unfold vd_lim
  split
  · split <;> omega
  · omega
/-- an edge: at a square's border, and, where a block has no numbers and comes from elsewhere, at the block's alone -/
def vd_isE (b : Nat → Int) (pos n un : Int) (vt : Int) : Int := if pos = 0 ∨ pos % n ≠ 0 then 0 else if (b 5 = 1 ∧ b 7 < 0) ∧ pos ≠ un * (if vt = 1 then b 1 else b 0) then 0 else 1
section VDEG
variable {M N : vd_M} {ow fa lo lf : Nat} {X : Nat → Nat → Int} {b : Nat → Int} {f g : Nat → Nat → Int32}
theorem vd_P141 (hM : vd_SC M ow fa lo lf) (hX : vd_XV X) (h : vd_CA X f) {lev : Int} (l0 : 0 ≤ lev ∧ lev ≤ 63) : ∃ f' : Nat → Nat → Int32, (∀ d Q, vd_wp (d + 1) 141 0 [.ref 60, .int (vd_I lev)] [] (vd_mf M f) Q = Q (vd_mf M f') (.inl none)) ∧ f' 60 6 = vd_I lev ∧ f' 60 7 = vd_I (vd_lim X lev) ∧ f' 60 8 = vd_I (2 * (lev + 2) + vd_lim X lev) ∧ (∀ k j, ¬ (k = 60 ∧ 6 ≤ j ∧ j ≤ 8) → f' k j = f k j) := by
  obtain ⟨_, _, _, ⟨f0, f1, f2⟩, _⟩ := id h
  have X11 := hX.2.1.2.2.1
  have P289 := fun (f : Nat → Nat → Int32) (a c : Int) (h1 : -1000 ≤ a ∧ a ≤ 1000) (h2 : -1000 ≤ c ∧ c ≤ 1000) (d : Nat) (Q : vd_M → (Option Value ⊕ Nat) → Prop) => vd_P289 (M := M) (f := f) (d := d) (Q := Q) (a := a) (b := c) (by omega) (by omega) (by omega) (by omega)
  have P287 := fun (f : Nat → Nat → Int32) (a c : Int) (h1 : -1000 ≤ a ∧ a ≤ 1000) (h2 : -1000 ≤ c ∧ c ≤ 1000) (d : Nat) (Q : vd_M → (Option Value ⊕ Nat) → Prop) => vd_P287 (M := M) (f := f) (d := d) (Q := Q) (a := a) (b := c) (by omega) (by omega) (by omega) (by omega)
  have sh0 : vd_I lev >>> (vd_I 0 &&& 31) = vd_I lev := by
    have := vd_I_shr (z := lev) (n := 0) (by omega) (by omega) (by decide)
    rw [show ((0 : Nat) : Int) = 0 from rfl, show ((2 ^ 0 : Nat) : Int) = 1 from rfl, Int.ediv_one] at this
    exact this
  have r1 : ∀ (ff : Nat → Nat → Int32) (a : Int32), vd_up ff 60 6 a 20 1 = ff 20 1 := fun ff a => vd_up_ne (by decide)
  have r7 : ∀ (ff : Nat → Nat → Int32) (a : Int32), vd_up ff 60 7 a 20 1 = ff 20 1 := fun ff a => vd_up_ne (by decide)
  have e7 : ∀ (ff : Nat → Nat → Int32) (a : Int32), vd_up ff 60 7 a 60 7 = a := fun ff a => vd_up_eq _ _ _ _
  by_cases c0 : 0 < X 0 11
  · -- sharp
    obtain ⟨z, hz, hz2⟩ : ∃ z : Int, z = lev / (if 4 < X 0 11 then 4 else 2) ∧ (0 ≤ z ∧ z ≤ 63) := ⟨_, rfl, by split <;> omega⟩
    have el : vd_lim X lev = max (min z (9 - X 0 11)) 1 := by unfold vd_lim; rw [if_pos c0, hz]
    rw [el]
    refine ⟨vd_up (vd_up (vd_up (vd_up (vd_up f 60 6 (vd_I lev)) 60 7 (vd_I z)) 60 7 (vd_I (min z (9 - X 0 11)))) 60 7 (vd_I (max (min z (9 - X 0 11)) 1))) 60 8 (vd_I (2 * (lev + 2) + max (min z (9 - X 0 11)) 1)), fun d Q => ?_, ?_, ?_, ?_, fun k j hh => ?_⟩
    · have q37 : ∀ d Q, vd_wp (d + 1) 141 0 [.ref 60, .int (vd_I lev)] [] (vd_mf M f) Q = vd_wp (d + 1) 141 51 [.ref 60, .int (vd_I lev)] [] (vd_mf M (vd_up (vd_up f 60 6 (vd_I lev)) 60 7 (vd_I z))) Q := by
        intro d Q
        by_cases c4 : 4 < X 0 11
        · rw [if_pos c4] at hz
          simp (disch := omega) only [vd_S141_0 hM, f1, vd_I_toInt, c4, if_true, vd_S141_18 hM, vd_S141_37 hM, r1, c0, vd_shr2, hz]
        · rw [if_neg c4] at hz
          simp (disch := omega) only [vd_S141_0 hM, f1, vd_I_toInt, c4, if_false, vd_S141_22 hM, r1, c0, if_true, vd_S141_32 hM, vd_S141_37 hM, vd_shr1, hz]
      rw [q37]
      simp (disch := omega) only [vd_S141_51 hM, r7, r1, f1, vd_I_sub, e7, vd_S141_66 hM, P289, vd_S141_69 hM, vd_S141_72 hM, vd_S141_78 hM, P287, vd_S141_81 hM, vd_I_add, vd_I_mul, vd_rs_v, vd_rs_n]
    · rw [vd_up_ne (by decide), vd_up_ne (by decide), vd_up_ne (by decide), vd_up_ne (by decide), vd_up_eq]
    · rw [vd_up_ne (by decide), vd_up_eq]
    · rw [vd_up_eq]
    · rw [vd_up_ne (by omega), vd_up_ne (by omega), vd_up_ne (by omega), vd_up_ne (by omega), vd_up_ne (by omega)]
  · have el : vd_lim X lev = max lev 1 := by unfold vd_lim; rw [if_neg c0]
    have c4 : ¬ (4 < X 0 11) := by omega
    rw [el]
    refine ⟨vd_up (vd_up (vd_up (vd_up f 60 6 (vd_I lev)) 60 7 (vd_I lev)) 60 7 (vd_I (max lev 1))) 60 8 (vd_I (2 * (lev + 2) + max lev 1)), fun d Q => ?_, ?_, ?_, ?_, fun k j hh => ?_⟩
    · simp (disch := omega) only [vd_S141_0 hM, f1, vd_I_toInt, c4, if_false, vd_S141_22 hM, r1, c0, vd_S141_36 hM, vd_S141_37 hM, sh0, vd_S141_72 hM, e7, vd_S141_78 hM, P287, vd_S141_81 hM, vd_I_add, vd_I_mul, vd_rs_v, vd_rs_n]
    · rw [vd_up_ne (by decide), vd_up_ne (by decide), vd_up_ne (by decide), vd_up_eq]
    · rw [vd_up_ne (by decide), vd_up_eq]
    · rw [vd_up_eq]
    · rw [vd_up_ne (by omega), vd_up_ne (by omega), vd_up_ne (by omega), vd_up_ne (by omega)]
theorem vd_P140 (hM : vd_SC M ow fa lo lf) {k : Nat} (hk : k < 576) (hf : ∀ q, q < 18 → f fa (18 * k + q) = vd_I (b q)) (hb : vd_BV b) {cell n cu vt : Int} (c0 : 0 ≤ cell ∧ cell ≤ 48) (hn : n = 4 ∨ n = 8 ∨ n = 16 ∨ n = 32) (hcu : cu = 1 ∨ cu = 2) (hvt : vt = 0 ∨ vt = 1) (d : Nat) (Q : vd_M → (Option Value ⊕ Nat) → Prop) : vd_wp d 140 0 [.ref 60, .int (vd_I (18 * (k : Int))), .int (vd_I cell), .int (vd_I vt), .int (vd_I cu), .int (vd_I n), vd_U] [] (vd_mf M f) Q = Q (vd_mf M f) (.inl (some (.int (vd_I (vd_isE b (4 * cell) n (4 * cu) vt))))) := by
  have b0 : vd_rok (some .boolean) (vd_I 0) = true := by decide
  have b1 : vd_rok (some .boolean) (vd_I 1) = true := by decide
  have hb1 := hb.1
  have hb2 := hb.2.1
  have i5 : (18 * (k : Int) + 5).toNat = 18 * k + 5 := by omega
  have i7 : (18 * (k : Int) + 7).toNat = 18 * k + 7 := by omega
  have v5 := hf 5 (by decide)
  have v7 := hf 7 (by decide)
  have o1 : ¬ ((1 : Int) = 0) := by decide
  unfold vd_isE
  by_cases cz : cell = 0
  · rw [if_pos (Or.inl (by omega))]
    simp (disch := omega) only [vd_S140_0 hM, vd_I_toInt, cz, if_true, vd_S140_13 hM]
  have er : 4 * cell - 4 * cell / n * n = 4 * cell % n := by
    have := Int.emod_def (4 * cell) n
    rw [Int.mul_comm n] at this
    omega
  have rb : 0 ≤ 4 * cell / n ∧ 4 * cell / n ≤ 192 := by rcases hn with rfl | rfl | rfl | rfl <;> omega
  have mb : 0 ≤ 4 * cell / n * n ∧ 4 * cell / n * n ≤ 192 := by rcases hn with rfl | rfl | rfl | rfl <;> omega
  by_cases cr : 4 * cell % n = 0
  · rw [if_neg (by omega)]
    have to15 : vd_wp d 140 0 [.ref 60, .int (vd_I (18 * (k : Int))), .int (vd_I cell), .int (vd_I vt), .int (vd_I cu), .int (vd_I n), vd_U] [] (vd_mf M f) Q = vd_wp d 140 15 [.ref 60, .int (vd_I (18 * (k : Int))), .int (vd_I cell), .int (vd_I vt), .int (vd_I cu), .int (vd_I n), vd_U] [] (vd_mf M f) Q := by
      rw [vd_S140_0 hM, vd_I_toInt (by omega) (by omega), if_neg cz, vd_S140_4 hM, vd_I_mul, vd_S140_9 hM _ _ _ _ _ _ _ _ _ _ _ (by omega) (by omega), vd_I_div (by omega) (by omega) (by omega) (by omega), vd_I_mul, vd_I_sub, er, vd_I_toInt (by omega) (by omega), if_pos cr]
    rw [to15]
    by_cases c5 : b 5 = 1
    · by_cases c7 : b 7 < 0
      · -- no numbers, from elsewhere
        rcases hvt with rfl | rfl
        · have v0 := hf 0 (by decide)
          have i0 : (18 * (k : Int) + 0).toNat = 18 * k + 0 := by omega
          rw [if_neg (show ¬ ((0 : Int) = 1) by decide)]
          by_cases ce : cell = cu * b 0
          · rw [if_neg (fun h => h.2 (by rw [Int.mul_assoc, ← ce]))]
            simp (disch := first | assumption | omega) only [vd_S140_15 hM, vd_I_add, vd_S140_25 hM, i5, v5, c5, vd_I_toInt, if_true, vd_S140_30 hM, vd_S140_41 hM, i7, v7, c7, vd_S140_45 hM, vd_S140_50 hM, o1, if_false, vd_S140_57 hM, vd_S140_70 hM, i0, v0, vd_I_mul, ← ce, vd_S140_75 hM, vd_S140_80 hM]
          · rw [if_pos ⟨⟨c5, c7⟩, fun h => ce (by rw [Int.mul_assoc] at h; omega)⟩]
            have cub : 0 ≤ cu * b 0 ∧ cu * b 0 ≤ 48 := by rcases hcu with rfl | rfl <;> omega
            simp (disch := first | assumption | omega) only [vd_S140_15 hM, vd_I_add, vd_S140_25 hM, i5, v5, c5, vd_I_toInt, if_true, vd_S140_30 hM, vd_S140_41 hM, i7, v7, c7, vd_S140_45 hM, vd_S140_50 hM, o1, if_false, vd_S140_57 hM, vd_S140_70 hM, i0, v0, vd_I_mul, ce, vd_S140_79 hM, vd_S140_80 hM]
        · have v1 := hf 1 (by decide)
          have i1 : (18 * (k : Int) + 1).toNat = 18 * k + 1 := by omega
          rw [if_pos (show (1 : Int) = 1 from rfl)]
          by_cases ce : cell = cu * b 1
          · rw [if_neg (fun h => h.2 (by rw [Int.mul_assoc, ← ce]))]
            simp (disch := first | assumption | omega) only [vd_S140_15 hM, vd_I_add, vd_S140_25 hM, i5, v5, c5, vd_I_toInt, if_true, vd_S140_30 hM, vd_S140_41 hM, i7, v7, c7, vd_S140_45 hM, vd_S140_50 hM, o1, if_false, vd_S140_57 hM, vd_S140_70 hM, i1, v1, vd_I_mul, ← ce, vd_S140_75 hM, vd_S140_80 hM]
          · rw [if_pos ⟨⟨c5, c7⟩, fun h => ce (by rw [Int.mul_assoc] at h; omega)⟩]
            have cub : 0 ≤ cu * b 1 ∧ cu * b 1 ≤ 48 := by rcases hcu with rfl | rfl <;> omega
            simp (disch := first | assumption | omega) only [vd_S140_15 hM, vd_I_add, vd_S140_25 hM, i5, v5, c5, vd_I_toInt, if_true, vd_S140_30 hM, vd_S140_41 hM, i7, v7, c7, vd_S140_45 hM, vd_S140_50 hM, o1, if_false, vd_S140_57 hM, vd_S140_70 hM, i1, v1, vd_I_mul, ce, vd_S140_79 hM, vd_S140_80 hM]
      · rw [if_neg (fun h => c7 h.1.2)]
        simp (disch := first | assumption | omega) only [vd_S140_15 hM, vd_I_add, vd_S140_25 hM, i5, v5, c5, vd_I_toInt, if_true, vd_S140_30 hM, vd_S140_41 hM, i7, v7, c7, if_false, vd_S140_49 hM, vd_S140_50 hM, vd_S140_75 hM, vd_S140_80 hM]
    · rw [if_neg (fun h => c5 h.1.1)]
      simp (disch := first | assumption | omega) only [vd_S140_15 hM, vd_I_add, vd_S140_25 hM, i5, v5, c5, vd_I_toInt, if_false, vd_S140_49 hM, vd_S140_50 hM, if_true, vd_S140_75 hM, vd_S140_80 hM]
  · rw [if_pos (Or.inr cr), vd_S140_0 hM, vd_I_toInt (by omega) (by omega), if_neg cz, vd_S140_4 hM, vd_I_mul, vd_S140_9 hM _ _ _ _ _ _ _ _ _ _ _ (by omega) (by omega), vd_I_div (by omega) (by omega) (by omega) (by omega), vd_I_mul, vd_I_sub, er, vd_I_toInt (by omega) (by omega), if_neg cr, vd_S140_13 hM]
end VDEG
