/-! ===== the law's start ===== -/
theorem vd_lawStart {d L : Nat} {xs : Nat → Int32} {Q : vd_M → (Option Value ⊕ Nat) → Prop} (hQ : ∀ M, vd_FC L xs M → vd_wp (d + 4) 0 23 [.ref 9, .ref 10, .ref 63, .ref 196, .int (vd_I 0), vd_U, vd_U] [] M Q) : vd_wp (d + 4) 0 0 [.ref 9, vd_U, vd_U, vd_U, vd_U, vd_U, vd_U] [] (vd_M0 L xs) Q := by
  have n0 : vd_n (vd_M0 L xs) = 10 := Eq.trans rfl rfl
  rw [vd_E0_0, n0, vd_E0_3 rfl]
  refine vd_E0_4 (Nat.le_of_ble_eq_true rfl) (by simp only [vd_MM, n0, if_true]) ?_
  refine vd_ctorA (L := L) (xs := xs) (fun b => ?_) ?_ ?_ ?_ ?_ ?_ ?_ ?_ ?_ ?_ ?_ ?_ ?_ ?_ ?_ ?_ (fun MA hA => ⟨_, rfl, ?_⟩)
  all_goals try (first | rfl | (simp only [vd_MM, n0]; done))
  simp only [Option.toList_none, List.nil_append]
  obtain ⟨an, ac, as, a1⟩ := hA
  have a1 : vd_FA1 L xs MA := a1
  rw [vd_E0_7 rfl, vd_E0_8, an, vd_E0_11 rfl]
  refine vd_E0_12 (Nat.le_of_ble_eq_true rfl) (by simp only [vd_MM, an, if_true]) ?_
  refine vd_ctorB ?_ ?_ ?_ ?_ ?_ (fun MB eB hB => ⟨_, rfl, ?_⟩)
  · simp only [vd_MM, ac]
  · simp only [vd_MM, an, if_true]
  · simp only [vd_MM, an]
  · simp only [vd_MM, an, if_true]
  · simp only [vd_MM, as]
  simp only [Option.toList_none, List.nil_append]
  obtain ⟨bn, bc, bs, b1⟩ := hB
  have b1 : vd_FB1 MB := b1
  have a2 : vd_FA1 L xs MB := a1.ext (((vd_ext.refl MA).new (k := 12) (len := 0) (sl := 135) (by omega)).trans eB)
  rw [vd_E0_15 rfl, vd_E0_16, vd_E0_17 (by decide) (by decide), bn, vd_E0_19 rfl, vd_E0_20, vd_E0_21 rfl]
  refine hQ _ ⟨a2.ext ((vd_ext.refl MB).new (by omega)), b1.ext ((vd_ext.refl MB).new (by omega)), ?_, ?_, ?_, ?_, ?_⟩
  · simp only [vd_MM, bn, if_true]
  · simp only [vd_MM, bn, if_true]; rfl
  · simp only [vd_MM, bn]
  · simp only [vd_MM, bc]
  · simp only [vd_MM, bs]; rfl
