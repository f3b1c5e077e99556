/-! ===== slots and the picture shown, class ===== -/
/-- the same but for references -/
def vd_Ms (M M' : vd_M) : Prop := M'.1 = M.1 ∧ M'.2.1 = M.2.1 ∧ M'.2.2.1 = M.2.2.1 ∧ M'.2.2.2.2.2 = M.2.2.2.2.2
theorem vd_Ms.refl (M : vd_M) : vd_Ms M M := ⟨rfl, rfl, rfl, rfl⟩
theorem vd_Ms.trans {M M' M'' : vd_M} (h : vd_Ms M M') (h' : vd_Ms M' M'') : vd_Ms M M'' := ⟨h'.1.trans h.1, h'.2.1.trans h.2.1, h'.2.2.1.trans h.2.2.1, h'.2.2.2.trans h.2.2.2⟩
theorem vd_Ms.sr (M : vd_M) (o i : Nat) (v : Option Nat) : vd_Ms M (vd_sr M o i v) := ⟨rfl, rfl, rfl, rfl⟩
theorem vd_Ms.k {M M' : vd_M} (h : vd_Ms M M') (c : Nat) : vd_k M' c = vd_k M c := by unfold vd_k; rw [h.2.1]
theorem vd_Ms.l {M M' : vd_M} (h : vd_Ms M M') (c : Nat) : vd_l M' c = vd_l M c := by unfold vd_l; rw [h.2.2.1]
theorem vd_Ms.n {M M' : vd_M} (h : vd_Ms M M') : vd_n M' = vd_n M := by unfold vd_n; rw [h.1]
theorem vd_Ms.c {M M' : vd_M} (h : vd_Ms M M') : vd_c M' = vd_c M := by unfold vd_c; rw [h.1]
theorem vd_Ms.s {M M' : vd_M} (h : vd_Ms M M') : vd_s M' = vd_s M := by unfold vd_s; rw [h.1]
theorem vd_Ms.PC {M M' : vd_M} (h : vd_Ms M M') {p s : Nat} (hp : vd_PC M p s) (hr : ∀ c i, 197 ≤ c → vd_r M' c i = vd_r M c i) : vd_PC M' p s := by
  obtain ⟨⟨a, b⟩, ⟨c, d⟩, e⟩ := hp
  exact ⟨⟨by rw [h.k]; exact a, by rw [hr p 2 e.1]; exact b⟩, ⟨by rw [h.k]; exact c, by rw [h.l]; exact d⟩, e⟩
/-- the i-th bit of the refreshed -/
def vd_bt (r : Int) (i : Nat) : Int := r / ((2 ^ i : Nat) : Int) % 2
theorem vd_bt_b (r : Int) (i : Nat) : vd_bt r i = 0 ∨ vd_bt r i = 1 := by unfold vd_bt; omega
theorem vd_bt_eq {r : Int} {i : Nat} (r0 : 0 ≤ r) (r1 : r ≤ 255) (hi : i < 8) : (vd_I r >>> (vd_I (i : Int) &&& 31)) &&& vd_I 1 = vd_I (vd_bt r i) := by
  rw [vd_I_shr (by omega) (by omega) (by omega), vd_and1]
  rfl
section VDSL
variable {M : vd_M} {ow fa lo lf : Nat}
theorem vd_SC.sr13 (h : vd_SC M ow fa lo lf) (i : Nat) (v : Option Nat) : vd_SC (vd_sr M 13 i v) ow fa lo lf := h.keep (fun _ _ => rfl) (fun _ _ => rfl) (fun c j _ _ q _ _ _ _ => by rw [vd_r_sr, if_neg (by omega)])
theorem vd_SC.sr10 (h : vd_SC M ow fa lo lf) (v : Option Nat) : vd_SC (vd_sr M 10 9 v) ow fa lo lf := h.keep (fun _ _ => rfl) (fun _ _ => rfl) (fun c j _ _ _ q _ _ _ => by rw [vd_r_sr, if_neg (by omega)])
theorem vd_L26s {p : Nat} {rfr : Int} {f : Nat → Nat → Int32} (h7 : f 17 7 = vd_I rfr) (r0 : 0 ≤ rfr) (r1 : rfr ≤ 255) (hp10 : 10 ≤ p) (x1 x2 : Int32) (a5 : Value) : ∀ (m i : Nat) (M : vd_M), i + m = 8 → vd_SC M ow fa lo lf → vd_k M p = 7 → ∃ M' : vd_M, (∀ d Q, vd_wp d 26 246 [.ref 10, .int x1, .int x2, .ref p, .int (vd_I (i : Int)), a5] [] (vd_mf M f) Q = vd_wp d 26 283 [.ref 10, .int x1, .int x2, .ref p, .int (vd_I 8), a5] [] (vd_mf M' f) Q) ∧ vd_SC M' ow fa lo lf ∧ vd_Ms M M' ∧ (∀ c j, c ≠ 13 → vd_r M' c j = vd_r M c j) ∧ (∀ j, j < 8 → vd_r M' 13 j = if i ≤ j ∧ vd_bt rfr j = 1 then some p else vd_r M 13 j) := by
  intro m
  induction m with
  | zero =>
    intro i M hi hM hk
    have hi : i = 8 := by omega
    subst hi
    refine ⟨M, fun d Q => ?_, hM, vd_Ms.refl M, fun _ _ _ => rfl, fun j hj => by rw [if_neg (by omega)]⟩
    simp (disch := omega) only [vd_S26_246 hM, vd_I_toInt, show ¬ (((8 : Nat) : Int) < 8) by decide, if_false]
    rfl
  | succ m ih =>
    intro i M hi hM hk
    have ei : (i : Int) + 1 = ((i + 1 : Nat) : Int) := by omega
    have bt := vd_bt_eq (i := i) r0 r1 (by omega)
    have lg : vd_long (.ref p) = false := rfl
    have b01 := vd_bt_b rfr i
    by_cases c : vd_bt rfr i = 1
    · have hM' := hM.sr13 i (some p)
      obtain ⟨M', e, q1, q2, q3, q4⟩ := ih (i + 1) (vd_sr M 13 i (some p)) (by omega) hM' hk
      have ak : vd_akk M 13 p := Or.inl ⟨hM.k13, hk⟩
      have hl : (i : Int) < (vd_l M 13 : Int) := by rw [hM.l13]; omega
      refine ⟨M', fun d Q => ?_, q1, (vd_Ms.sr M 13 i (some p)).trans q2, fun c j q => by rw [q3 c j q, vd_r_sr, if_neg (by omega)], fun j hj => ?_⟩
      · rw [← e d Q]
        conv => lhs; rw [vd_S26_246 hM]
        simp (disch := first | assumption | omega) only [vd_I_toInt, show ((i : Int) < 8) by omega, if_true, vd_S26_253 hM, h7, bt, c, eq_self, vd_S26_269 hM, vd_S26_275 hM, vd_S26_276 hM, Int.toNat_natCast, vd_S26_277 hM', vd_I_add, ei]
      · rw [q4 j hj]
        by_cases ej : j = i
        · subst ej
          rw [if_neg (by omega), if_pos ⟨Nat.le_refl j, c⟩, vd_r_sr, if_pos ⟨rfl, rfl⟩]
        · by_cases cj : i + 1 ≤ j ∧ vd_bt rfr j = 1
          · rw [if_pos cj, if_pos ⟨by omega, cj.2⟩]
          · rw [if_neg cj, if_neg (fun q => cj ⟨by omega, q.2⟩), vd_r_sr, if_neg (fun q => ej q.2)]
    · have c0 : vd_bt rfr i = 0 := by omega
      obtain ⟨M', e, q1, q2, q3, q4⟩ := ih (i + 1) M (by omega) hM hk
      refine ⟨M', fun d Q => ?_, q1, q2, q3, fun j hj => ?_⟩
      · rw [← e d Q]
        conv => lhs; rw [vd_S26_246 hM]
        simp (disch := first | assumption | omega) only [vd_I_toInt, show ((i : Int) < 8) by omega, if_true, vd_S26_253 hM, h7, bt, c0, show ¬ ((0 : Int) = 1) by decide, if_false, vd_S26_277 hM, vd_I_add, ei]
      · rw [q4 j hj]
        by_cases ej : j = i
        · subst ej
          rw [if_neg (by omega), if_neg (fun q => c q.2)]
        · by_cases cj : i + 1 ≤ j ∧ vd_bt rfr j = 1
          · rw [if_pos cj, if_pos ⟨by omega, cj.2⟩]
          · rw [if_neg cj, if_neg (fun q => cj ⟨by omega, q.2⟩)]
/-- the end of a frame -/
theorem vd_P26e (hM : vd_SC M ow fa lo lf) {p : Nat} {rfr sho : Int} {f : Nat → Nat → Int32} (hk : vd_k M p = 7) (hp10 : 10 ≤ p) (h7 : f 17 7 = vd_I rfr) (r0 : 0 ≤ rfr) (r1 : rfr ≤ 255) (h2 : f 17 2 = vd_I sho) (s01 : sho = 0 ∨ sho = 1) (x1 x2 x4 : Int32) (a5 : Value) : ∃ (M' : vd_M) (f' : Nat → Nat → Int32), (∀ d Q, vd_wp (d + 1) 26 243 [.ref 10, .int x1, .int x2, .ref p, .int x4, a5] [] (vd_mf M f) Q = Q (vd_mf M' f') (.inl (some (.int (vd_I 0))))) ∧ vd_SC M' ow fa lo lf ∧ vd_Ms M M' ∧ (∀ c j, c ≠ 13 → ¬ (c = 10 ∧ j = 9) → vd_r M' c j = vd_r M c j) ∧ (∀ j, j < 8 → vd_r M' 13 j = if vd_bt rfr j = 1 then some p else vd_r M 13 j) ∧ vd_r M' 10 9 = (if sho = 1 then some p else vd_r M 10 9) ∧ f' 10 5 = (if sho = 1 then f 10 5 + vd_I 1 else f 10 5) ∧ (∀ c i, ¬ (c = 10 ∧ i = 5) → f' c i = f c i) := by
  obtain ⟨M1, e, hM1, q2, q3, q4⟩ := vd_L26s (M := M) (a5 := a5) (x1 := x1) (x2 := x2) h7 r0 r1 hp10 8 0 rfl hM hk
  have lg : vd_long (.ref p) = false := rfl
  have e0 : ∀ d Q, vd_wp d 26 243 [.ref 10, .int x1, .int x2, .ref p, .int x4, a5] [] (vd_mf M f) Q = vd_wp d 26 283 [.ref 10, .int x1, .int x2, .ref p, .int (vd_I 8), a5] [] (vd_mf M1 f) Q := fun d Q => by
    rw [← e d Q]
    simp (disch := assumption) only [vd_S26_243 hM]
    rfl
  have q4' : ∀ j, j < 8 → vd_r M1 13 j = if vd_bt rfr j = 1 then some p else vd_r M 13 j := fun j hj => by
    rw [q4 j hj]
    by_cases c : vd_bt rfr j = 1
    · rw [if_pos ⟨Nat.zero_le j, c⟩, if_pos c]
    · rw [if_neg (fun q => c q.2), if_neg c]
  rcases s01 with rfl | rfl
  · refine ⟨M1, f, fun d Q => ?_, hM1, q2, fun c j a _ => q3 c j a, q4', ?_, ?_, fun _ _ _ => rfl⟩
    · rw [e0]
      simp (disch := omega) only [vd_S26_283 hM1, h2, vd_I_toInt, eq_self, if_true, vd_S26_298 hM1]
    · rw [if_neg (by decide), q3 10 9 (by decide)]
    · rw [if_neg (by decide)]
  · have hM2 := hM1.sr10 (some p)
    refine ⟨vd_sr M1 10 9 (some p), vd_up f 10 5 (f 10 5 + vd_I 1), fun d Q => ?_, hM2, q2.trans (vd_Ms.sr M1 10 9 (some p)), fun c j a b => by rw [vd_r_sr, if_neg b, q3 c j a], fun j hj => by rw [vd_r_sr, if_neg (by omega), q4' j hj], ?_, ?_, fun c i q => vd_up_ne q⟩
    · rw [e0]
      simp (disch := omega) only [vd_S26_283 hM1, h2, vd_I_toInt, show ¬ ((1 : Int) = 0) by decide, if_false, vd_S26_293 hM1, vd_S26_294 hM1, vd_S26_295 hM1, vd_S46_0 hM1, vd_S46_5 hM2, vd_rs_v, vd_rs_n, vd_S26_298 hM2]
    · rw [if_pos rfl, vd_r_sr, if_pos ⟨rfl, rfl⟩]
    · rw [if_pos rfl, vd_up_eq]
end VDSL
