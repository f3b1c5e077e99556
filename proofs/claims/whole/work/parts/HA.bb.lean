/-! ===== a frame's picture begins, class ===== -/
theorem vd_g_aasn {k pc len a b d : Nat} {cv : Value} {ls st : List Value} {M : vd_M} {o : Nat} {z : Int} {Q : vd_M → (Option Value ⊕ Nat) → Prop} (he : vd_pI k pc = some (.aastore, len, 1, a, b, cv)) (h0 : 10 ≤ o) (hk : vd_k M o = 36 ∨ vd_k M o = 37) (h1 : 0 ≤ z) (h2 : z < (vd_l M o : Int)) (h3 : z < 2147483648) : vd_wp d k pc ls (.null :: .int (vd_I z) :: .ref o :: st) M Q = vd_wp d k (pc + len) ls st (vd_sr M o z.toNat none) Q := vd_wp_mm he (by
  simp only [vd_mm, if_pos (And.intro (And.intro h0 hk) (vd_ixok h1 h2 h3))]; simp only [vd_I_nat h1 h3])
section VDBB
variable {M : vd_M} {ow fa lo lf : Nat}
theorem vd_P63 (hM : vd_SC M ow fa lo lf) {p s : Nat} (hp : vd_PC M p s) (f : Nat → Nat → Int32) (w h : Int32) (d : Nat) (Q : vd_M → (Option Value ⊕ Nat) → Prop) : vd_wp (d + 1) 63 0 [.ref p, .int w, .int h] [] (vd_mf M f) Q = Q (vd_mf M (vd_uf (vd_up (vd_up f p 0 w) p 1 h) s 0 55296 (vd_I 0))) (.inl none) := by
  obtain ⟨⟨k, r⟩, ⟨ks, ls⟩, hb⟩ := hp
  have z := fun d Q => vd_F286 (M := M) (d := d) (Q := Q) (f := vd_up (vd_up f p 0 w) p 1 h) (o := s) (len := 55296) (x := vd_I 0) (by omega) ks ls (by decide)
  simp (disch := first | assumption | omega) only [vd_S63_0 hM, r, vd_vr_some, vd_S63_15 hM, z, vd_rs_v, vd_rs_n, vd_S63_18 hM]
theorem vd_SC.sr55 (h : vd_SC M ow fa lo lf) (i : Nat) (v : Option Nat) : vd_SC (vd_sr M 55 i v) ow fa lo lf := h.keep (fun _ _ => rfl) (fun _ _ => rfl) (fun c j _ _ _ _ _ q _ => by rw [vd_r_sr, if_neg (by omega)])
theorem vd_SC.sr44 (h : vd_SC M ow fa lo lf) (v : Option Nat) : vd_SC (vd_sr M 44 7 v) ow fa lo lf := h.keep (fun _ _ => rfl) (fun _ _ => rfl) (fun c j _ _ _ _ q _ _ => by rw [vd_r_sr, if_neg (by omega)])
/-- one reference of the frame -/
theorem vd_L65 (hM : vd_SC M ow fa lo lf) (hs : vd_slk M) {f : Nat → Nat → Int32} {i r : Nat} (hi : i < 3) (hr : r < 8) (h18 : f 18 i = vd_I (r : Int)) (d : Nat) (Q : vd_M → (Option Value ⊕ Nat) → Prop) : vd_wp d 65 2 [.ref 54, .ref 13, .int (vd_I (i : Int))] [] (vd_mf M f) Q = vd_wp d 65 2 [.ref 54, .ref 13, .int (vd_I ((i + 1 : Nat) : Int))] [] (vd_mf (vd_sr M 55 i (vd_r M 13 r)) f) Q := by
  have ei : (i : Int) + 1 = ((i + 1 : Nat) : Int) := by omega
  have hl : (i : Int) < (vd_l M 55 : Int) := by rw [hM.l55]; omega
  have hM' := hM.sr55 i (vd_r M 13 r)
  conv => lhs; rw [vd_S65_2 hM]
  rcases hs r hr with h0 | ⟨o, h0, h1, h2⟩
  · have e23 : vd_wp d 65 23 [.ref 54, .ref 13, .int (vd_I (i : Int))] [.null, .int (vd_I (i : Int)), .ref 55] (vd_mf M f) Q = vd_wp d 65 24 [.ref 54, .ref 13, .int (vd_I (i : Int))] [] (vd_mf (vd_sr M 55 i none) f) Q := by
      have e := vd_g_aasn (k := 65) (pc := 23) (d := d) (ls := [.ref 54, .ref 13, .int (vd_I (i : Int))]) (st := []) (M := vd_mf M f) (o := 55) (z := (i : Int)) (Q := Q) rfl (by decide) (Or.inl hM.k55) (by omega) hl (by omega)
      rw [Int.toNat_natCast] at e
      exact e
    rw [h0] at hM' ⊢
    simp (disch := omega) only [vd_S65_7 hM, vd_S65_21 hM, vd_S65_22 hM, Int.toNat_natCast, h18, h0, vd_vr_none, e23, vd_S65_24 hM', vd_I_toInt, show ((i : Int) < 3) by omega, if_true, vd_I_add, ei]
  · have ak : vd_akk M 55 o := Or.inl ⟨hM.k55, h1⟩
    rw [h0] at hM' ⊢
    simp (disch := first | assumption | omega) only [vd_S65_7 hM, vd_S65_21 hM, vd_S65_22 hM, Int.toNat_natCast, h18, h0, vd_vr_some, vd_S65_23 hM, vd_S65_24 hM', vd_I_toInt, show ((i : Int) < 3) by omega, if_true, vd_I_add, ei]
def vd_m64 (M : vd_M) (p : Nat) (v0 v1 v2 : Option Nat) : vd_M := vd_sr (vd_sr (vd_sr (vd_sr M 44 7 (some p)) 55 0 v0) 55 1 v1) 55 2 v2
theorem vd_m64_r {p : Nat} {v0 v1 v2 : Option Nat} {c i : Nat} (h : ¬ (c = 44 ∧ i = 7)) (h2 : c ≠ 55) : vd_r (vd_m64 M p v0 v1 v2) c i = vd_r M c i := by
  unfold vd_m64
  rw [vd_r_sr, if_neg (by omega), vd_r_sr, if_neg (by omega), vd_r_sr, if_neg (by omega), vd_r_sr, if_neg (by omega)]
theorem vd_m64_SC (h : vd_SC M ow fa lo lf) (p : Nat) (v0 v1 v2 : Option Nat) : vd_SC (vd_m64 M p v0 v1 v2) ow fa lo lf := (((h.sr44 _).sr55 0 v0).sr55 1 v1).sr55 2 v2
theorem vd_m64_44 (M : vd_M) (p : Nat) (v0 v1 v2 : Option Nat) : vd_r (vd_m64 M p v0 v1 v2) 44 7 = some p := by
  unfold vd_m64
  rw [vd_r_sr, if_neg (by omega), vd_r_sr, if_neg (by omega), vd_r_sr, if_neg (by omega), vd_r_sr, if_pos ⟨rfl, rfl⟩]
theorem vd_m64_55 (M : vd_M) (p : Nat) (v0 v1 v2 : Option Nat) : vd_r (vd_m64 M p v0 v1 v2) 55 0 = v0 ∧ vd_r (vd_m64 M p v0 v1 v2) 55 1 = v1 ∧ vd_r (vd_m64 M p v0 v1 v2) 55 2 = v2 := by
  unfold vd_m64
  refine ⟨?_, ?_, ?_⟩
  · rw [vd_r_sr, if_neg (by omega), vd_r_sr, if_neg (by omega), vd_r_sr, if_pos ⟨rfl, rfl⟩]
  · rw [vd_r_sr, if_neg (by omega), vd_r_sr, if_pos ⟨rfl, rfl⟩]
  · rw [vd_r_sr, if_pos ⟨rfl, rfl⟩]
/-- blocks.begin -/
theorem vd_P64 (hM : vd_SC M ow fa lo lf) (hs : vd_slk M) {f : Nat → Nat → Int32} {p s0 s1 s2 : Nat} (h0 : s0 < 8 ∧ f 18 0 = vd_I (s0 : Int)) (h1 : s1 < 8 ∧ f 18 1 = vd_I (s1 : Int)) (h2 : s2 < 8 ∧ f 18 2 = vd_I (s2 : Int)) (d : Nat) (Q : vd_M → (Option Value ⊕ Nat) → Prop) : vd_wp (d + 1) 64 0 [.ref 44, .ref p, .ref 13] [] (vd_mf M f) Q = Q (vd_mf (vd_m64 M p (vd_r M 13 s0) (vd_r M 13 s1) (vd_r M 13 s2)) (vd_up f 45 3 (vd_I 0))) (.inl none) := by
  have hM1 := hM.sr44 (some p)
  have hs1 : vd_slk (vd_sr M 44 7 (some p)) := fun r hr => by
    rcases hs r hr with a | ⟨o, a, b, c⟩
    · exact Or.inl (by rw [vd_r_sr, if_neg (by omega)]; exact a)
    · exact Or.inr ⟨o, by rw [vd_r_sr, if_neg (by omega)]; exact a, b, c⟩
  have hsx : ∀ (M' : vd_M) (i : Nat) (v : Option Nat), vd_slk M' → vd_slk (vd_sr M' 55 i v) := fun M' i v h r hr => by
    rcases h r hr with a | ⟨o, a, b, c⟩
    · exact Or.inl (by rw [vd_r_sr, if_neg (by omega)]; exact a)
    · exact Or.inr ⟨o, by rw [vd_r_sr, if_neg (by omega)]; exact a, b, c⟩
  have r13 : ∀ (M' : vd_M) (i r : Nat) (v : Option Nat), vd_r (vd_sr M' 55 i v) 13 r = vd_r M' 13 r := fun M' i r v => by rw [vd_r_sr, if_neg (by omega)]
  have r13' : ∀ r, vd_r (vd_sr M 44 7 (some p)) 13 r = vd_r M 13 r := fun r => by rw [vd_r_sr, if_neg (by omega)]
  obtain ⟨f1, hf1⟩ : ∃ f1, f1 = vd_up f 45 3 (vd_I 0) := ⟨_, rfl⟩
  have F1 : ∀ i, f1 18 i = f 18 i := fun i => by rw [hf1, vd_up_ne (by omega)]
  have e0 := fun d Q => vd_L65 (i := 0) (r := s0) (f := f1) (d := d) (Q := Q) hM1 hs1 (by decide) h0.1 (by rw [F1]; exact h0.2)
  have e1 := fun d Q => vd_L65 (i := 1) (r := s1) (f := f1) (d := d) (Q := Q) (hM1.sr55 0 (vd_r (vd_sr M 44 7 (some p)) 13 s0)) (hsx _ _ _ hs1) (by decide) h1.1 (by rw [F1]; exact h1.2)
  have e2 := fun d Q => vd_L65 (i := 2) (r := s2) (f := f1) (d := d) (Q := Q) ((hM1.sr55 0 (vd_r (vd_sr M 44 7 (some p)) 13 s0)).sr55 1 (vd_r (vd_sr (vd_sr M 44 7 (some p)) 55 0 (vd_r (vd_sr M 44 7 (some p)) 13 s0)) 13 s1)) (hsx _ _ _ (hsx _ _ _ hs1)) (by decide) h2.1 (by rw [F1]; exact h2.2)
  simp only [r13, r13'] at e0 e1 e2
  have hM4 := vd_m64_SC hM p (vd_r M 13 s0) (vd_r M 13 s1) (vd_r M 13 s2)
  have i0 : ∀ (Q : vd_M → (Option Value ⊕ Nat) → Prop), vd_wp d 65 0 [.ref 54, .ref 13, vd_U] [] (vd_mf (vd_sr M 44 7 (some p)) f1) Q = Q (vd_mf (vd_m64 M p (vd_r M 13 s0) (vd_r M 13 s1) (vd_r M 13 s2)) f1) (.inl none) := fun Q => by
    have a0 : vd_wp d 65 0 [.ref 54, .ref 13, vd_U] [] (vd_mf (vd_sr M 44 7 (some p)) f1) Q = vd_wp d 65 2 [.ref 54, .ref 13, .int (vd_I ((0 : Nat) : Int))] [] (vd_mf (vd_sr M 44 7 (some p)) f1) Q := by rw [vd_S65_0 hM1]; rfl
    rw [a0, e0, e1, e2]
    have b0 : vd_sr (vd_sr (vd_sr (vd_sr M 44 7 (some p)) 55 0 (vd_r M 13 s0)) 55 1 (vd_r M 13 s1)) 55 2 (vd_r M 13 s2) = vd_m64 M p (vd_r M 13 s0) (vd_r M 13 s1) (vd_r M 13 s2) := rfl
    rw [b0, vd_S65_2 hM4]
    simp (disch := omega) only [vd_I_toInt, show ¬ (((2 + 1 : Nat) : Int) < 3) by decide, if_false, vd_S65_30 hM4]
  simp only [vd_S64_0 hM, vd_S64_5 hM1, ← hf1, vd_S64_18 hM1, i0, vd_rs_v, vd_rs_n, vd_S64_21 hM4]
end VDBB
