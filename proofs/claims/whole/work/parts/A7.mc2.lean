/-! ===== filterRows ===== -/
def vd_ln (P : Nat → Nat → Int) (wd hd : Nat) (x y : Int) (j c : Nat) : Int := P (vd_wn (x + (c : Int) - 3) 0 ((wd : Int) - 1)).toNat (vd_wn (y + (j : Int) - 3) 0 ((hd : Int) - 1)).toNat
section VDMD
variable {M : vd_M} {ow fa lo lf : Nat} {p s pl : Nat}
theorem vd_L106l (hM : vd_SC M ow fa lo lf) (hp : vd_PC M p s) {wide row wd : Nat} {x : Int} {S : Nat → Int} (hx : -20000 ≤ x ∧ x ≤ 20000) (h2 : wide ≤ 64) (hrow : row + wd ≤ 55296) (hwd : 1 ≤ wd) (x3 x4 x6 x7 : Int32) (a10 a11 : Value) : ∀ (m i : Nat) (f : Nat → Nat → Int32), i + m = wide + 7 → (∀ c, c < wd → f s (row + c) = vd_I (S c)) → f 54 11 = vd_I (wide : Int) → ∃ (f' : Nat → Nat → Int32), (∀ d Q, vd_wp (d + 1) 106 66 [.ref 54, .ref p, .int (vd_I x), .int x3, .int x4, .int (vd_I ((wd : Int) - 1)), .int x6, .int x7, .int (vd_I (row : Int)), .int (vd_I (i : Int)), a10, a11] [] (vd_mf M f) Q = vd_wp (d + 1) 106 113 [.ref 54, .ref p, .int (vd_I x), .int x3, .int x4, .int (vd_I ((wd : Int) - 1)), .int x6, .int x7, .int (vd_I (row : Int)), .int (vd_I ((wide + 7 : Nat) : Int)), a10, a11] [] (vd_mf M f') Q) ∧ (∀ c, i ≤ c → c < wide + 7 → f' 58 c = vd_I (S (vd_wn (x + (c : Int) - 3) 0 ((wd : Int) - 1)).toNat)) ∧ (∀ c q, ¬ (c = 58 ∧ i ≤ q) → f' c q = f c q) := by
  obtain ⟨⟨hk, hr⟩, ⟨hks, hls⟩, hp1, hp2, hp3⟩ := hp
  intro m
  induction m with
  | zero =>
    intro i f hi hS h11
    refine ⟨f, fun d Q => ?_, fun c a b => by omega, fun _ _ _ => rfl⟩
    have e : i = wide + 7 := by omega
    subst e
    have c : ¬ (((wide + 7 : Nat) : Int) < (wide : Int) + 8 - 1) := by omega
    rw [vd_S106_66 hM, h11]
    simp (disch := omega) only [vd_I_add, vd_I_sub, vd_I_toInt, c, if_false]
  | succ m ih =>
    intro i f hi hS h11
    have c : (i : Int) < (wide : Int) + 8 - 1 := by omega
    have hcs : ∀ a b, vd_cs [.int a, .ref s, .int b, .ref 58] ≤ 8 := fun _ _ => of_decide_eq_true rfl
    have wb := vd_wn_b (v := x + (i : Int) - 3) (lo := 0) (hi := (wd : Int) - 1) (by omega)
    have P58 := fun (f : Nat → Nat → Int32) (d : Nat) (Q : vd_M → (Option Value ⊕ Nat) → Prop) => vd_P58 (a := x + (i : Int) - 3) (b := 0) (c := (wd : Int) - 1) (f := f) (d := d) (Q := Q) hM (by omega) (by omega) (by omega) (by omega) (by omega) (by omega)
    generalize hwv : vd_wn (x + (i : Int) - 3) 0 ((wd : Int) - 1) = wv at *
    have n1 : ((row : Int) + wv).toNat = row + wv.toNat := by omega
    have hv := hS wv.toNat (by omega)
    have e1 : (i : Int) + 1 = ((i + 1 : Nat) : Int) := by omega
    obtain ⟨f2, q1, q2, q3⟩ := ih (i + 1) (vd_up f 58 i (vd_I (S wv.toNat))) (by omega) (fun c hc => by rw [vd_up_ne (by omega)]; exact hS c hc) (by rw [vd_up_ne (by omega)]; exact h11)
    refine ⟨f2, fun d Q => ?_, fun q a b => ?_, fun c q hq => ?_⟩
    · rw [← q1 d Q, vd_S106_66 hM, h11]
      simp (disch := first | assumption | omega | exact hcs _ _) only [vd_S106_80 hM, vd_S106_101 hM, vd_S106_104 hM, vd_S106_105 hM, vd_S106_106 hM, hr, vd_vr_some, vd_I_add, vd_I_sub, vd_I_toInt, c, if_true, P58, n1, hv, Int.toNat_natCast, e1, vd_rs_v, vd_rs_n]
    · by_cases cq : q = i
      · subst cq
        rw [q3 _ _ (by omega), vd_up_eq, hwv]
      · exact q2 q (by omega) b
    · rw [q3 c q (by omega), vd_up_ne (by omega)]
theorem vd_L106j (hM : vd_SC M ow fa lo lf) (hp : vd_PC M p s) {wide high wd hd first : Nat} {x y : Int} {P : Nat → Nat → Int} {T : Nat → Int} (hpl : pl < 3) (hx : -20000 ≤ x ∧ x ≤ 20000) (hy : -20000 ≤ y ∧ y ≤ 20000) (h2 : wide ≤ 64) (h3 : high ≤ 64) (hrow : ∀ b, b < hd → vd_ax pl 0 b + wd ≤ 55296) (hwd : 1 ≤ wd ∧ wd ≤ 192) (hhd : 1 ≤ hd ∧ hd ≤ 192) (h1 : first + 8 ≤ 256) (hTb : ∀ t, -128 ≤ T t ∧ T t ≤ 128) (hPb : ∀ a b, 0 ≤ P a b ∧ P a b ≤ 255) : ∀ (m j : Nat) (f : Nat → Nat → Int32) (a8 a9 a10 a11 : Value), j + m = high + 7 → (∀ t, t < 8 → f 57 (first + t) = vd_I (T t)) → (∀ a b, a < wd → b < hd → f s (vd_ax pl a b) = vd_I (P a b)) → f 54 8 = vd_I (pl : Int) → f 54 11 = vd_I (wide : Int) → f 54 12 = vd_I (high : Int) → ∃ (f' : Nat → Nat → Int32), (∀ d Q, vd_wp (d + 1) 106 27 [.ref 54, .ref p, .int (vd_I x), .int (vd_I y), .int (vd_I (first : Int)), .int (vd_I ((wd : Int) - 1)), .int (vd_I ((hd : Int) - 1)), .int (vd_I (j : Int)), a8, a9, a10, a11] [] (vd_mf M f) Q = Q (vd_mf M f') (.inl none)) ∧ (∀ j' i, j ≤ j' → j' < high + 7 → i < wide → f' 59 (64 * j' + i) = vd_I (vd_hr T (vd_ln P wd hd x y j') i)) ∧ (∀ c q, c ≠ 58 → ¬ (c = 59 ∧ 64 * j ≤ q) → f' c q = f c q) := by
  obtain ⟨⟨hk, hr⟩, ⟨hks, hls⟩, hp1, hp2, hp3⟩ := id hp
  intro m
  induction m with
  | zero =>
    intro j f a8 a9 a10 a11 hj hT hS h8 h11 h12
    refine ⟨f, fun d Q => ?_, fun j' i a b c => by omega, fun _ _ _ _ => rfl⟩
    have c : ¬ ((j : Int) < (high : Int) + 8 - 1) := by omega
    rw [vd_S106_27 hM, h12]
    simp (disch := omega) only [vd_I_add, vd_I_sub, vd_I_toInt, c, if_false, vd_S106_204 hM]
  | succ m ih =>
    intro j f a8 a9 a10 a11 hj hT hS h8 h11 h12
    have c : (j : Int) < (high : Int) + 8 - 1 := by omega
    have wb := vd_wn_b (v := y + (j : Int) - 3) (lo := 0) (hi := (hd : Int) - 1) (by omega)
    have P58 := fun (f : Nat → Nat → Int32) (d : Nat) (Q : vd_M → (Option Value ⊕ Nat) → Prop) => vd_P58 (a := y + (j : Int) - 3) (b := 0) (c := (hd : Int) - 1) (f := f) (d := d) (Q := Q) hM (by omega) (by omega) (by omega) (by omega) (by omega) (by omega)
    have eln : vd_ln P wd hd x y j = fun (c : Nat) => P (vd_wn (x + (c : Int) - 3) 0 ((wd : Int) - 1)).toNat (vd_wn (y + (j : Int) - 3) 0 ((hd : Int) - 1)).toNat := rfl
    generalize hwv : vd_wn (y + (j : Int) - 3) 0 ((hd : Int) - 1) = wv at *
    obtain ⟨yy, rfl⟩ := Int.eq_ofNat_of_zero_le wb.1
    rw [Int.toNat_natCast] at eln
    have hyy : yy < hd := by omega
    have P109 := fun (f : Nat → Nat → Int32) (d : Nat) (Q : vd_M → (Option Value ⊕ Nat) → Prop) => vd_P109 (x := 0) (y := yy) (f := f) (d := d) (Q := Q) hM hpl
    have z0 : ((0 : Nat) : Int) = 0 := rfl
    rw [z0] at P109
    have hr0 := hrow yy hyy
    obtain ⟨f1, p1, p2, p3⟩ := vd_L106l (S := fun c => P c yy) (x := x) hM hp hx h2 hr0 hwd.1 (vd_I y) (vd_I (first : Int)) (vd_I ((hd : Int) - 1)) (vd_I (j : Int)) a10 a11 (wide + 7) 0 f (by omega) (fun c hc => by rw [← vd_ax_add]; exact hS c yy hc hyy) h11
    obtain ⟨f2, b10, b11, q1, q2, q3⟩ := vd_L106i (p := p) (T := T) (l := vd_ln P wd hd x y j) hM h1 h2 (show j < 72 by omega) hTb (fun t => hPb _ _) (vd_I x) (vd_I y) (vd_I ((wd : Int) - 1)) (vd_I ((hd : Int) - 1)) (vd_I ((vd_ax pl 0 yy : Nat) : Int)) wide 0 f1 a10 a11 (by omega) (fun t ht => by rw [p3 _ _ (by omega)]; exact hT t ht) (fun t ht => by rw [eln]; exact p2 t (by omega) ht) (by rw [p3 _ _ (by omega)]; exact h11)
    have ne : ∀ c q, c ≠ 58 → c ≠ 59 → f2 c q = f c q := fun c q a b => by rw [q3 _ _ (by omega), p3 _ _ (by omega)]
    obtain ⟨f3, r1, r2, r3⟩ := ih (j + 1) f2 (.int (vd_I ((vd_ax pl 0 yy : Nat) : Int))) (.int (vd_I (wide : Int))) b10 b11 (by omega) (fun t ht => by rw [ne _ _ (by omega) (by omega)]; exact hT t ht) (fun a b ha hb => by rw [ne _ _ (by omega) (by omega)]; exact hS a b ha hb) (by rw [ne _ _ (by omega) (by omega)]; exact h8) (by rw [ne _ _ (by omega) (by omega)]; exact h11) (by rw [ne _ _ (by omega) (by omega)]; exact h12)
    rw [z0] at p1 q1
    have e1 : (j : Int) + 1 = ((j + 1 : Nat) : Int) := by omega
    refine ⟨f3, fun d Q => ?_, fun j' i a b ci => ?_, fun c q a b => ?_⟩
    · rw [← r1 d Q, vd_S106_27 hM, h12]
      simp (disch := first | assumption | omega) only [vd_S106_41 hM, vd_S106_55 hM, vd_S106_58 hM, vd_S106_61 hM, h8, vd_I_add, vd_I_sub, vd_I_toInt, c, if_true, P58, P109, p1, vd_S106_113 hM, q1, vd_S106_198 hM, e1, vd_rs_v, vd_rs_n]
    · by_cases cj : j' = j
      · subst cj
        rw [r3 _ _ (by omega) (by omega)]
        exact q2 i (by omega) ci
      · exact r2 j' i (by omega) b ci
    · rw [r3 c q a (by omega), q3 c q (by omega), p3 c q (by omega)]
theorem vd_P106 (hM : vd_SC M ow fa lo lf) (hp : vd_PC M p s) {wide high wd hd first : Nat} {x y w h : Int} {P : Nat → Nat → Int} {T : Nat → Int} {f : Nat → Nat → Int32} (hpl : pl < 3) (hx : -20000 ≤ x ∧ x ≤ 20000) (hy : -20000 ≤ y ∧ y ≤ 20000) (h2 : wide ≤ 64) (h3 : high ≤ 64) (hw : f p 0 = vd_I w) (w0 : 1 ≤ w ∧ w ≤ 192) (hh : f p 1 = vd_I h) (h0 : 1 ≤ h ∧ h ≤ 192) (hwd : (wd : Int) = vd_pd pl w) (hhd : (hd : Int) = vd_pd pl h) (h1 : first + 8 ≤ 256) (hTb : ∀ t, -128 ≤ T t ∧ T t ≤ 128) (hPb : ∀ a b, 0 ≤ P a b ∧ P a b ≤ 255) (hT : ∀ t, t < 8 → f 57 (first + t) = vd_I (T t)) (hS : ∀ a b, a < wd → b < hd → f s (vd_ax pl a b) = vd_I (P a b)) (h8 : f 54 8 = vd_I (pl : Int)) (h11 : f 54 11 = vd_I (wide : Int)) (h12 : f 54 12 = vd_I (high : Int)) : ∃ (f' : Nat → Nat → Int32), (∀ d Q, vd_wp (d + 1) 106 0 [.ref 54, .ref p, .int (vd_I x), .int (vd_I y), .int (vd_I (first : Int)), vd_U, vd_U, vd_U, vd_U, vd_U, vd_U, vd_U] [] (vd_mf M f) Q = Q (vd_mf M f') (.inl none)) ∧ (∀ j i, j < high + 7 → i < wide → f' 59 (64 * j + i) = vd_I (vd_hr T (vd_ln P wd hd x y j) i)) ∧ (∀ c q, c ≠ 58 → c ≠ 59 → f' c q = f c q) := by
  have hk := hp.1.1
  have bw : 1 ≤ vd_pd pl w ∧ vd_pd pl w ≤ 192 := by unfold vd_pd; split <;> omega
  have bh : 1 ≤ vd_pd pl h ∧ vd_pd pl h ≤ 192 := by unfold vd_pd; split <;> omega
  have hrow : ∀ b, b < hd → vd_ax pl 0 b + wd ≤ 55296 := by
    intro b hb
    unfold vd_ax
    unfold vd_pd at hwd hhd
    split
    · rename_i c
      rw [if_pos c] at hwd hhd
      omega
    · rename_i c
      rw [if_neg c] at hwd hhd
      omega
  obtain ⟨f', p1, p2, p3⟩ := vd_L106j (T := T) (P := P) (x := x) (y := y) hM hp hpl hx hy h2 h3 hrow (by omega) (by omega) h1 hTb hPb (high + 7) 0 f vd_U vd_U vd_U vd_U (by omega) hT hS h8 h11 h12
  have z0 : ((0 : Nat) : Int) = 0 := rfl
  rw [z0, hwd, hhd] at p1
  have P107 := fun (d : Nat) (Q : vd_M → (Option Value ⊕ Nat) → Prop) => vd_P107 (pl := pl) (d := d) (Q := Q) hM hk hw (by omega) w0.2 hpl
  have P108 := fun (d : Nat) (Q : vd_M → (Option Value ⊕ Nat) → Prop) => vd_P108 (pl := pl) (d := d) (Q := Q) hM hk hh (by omega) h0.2 hpl
  refine ⟨f', fun d Q => ?_, fun j i a b => p2 j i (by omega) a b, fun c q a b => p3 c q a (by omega)⟩
  simp (disch := first | assumption | omega) only [vd_S106_0 hM, vd_S106_5 hM, vd_S106_8 hM, vd_S106_17 hM, vd_S106_20 hM, h8, P107, P108, vd_I_sub, p1, vd_rs_v, vd_rs_n]
end VDMD
