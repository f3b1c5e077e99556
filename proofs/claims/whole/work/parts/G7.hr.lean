/-! ===== references of a frame: behind a fault ===== -/
/-- the class from a place on, at these ints -/
def vd_UE {β : Type} (M : vd_M) (T : β → vd_Tg) (m k pc : Nat) (ls st : List Value) (e b : Int) (f : Nat → Nat → Int32) : Prop := ∃ (f' : Nat → Nat → Int32) (p' : Int) (c : β), (∀ d Q, vd_wp (d + m) k pc ls st (vd_mf M f) Q = T c d Q (vd_mf M f')) ∧ vd_pb f' p' e b ∧ vd_fHd f f'
theorem vd_UE.s {β : Type} {M : vd_M} {T : β → vd_Tg} {m k pc pc1 : Nat} {ls st ls1 st1 : List Value} {e b : Int} {f f1 : Nat → Nat → Int32} (hf : vd_fHd f f1) (u : vd_UE M T m k pc1 ls1 st1 e b f1) (h : ∀ d Q, vd_wp (d + m) k pc ls st (vd_mf M f) Q = vd_wp (d + m) k pc1 ls1 st1 (vd_mf M f1) Q) : vd_UE M T m k pc ls st e b f := by
  obtain ⟨f', p', c, q1, q2, q3⟩ := u
  exact ⟨f', p', c, fun d Q => by rw [h, q1], q2, hf.trans q3⟩
/-- the slots' kinds -/
def vd_slk (M : vd_M) : Prop := ∀ r, r < 8 → vd_r M 13 r = none ∨ ∃ o, vd_r M 13 r = some o ∧ vd_k M o = 7 ∧ 197 ≤ o
section VDHR
variable {M N : vd_M} {ow fa lo lf : Nat}
theorem vd_U35t (hM : vd_SC M ow fa lo lf) (x3 : Int32) (a4 : Value) : (∀ r, vd_b01P r → vd_UC M vd_Tn 4 35 135 [.ref 17, .ref 16, .ref 13, .int x3, a4] [.int (vd_I r), .ref 17]) ∧ (∀ r, vd_bnP 2 r → vd_UC M vd_Tn 4 35 144 [.ref 17, .ref 16, .ref 13, .int x3, a4] [.int (vd_I r), .ref 17]) ∧ vd_UC M vd_Tn 4 35 161 [.ref 17, .ref 16, .ref 13, .int x3, a4] [] ∧ vd_UC M vd_Tn 4 35 130 [.ref 17, .ref 16, .ref 13, .int x3, a4] [] := by
  have u161 : vd_UC M vd_Tn 4 35 161 [.ref 17, .ref 16, .ref 13, .int x3, a4] [] := vd_UC.ret () vd_okI (fun d f Q => by simp only [vd_S35_161 hM, vd_Tn, vd_TR])
  have u155 : vd_UC M vd_Tn 4 35 155 [.ref 17, .ref 16, .ref 13, .int x3, a4] [] := vd_UC.call (vd_U31 hM 3 (x := 6) (by decide) (by decide)) vd_okI u161 (fun d f Q => by simp only [vd_S35_155 hM, vd_S35_158 hM])
  have u144 : ∀ r, vd_bnP 2 r → vd_UC M vd_Tn 4 35 144 [.ref 17, .ref 16, .ref 13, .int x3, a4] [.int (vd_I r), .ref 17] := fun r hr => by
    have hr := hr.n (z := 4) (by decide)
    by_cases c : r = 3
    · exact vd_UC.go (vd_ok1 (c := 17) (i := 11) (v := vd_I r) (by omega)) u155 (fun d f Q => by simp (disch := omega) only [vd_S35_144 hM, vd_I_toInt, c, eq_self, if_true])
    · exact vd_UC.go (vd_ok1 (c := 17) (i := 11) (v := vd_I r) (by omega)) u161 (fun d f Q => by simp (disch := omega) only [vd_S35_144 hM, vd_I_toInt, c, if_false])
  have u135 : ∀ r, vd_b01P r → vd_UC M vd_Tn 4 35 135 [.ref 17, .ref 16, .ref 13, .int x3, a4] [.int (vd_I r), .ref 17] := fun r hr => by
    have hok : vd_fok .boolean (vd_I r) = true := by rcases hr with rfl | rfl <;> decide
    exact vd_UC.ask (vd_U30 hM 3 2 (by decide) (by decide)) (vd_ok1 (c := 17) (i := 10) (v := vd_I r) (by omega)) u144 (fun d f Q => by simp (disch := assumption) only [vd_S35_135 hM, vd_S35_141 hM])
  exact ⟨u135, u144, u161, vd_UC.ask (vd_U32 hM 3 (by decide)) vd_okI u135 (fun d f Q => by simp only [vd_S35_130 hM, vd_S35_132 hM])⟩
/-- the second loop, behind a fault -/
theorem vd_U35b (hM : vd_SC M ow fa lo lf) (hs : vd_slk M) : ∀ (m i : Nat), i + m = 3 → (∀ (a4 : Value) (f : Nat → Nat → Int32) (p e b : Int), vd_pb f p e b → b ≠ 0 → vd_J18 3 f → vd_UE M vd_Tn 4 35 53 [.ref 17, .ref 16, .ref 13, .int (vd_I (i : Int)), a4] [] e b f) ∧ (i < 3 → ∀ (o : Nat) (f : Nat → Nat → Int32) (p e b : Int), vd_k M o = 7 → 197 ≤ o → vd_pb f p e b → b ≠ 0 → vd_J18 3 f → vd_UE M vd_Tn 4 35 106 [.ref 17, .ref 16, .ref 13, .int (vd_I (i : Int)), .ref o] [] e b f) := by
  intro m
  induction m with
  | zero =>
    intro i hi
    refine ⟨fun a4 f p e b hp hb _ => ?_, fun h => absurd h (by omega)⟩
    refine vd_UE.s (vd_fHd.refl f) ((vd_U35t hM (vd_I (i : Int)) a4).2.2.2 f p e b hp hb) (fun d Q => ?_)
    simp (disch := omega) only [vd_S35_53 hM, vd_I_toInt, show ¬ ((i : Int) < 3) by omega, if_false]
  | succ m ih =>
    intro i hi
    have ei : (i : Int) + 1 = ((i + 1 : Nat) : Int) := by omega
    have go : ∀ (o : Nat) (f1 : Nat → Nat → Int32) (p e b : Int), vd_k M o = 7 → 197 ≤ o → vd_pb f1 p e b → b ≠ 0 → vd_J18 3 f1 → vd_UE M vd_Tn 4 35 106 [.ref 17, .ref 16, .ref 13, .int (vd_I (i : Int)), .ref o] [] e b f1 := fun o f1 p e b h1 h2 hp1 hb hJ => by
      have hf : vd_fU f1 (vd_up (vd_up f1 17 5 (f1 o 0)) 17 6 ((vd_up f1 17 5 (f1 o 0)) o 1)) := ((vd_fU.refl f1).up (by omega)).up (by omega)
      refine vd_UE.s hf.1 ((ih (i + 1) (by omega)).1 (.ref o) _ p e b (hp1.keepU hf.2) hb (hJ.keep (fun j => by rw [vd_up_ne (by omega), vd_up_ne (by omega)]))) (fun d Q => ?_)
      simp (disch := first | assumption | omega) only [vd_S35_106 hM, vd_S35_107 hM, vd_S35_124 hM, vd_I_add, ei]
    refine ⟨fun a4 f p e b hp hb hJ => ?_, fun _ => go⟩
    obtain ⟨r, hr, hr2⟩ := hJ i (by omega)
    have head : ∀ d Q, vd_wp (d + 4) 35 53 [.ref 17, .ref 16, .ref 13, .int (vd_I (i : Int)), a4] [] (vd_mf M f) Q = vd_wp (d + 4) 35 66 [.ref 17, .ref 16, .ref 13, .int (vd_I (i : Int)), a4] [vd_vr (vd_r M 13 r)] (vd_mf M f) Q := fun d Q => by
      simp (disch := omega) only [vd_S35_53 hM, vd_S35_58 hM, vd_S35_64 hM, vd_S35_65 hM, Int.toNat_natCast, hr2, vd_I_toInt, show ((i : Int) < 3) by omega, if_true]
    rcases hs r hr with h0 | ⟨o, h0, h1, h2⟩
    · refine vd_UE.s (vd_fHd.refl f) ((ih (i + 1) (by omega)).1 .null f p e b hp hb hJ) (fun d Q => ?_)
      rw [head, h0, vd_vr_none]
      simp only [vd_S35_66n hM, vd_S35_68n hM, vd_S35_70n hM, vd_S35_124 hM, vd_I_add, ei]
    · have m101 : vd_UE M vd_Tn 4 35 101 [.ref 17, .ref 16, .ref 13, .int (vd_I (i : Int)), .ref o] [] e b f := by
        obtain ⟨f1, a1, a2, a3⟩ := vd_meetU hM hp (x := 5) (by decide) (by decide)
        rw [if_neg hb] at a2
        refine vd_UE.s a3.hd (go o f1 p e b h1 h2 a2 hb (hJ.keep (fun j => a3 18 j (by omega)))) (fun d Q => ?_)
        simp only [vd_S35_101 hM, vd_S35_103 hM, a1, vd_rs_v, vd_rs_n]
      have m106 := go o f p e b h1 h2 hp hb hJ
      have head2 : ∀ d Q, vd_wp (d + 4) 35 53 [.ref 17, .ref 16, .ref 13, .int (vd_I (i : Int)), a4] [] (vd_mf M f) Q = vd_wp (d + 4) 35 73 [.ref 17, .ref 16, .ref 13, .int (vd_I (i : Int)), .ref o] [] (vd_mf M f) Q := fun d Q => by
        rw [head, h0, vd_vr_some]
        simp only [vd_S35_66 hM, vd_S35_70 hM]
      by_cases c0 : 0 < (i : Int)
      · by_cases c1 : (f o 0).toInt = (f 17 5).toInt
        · by_cases c2 : (f o 1).toInt = (f 17 6).toInt
          · refine vd_UE.s (vd_fHd.refl f) m106 (fun d Q => ?_)
            rw [head2]
            simp (disch := first | assumption | omega) only [vd_S35_73 hM, vd_S35_77 hM, vd_S35_89 hM, vd_I_toInt, c0, c1, c2, if_true]
          · refine vd_UE.s (vd_fHd.refl f) m101 (fun d Q => ?_)
            rw [head2]
            simp (disch := first | assumption | omega) only [vd_S35_73 hM, vd_S35_77 hM, vd_S35_89 hM, vd_I_toInt, c0, c1, c2, if_true, if_false]
        · refine vd_UE.s (vd_fHd.refl f) m101 (fun d Q => ?_)
          rw [head2]
          simp (disch := first | assumption | omega) only [vd_S35_73 hM, vd_S35_77 hM, vd_I_toInt, c0, c1, if_true, if_false]
      · refine vd_UE.s (vd_fHd.refl f) m106 (fun d Q => ?_)
        rw [head2]
        simp (disch := first | assumption | omega) only [vd_S35_73 hM, vd_I_toInt, c0, if_false]
/-- the first loop, behind a fault: from its head, from 34, from 17 and from 44 -/
theorem vd_U35a (hM : vd_SC M ow fa lo lf) (hs : vd_slk M) : ∀ (m i : Nat), i + m = 3 → (∀ (a4 : Value) (f : Nat → Nat → Int32) (p e b : Int), vd_pb f p e b → b ≠ 0 → vd_J18 i f → vd_UE M vd_Tn 4 35 2 [.ref 17, .ref 16, .ref 13, .int (vd_I (i : Int)), a4] [] e b f) ∧ (i < 3 → (∀ (a4 : Value) (f : Nat → Nat → Int32) (p e b r : Int), vd_pb f p e b → b ≠ 0 → vd_J18 (i + 1) f → vd_bnP 1 r → vd_UE M vd_Tn 4 35 44 [.ref 17, .ref 16, .ref 13, .int (vd_I (i : Int)), a4] [.int (vd_I r), .int (vd_I (i : Int)), .ref 19] e b f) ∧ (∀ (a4 : Value) (f : Nat → Nat → Int32) (p e b : Int), vd_pb f p e b → b ≠ 0 → vd_J18 (i + 1) f → vd_UE M vd_Tn 4 35 34 [.ref 17, .ref 16, .ref 13, .int (vd_I (i : Int)), a4] [] e b f) ∧ (∀ (a4 : Value) (f : Nat → Nat → Int32) (p e b r : Int), vd_pb f p e b → b ≠ 0 → vd_J18 i f → vd_bnP 3 r → vd_UE M vd_Tn 4 35 17 [.ref 17, .ref 16, .ref 13, .int (vd_I (i : Int)), a4] [.int (vd_I r), .int (vd_I (i : Int)), .ref 18] e b f)) := by
  intro m
  induction m with
  | zero =>
    intro i hi
    have hi : i = 3 := by omega
    subst hi
    refine ⟨fun a4 f p e b hp hb hJ => ?_, fun h => absurd h (by omega)⟩
    refine vd_UE.s (vd_fHd.refl f) ((vd_U35b hM hs 3 0 rfl).1 a4 f p e b hp hb hJ) (fun d Q => ?_)
    simp (disch := omega) only [vd_S35_2 hM, vd_S35_51 hM, vd_I_toInt, show ¬ (((3 : Nat) : Int) < 3) by decide, if_false]
    rfl
  | succ m ih =>
    intro i hi
    have ei : (i : Int) + 1 = ((i + 1 : Nat) : Int) := by omega
    have u44 : ∀ (a4 : Value) (f : Nat → Nat → Int32) (p e b r : Int), vd_pb f p e b → b ≠ 0 → vd_J18 (i + 1) f → vd_bnP 1 r → vd_UE M vd_Tn 4 35 44 [.ref 17, .ref 16, .ref 13, .int (vd_I (i : Int)), a4] [.int (vd_I r), .int (vd_I (i : Int)), .ref 19] e b f := fun a4 f p e b r hp hb hJ _ => by
      have hf : vd_fU f (vd_up f 19 i (vd_I r)) := (vd_fU.refl f).up (by omega)
      refine vd_UE.s hf.1 ((ih (i + 1) (by omega)).1 a4 _ p e b (hp.keepU hf.2) hb (hJ.keep (fun j => by rw [vd_up_ne (by omega)]))) (fun d Q => ?_)
      simp (disch := omega) only [vd_S35_44 hM, Int.toNat_natCast, vd_I_add, ei]
    have u34 : ∀ (a4 : Value) (f : Nat → Nat → Int32) (p e b : Int), vd_pb f p e b → b ≠ 0 → vd_J18 (i + 1) f → vd_UE M vd_Tn 4 35 34 [.ref 17, .ref 16, .ref 13, .int (vd_I (i : Int)), a4] [] e b f := fun a4 f p e b hp hb hJ => by
      obtain ⟨f1, p1, b1, r, a1, a2, a3, a4', a5⟩ := vd_U30 hM 3 1 (by decide) (by decide) f p e b hp
      rw [a4' hb] at a3
      refine vd_UE.s a5.hd (u44 a4 f1 p1 e b r a3 hb (hJ.keep (fun j => a5 18 j (by omega))) a2) (fun d Q => ?_)
      simp only [vd_S35_34 hM, vd_S35_41 hM, a1, vd_rs_v, vd_rs_n]
    have u17 : ∀ (a4 : Value) (f : Nat → Nat → Int32) (p e b r : Int), vd_pb f p e b → b ≠ 0 → vd_J18 i f → vd_bnP 3 r → vd_UE M vd_Tn 4 35 17 [.ref 17, .ref 16, .ref 13, .int (vd_I (i : Int)), a4] [.int (vd_I r), .int (vd_I (i : Int)), .ref 18] e b f := fun a4 f p e b r hp hb hJ hr => by
      have hr := hr.n (z := 8) (by decide)
      obtain ⟨rn, rfl⟩ := Int.eq_ofNat_of_zero_le hr.1
      have hf : vd_fU f (vd_up f 18 i (vd_I (rn : Int))) := (vd_fU.refl f).up18 (by omega)
      have hJ1 : vd_J18 (i + 1) (vd_up f 18 i (vd_I (rn : Int))) := fun j hj => by
        by_cases c : j = i
        · subst c
          exact ⟨rn, by omega, vd_up_eq _ _ _ _⟩
        · obtain ⟨r, h1, h2⟩ := hJ j (by omega)
          exact ⟨r, h1, by rw [vd_up_ne (by omega)]; exact h2⟩
      have hp1 := hp.keepU hf.2
      have head : ∀ d Q, vd_wp (d + 4) 35 17 [.ref 17, .ref 16, .ref 13, .int (vd_I (i : Int)), a4] [.int (vd_I (rn : Int)), .int (vd_I (i : Int)), .ref 18] (vd_mf M f) Q = vd_wp (d + 4) 35 26 [.ref 17, .ref 16, .ref 13, .int (vd_I (i : Int)), a4] [vd_vr (vd_r M 13 rn)] (vd_mf M (vd_up f 18 i (vd_I (rn : Int)))) Q := fun d Q => by
        simp (disch := omega) only [vd_S35_17 hM, vd_S35_24 hM, vd_S35_25 hM, Int.toNat_natCast, vd_up_eq]
      rcases hs rn (by omega) with h0 | ⟨o, h0, _, _⟩
      · obtain ⟨f1, a1, a2, a3⟩ := vd_meetU hM hp1 (x := 3) (by decide) (by decide)
        rw [if_neg hb] at a2
        refine vd_UE.s (hf.1.trans a3.hd) (u34 a4 f1 p e b a2 hb (hJ1.keep (fun j => a3 18 j (by omega)))) (fun d Q => ?_)
        rw [head, h0, vd_vr_none]
        simp only [vd_S35_26n hM, vd_S35_29 hM, vd_S35_31 hM, a1, vd_rs_v, vd_rs_n]
      · refine vd_UE.s hf.1 (u34 a4 _ p e b hp1 hb hJ1) (fun d Q => ?_)
        rw [head, h0, vd_vr_some]
        simp only [vd_S35_26 hM]
    refine ⟨fun a4 f p e b hp hb hJ => ?_, fun _ => ⟨u44, u34, u17⟩⟩
    obtain ⟨f1, p1, b1, r, a1, a2, a3, a4', a5⟩ := vd_U30 hM 3 3 (by decide) (by decide) f p e b hp
    rw [a4' hb] at a3
    refine vd_UE.s a5.hd (u17 a4 f1 p1 e b r a3 hb (hJ.keep (fun j => a5 18 j (by omega))) a2) (fun d Q => ?_)
    simp (disch := omega) only [vd_S35_2 hM, vd_S35_7 hM, vd_S35_14 hM, vd_I_toInt, show ((i : Int) < 3) by omega, if_true, a1, vd_rs_v, vd_rs_n]
/-- references, behind a fault -/
theorem vd_B180 (hN : vd_SR N) : (∀ (x1 : Int32) (a2 : Value) (s : Int), vd_bnP 3 s → vd_BH N (fun _ : Unit => vd_TR) 3 180 12 [.ref 63, .int x1, a2] [.int (vd_I s)]) ∧ (∀ x1 x2 : Int32, vd_BH N (fun _ : Unit => vd_TR) 3 180 32 [.ref 63, .int x1, .int x2] []) ∧ (∀ (i : Nat) (x2 : Int32) (s : Int), i < 3 → vd_bnP 1 s → vd_BH N (fun _ : Unit => vd_TR) 3 180 62 [.ref 63, .int (vd_I (i : Int)), .int x2] [.int (vd_I s), .int (vd_I (i : Int)), .ref 84]) ∧ (∀ x1 x2 : Int32, vd_BH N (fun _ : Unit => vd_TR) 3 180 170 [.ref 63, .int x1, .int x2] []) ∧ (∀ (x1 x2 : Int32) (s : Int), vd_b01P s → vd_BH N (fun _ : Unit => vd_TR) 3 180 209 [.ref 63, .int x1, .int x2] [.int (vd_I s), .ref 63]) ∧ (∀ (x1 x2 : Int32) (s : Int), vd_bnP 2 s → vd_BH N (fun _ : Unit => vd_TR) 3 180 218 [.ref 63, .int x1, .int x2] [.int (vd_I s), .ref 63]) ∧ (∀ x1 x2 : Int32, vd_BH N (fun _ : Unit => vd_TR) 3 180 240 [.ref 63, .int x1, .int x2] []) := by
  have b32 : ∀ x1 x2 : Int32, vd_BH N (fun _ : Unit => vd_TR) 3 180 32 [.ref 63, .int x1, .int x2] [] := fun x1 x2 => vd_BH.ret () vd_okJ (fun d f Q hz => by simp only [vd_S180_32 hN, vd_S180_39 hN, vd_TR, hz, if_false])
  have b28 : ∀ (x1 x2 : Int32) (y : Int), y = 0 ∨ y = 1 → vd_BH N (fun _ : Unit => vd_TR) 3 180 28 [.ref 63, .int x1, .int x2] [.int (vd_I y), .ref 63] := fun x1 x2 y hy => vd_BH.call (vd_B176 hN 2 (x := 3) (y := y) (by decide) (by decide) hy) vd_okJ (b32 x1 x2) (fun d f Q _ => by simp only [vd_S180_28 hN, vd_S180_29 hN])
  have b12 : ∀ (x1 : Int32) (a2 : Value) (s : Int), vd_bnP 3 s → vd_BH N (fun _ : Unit => vd_TR) 3 180 12 [.ref 63, .int x1, a2] [.int (vd_I s)] := fun x1 a2 s hs => by
    have hs := hs.n (z := 8) (by decide)
    cases hr : vd_r N 66 s.toNat with
    | none => exact vd_BH.go vd_okJ (b28 x1 (vd_I s) 0 (Or.inl rfl)) (fun d f Q _ => by simp (disch := omega) only [vd_S180_12 hN, vd_S180_19 hN, hr, vd_vr_none, vd_S180_20n hN, vd_S180_27 hN])
    | some o => exact vd_BH.go vd_okJ (b28 x1 (vd_I s) 1 (Or.inr rfl)) (fun d f Q _ => by simp (disch := omega) only [vd_S180_12 hN, vd_S180_19 hN, hr, vd_vr_some, vd_S180_20 hN, vd_S180_23 hN])
  have b170 : ∀ x1 x2 : Int32, vd_BH N (fun _ : Unit => vd_TR) 3 180 170 [.ref 63, .int x1, .int x2] [] := fun x1 x2 => vd_BH.ret () vd_okJ (fun d f Q hz => by simp only [vd_S180_170 hN, vd_S180_177 hN, vd_TR, hz, if_false])
  have b62 : ∀ (i : Nat) (x2 : Int32) (s : Int), i < 3 → vd_bnP 1 s → vd_BH N (fun _ : Unit => vd_TR) 3 180 62 [.ref 63, .int (vd_I (i : Int)), .int x2] [.int (vd_I s), .int (vd_I (i : Int)), .ref 84] := fun i x2 s hi hs => by
    have ei : (i : Int) + 1 = ((i + 1 : Nat) : Int) := by omega
    by_cases c : i + 1 < 3
    · exact vd_BH.ask (vd_B175 hN 2 3 (by decide) (by decide)) (vd_okg1 (c := 84) (i := i) (v := vd_I s) (by unfold vd_inH; omega) (by omega)) (b12 (vd_I ((i + 1 : Nat) : Int)) (.int x2) 0 (by unfold vd_bnP; decide)) (fun d f Q _ => by simp (disch := omega) only [vd_S180_62 hN, vd_S180_2 hN, vd_S180_7 hN, vd_S180_9 hN, Int.toNat_natCast, vd_I_add, ei, vd_I_toInt, show (((i + 1 : Nat) : Int) < 3) by omega, if_true])
    · exact vd_BH.call (vd_B176 hN 2 (x := 5) (y := 1) (by decide) (by decide) (Or.inr rfl)) (vd_okg1 (c := 84) (i := i) (v := vd_I s) (by unfold vd_inH; omega) (by omega)) (b170 (vd_I ((i + 1 : Nat) : Int)) x2) (fun d f Q hz => by
        have hz' : ¬ ((vd_up f 84 i (vd_I s)) 63 76).toInt = 0 := by rw [vd_up_ne (by omega)]; exact hz
        simp (disch := omega) only [vd_S180_62 hN, vd_S180_2 hN, vd_S180_69 hN, vd_S180_161 hN, vd_S180_166 hN, vd_S180_167 hN, Int.toNat_natCast, vd_I_add, ei, vd_I_toInt, show ¬ (((i + 1 : Nat) : Int) < 3) by omega, if_false, hz'])
  have b240 : ∀ x1 x2 : Int32, vd_BH N (fun _ : Unit => vd_TR) 3 180 240 [.ref 63, .int x1, .int x2] [] := fun x1 x2 => vd_BH.ret () vd_okJ (fun d f Q _ => by simp only [vd_S180_240 hN, vd_TR])
  have b218 : ∀ (x1 x2 : Int32) (s : Int), vd_bnP 2 s → vd_BH N (fun _ : Unit => vd_TR) 3 180 218 [.ref 63, .int x1, .int x2] [.int (vd_I s), .ref 63] := fun x1 x2 s hs => by
    have hs := hs.n (z := 4) (by decide)
    by_cases c : s < 3
    · exact vd_BH.call (vd_B176 hN 2 (x := 6) (y := 1) (by decide) (by decide) (Or.inr rfl)) (vd_okg1 (c := 63) (i := 40) (v := vd_I s) (by unfold vd_inH; omega) (by omega)) (b240 x1 x2) (fun d f Q _ => by simp (disch := omega) only [vd_S180_218 hN, vd_S180_230 hN, vd_S180_235 hN, vd_S180_237 hN, vd_I_toInt, c, if_true])
    · exact vd_BH.call (vd_B176 hN 2 (x := 6) (y := 0) (by decide) (by decide) (Or.inl rfl)) (vd_okg1 (c := 63) (i := 40) (v := vd_I s) (by unfold vd_inH; omega) (by omega)) (b240 x1 x2) (fun d f Q _ => by simp (disch := omega) only [vd_S180_218 hN, vd_S180_234 hN, vd_S180_235 hN, vd_S180_237 hN, vd_I_toInt, c, if_false])
  have b209 : ∀ (x1 x2 : Int32) (s : Int), vd_b01P s → vd_BH N (fun _ : Unit => vd_TR) 3 180 209 [.ref 63, .int x1, .int x2] [.int (vd_I s), .ref 63] := fun x1 x2 s hs => by
    have hok : vd_fok .boolean (vd_I s) = true := by rcases hs with rfl | rfl <;> decide
    exact vd_BH.ask (vd_B175 hN 2 2 (by decide) (by decide)) (vd_okg1 (c := 63) (i := 34) (v := vd_I s) (by unfold vd_inH; omega) (by omega)) (b218 x1 x2 0 (by unfold vd_bnP; decide)) (fun d f Q _ => by simp (disch := assumption) only [vd_S180_209 hN, vd_S180_215 hN])
  exact ⟨b12, b32, b62, b170, b209, b218, b240⟩
theorem vd_U35w (hM : vd_SC M ow fa lo lf) (hs : vd_slk M) : vd_UC M vd_Tn 4 35 0 [.ref 17, .ref 16, .ref 13, vd_U, vd_U] [] := fun f p e b hp hb => vd_UE.s (vd_fHd.refl f) ((vd_U35a hM hs 3 0 rfl).1 vd_U f p e b hp hb (fun j hj => absurd hj (by omega))) (fun d Q => by simp only [vd_S35_0 hM]; rfl)
theorem vd_B180w (hN : vd_SR N) : vd_BH N (fun _ : Unit => vd_TR) 3 180 0 [.ref 63, vd_U, vd_U] [] := vd_BH.ask (vd_B175 hN 2 3 (by decide) (by decide)) vd_okJ ((vd_B180 hN).1 (vd_I 0) vd_U 0 (by unfold vd_bnP; decide)) (fun d f Q _ => by simp (disch := omega) only [vd_S180_0 hN, vd_S180_2 hN, vd_S180_7 hN, vd_S180_9 hN, vd_I_toInt, show ((0 : Int) < 3) by decide, if_true])
end VDHR
