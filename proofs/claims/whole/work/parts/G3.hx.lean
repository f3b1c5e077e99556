/-! ===== features ===== -/
section VDHX2
variable {M N : vd_M} {ow fa lo lf : Nat}
theorem vd_P44 (hM : vd_SC M ow fa lo lf) {s q : Nat} {f : Nat → Nat → Int32} {x : Int32} (hs : s < 8) (hq : q < 4) (d : Nat) (Q : vd_M → (Option Value ⊕ Nat) → Prop) : vd_wp d 44 0 [.ref 27, .int (vd_I (s : Int)), .int (vd_I (q : Int)), .int x] [] (vd_mf M f) Q = Q (vd_mf M (vd_up (vd_up f 32 (4 * s + q) (vd_I 1)) 33 (4 * s + q) x)) (.inl none) := by
  have ei : ((s : Int) * 4 + (q : Int)).toNat = 4 * s + q := by omega
  simp (disch := omega) only [vd_S44_0 hM, vd_S44_10 hM, vd_S44_21 hM, vd_I_mul, vd_I_add, ei]
theorem vd_ok2 {c i c' i' : Nat} {v v' : Int32} (h : (c = 17 ∧ i ≤ 16) ∨ c = 19 ∨ (27 ≤ c ∧ c ≤ 33)) (h' : (c' = 17 ∧ i' ≤ 16) ∨ c' = 19 ∨ (27 ≤ c' ∧ c' ≤ 33)) : vd_okF (fun f => vd_up (vd_up f c i v) c' i' v') := fun f => ((vd_fU.refl f).up h).up h'
theorem vd_okg2 {c i c' i' : Nat} {v v' : Int32} (h : vd_inH c i) (hi : c ≠ 63 ∨ i < 74 ∨ 76 < i) (h' : vd_inH c' i') (hi' : c' ≠ 63 ∨ i' < 74 ∨ 76 < i') : vd_okG (fun f => vd_up (vd_up f c i v) c' i' v') := fun f => ((vd_gU.refl f).up h hi).up h' hi'
def vd_U43P (M : vd_M) (s : Nat) : Prop := (∀ r : Int, vd_b01P r → vd_UC M vd_Tn 2 43 36 [.ref 27, .ref 16, .int (vd_I (s : Int))] [.int (vd_I r)]) ∧ (∀ r : Int, vd_bsP 8 r → vd_UC M vd_Tn 2 43 48 [.ref 27, .ref 16, .int (vd_I (s : Int))] [.int (vd_I r), .int (vd_I 0), .int (vd_I (s : Int)), .ref 27]) ∧ (∀ r : Int, vd_b01P r → vd_UC M vd_Tn 2 43 55 [.ref 27, .ref 16, .int (vd_I (s : Int))] [.int (vd_I r)]) ∧ (∀ r : Int, vd_bsP 6 r → vd_UC M vd_Tn 2 43 67 [.ref 27, .ref 16, .int (vd_I (s : Int))] [.int (vd_I r), .int (vd_I 1), .int (vd_I (s : Int)), .ref 27]) ∧ (∀ r : Int, vd_b01P r → vd_UC M vd_Tn 2 43 74 [.ref 27, .ref 16, .int (vd_I (s : Int))] [.int (vd_I r)]) ∧ (∀ r : Int, vd_bnP 2 r → vd_UC M vd_Tn 2 43 85 [.ref 27, .ref 16, .int (vd_I (s : Int))] [.int (vd_I r), .int (vd_I 2), .int (vd_I (s : Int)), .ref 27]) ∧ (∀ r : Int, vd_b01P r → vd_UC M vd_Tn 2 43 92 [.ref 27, .ref 16, .int (vd_I (s : Int))] [.int (vd_I r)])
theorem vd_U43l (hM : vd_SC M ow fa lo lf) : ∀ (m s : Nat), s + m = 8 → vd_UC M vd_Tn 2 43 26 [.ref 27, .ref 16, .int (vd_I (s : Int))] [] ∧ (s < 8 → vd_U43P M s) := by
  intro m
  induction m with
  | zero =>
    intro s hs
    refine ⟨vd_UC.ret () vd_okI (fun d f Q => ?_), fun h => absurd h (by omega)⟩
    simp (disch := omega) only [vd_S43_26 hM, vd_S43_108 hM, vd_Tn, vd_TR, vd_I_toInt, show ¬ ((s : Int) < 8) by omega, if_false]
  | succ m ih =>
    intro s hs
    have hs8 : s < 8 := by omega
    have ei : (s : Int) + 1 = ((s + 1 : Nat) : Int) := by omega
    have n3 : vd_UC M vd_Tn 2 43 102 [.ref 27, .ref 16, .int (vd_I (s : Int))] [] := vd_UC.s (ih (s + 1) (by omega)).1 (fun d f Q => by simp only [vd_S43_102 hM, vd_I_add, ei])
    have p3 : ∀ (f : Nat → Nat → Int32) (x : Int32) d Q, vd_wp d 44 0 [.ref 27, .int (vd_I (s : Int)), .int (vd_I 3), .int x] [] (vd_mf M f) Q = Q (vd_mf M (vd_up (vd_up f 32 (4 * s + 3) (vd_I 1)) 33 (4 * s + 3) x)) (.inl none) := fun f x d Q => vd_P44 hM (q := 3) hs8 (by decide) d Q
    have r3 : ∀ r : Int, vd_b01P r → vd_UC M vd_Tn 2 43 92 [.ref 27, .ref 16, .int (vd_I (s : Int))] [.int (vd_I r)] := fun r hr => by
      rcases hr with rfl | rfl
      · exact vd_UC.s n3 (fun d f Q => by simp (disch := omega) only [vd_S43_92 hM, vd_I_toInt, eq_self, if_true])
      · exact vd_UC.go (vd_ok2 (c := 32) (i := 4 * s + 3) (v := vd_I 1) (c' := 33) (i' := 4 * s + 3) (v' := vd_I 1) (by omega) (by omega)) n3 (fun d f Q => by simp (disch := omega) only [vd_S43_92 hM, vd_S43_95 hM, vd_S43_99 hM, p3, vd_rs_v, vd_rs_n, vd_I_toInt, show ¬ ((1 : Int) = 0) by decide, if_false])
    have n2 : vd_UC M vd_Tn 2 43 88 [.ref 27, .ref 16, .int (vd_I (s : Int))] [] := vd_UC.ask (vd_U32 hM 1 (by decide)) vd_okI r3 (fun d f Q => by simp only [vd_S43_88 hM, vd_S43_89 hM])
    have p2 : ∀ (f : Nat → Nat → Int32) (x : Int32) d Q, vd_wp d 44 0 [.ref 27, .int (vd_I (s : Int)), .int (vd_I 2), .int x] [] (vd_mf M f) Q = Q (vd_mf M (vd_up (vd_up f 32 (4 * s + 2) (vd_I 1)) 33 (4 * s + 2) x)) (.inl none) := fun f x d Q => vd_P44 hM (q := 2) hs8 (by decide) d Q
    have a2 : ∀ r : Int, vd_bnP 2 r → vd_UC M vd_Tn 2 43 85 [.ref 27, .ref 16, .int (vd_I (s : Int))] [.int (vd_I r), .int (vd_I 2), .int (vd_I (s : Int)), .ref 27] := fun r _ => vd_UC.go (vd_ok2 (c := 32) (i := 4 * s + 2) (v := vd_I 1) (c' := 33) (i' := 4 * s + 2) (v' := vd_I r) (by omega) (by omega)) n2 (fun d f Q => by simp only [vd_S43_85 hM, p2, vd_rs_v, vd_rs_n])
    have r2 : ∀ r : Int, vd_b01P r → vd_UC M vd_Tn 2 43 74 [.ref 27, .ref 16, .int (vd_I (s : Int))] [.int (vd_I r)] := fun r hr => by
      rcases hr with rfl | rfl
      · exact vd_UC.s n2 (fun d f Q => by simp (disch := omega) only [vd_S43_74 hM, vd_I_toInt, eq_self, if_true])
      · exact vd_UC.ask (vd_U30 hM 1 2 (by decide) (by decide)) vd_okI a2 (fun d f Q => by simp (disch := omega) only [vd_S43_74 hM, vd_S43_77 hM, vd_S43_82 hM, vd_I_toInt, show ¬ ((1 : Int) = 0) by decide, if_false])
    have n1 : vd_UC M vd_Tn 2 43 70 [.ref 27, .ref 16, .int (vd_I (s : Int))] [] := vd_UC.ask (vd_U32 hM 1 (by decide)) vd_okI r2 (fun d f Q => by simp only [vd_S43_70 hM, vd_S43_71 hM])
    have p1 : ∀ (f : Nat → Nat → Int32) (x : Int32) d Q, vd_wp d 44 0 [.ref 27, .int (vd_I (s : Int)), .int (vd_I 1), .int x] [] (vd_mf M f) Q = Q (vd_mf M (vd_up (vd_up f 32 (4 * s + 1) (vd_I 1)) 33 (4 * s + 1) x)) (.inl none) := fun f x d Q => vd_P44 hM (q := 1) hs8 (by decide) d Q
    have a1 : ∀ r : Int, vd_bsP 6 r → vd_UC M vd_Tn 2 43 67 [.ref 27, .ref 16, .int (vd_I (s : Int))] [.int (vd_I r), .int (vd_I 1), .int (vd_I (s : Int)), .ref 27] := fun r _ => vd_UC.go (vd_ok2 (c := 32) (i := 4 * s + 1) (v := vd_I 1) (c' := 33) (i' := 4 * s + 1) (v' := vd_I r) (by omega) (by omega)) n1 (fun d f Q => by simp only [vd_S43_67 hM, p1, vd_rs_v, vd_rs_n])
    have r1 : ∀ r : Int, vd_b01P r → vd_UC M vd_Tn 2 43 55 [.ref 27, .ref 16, .int (vd_I (s : Int))] [.int (vd_I r)] := fun r hr => by
      rcases hr with rfl | rfl
      · exact vd_UC.s n1 (fun d f Q => by simp (disch := omega) only [vd_S43_55 hM, vd_I_toInt, eq_self, if_true])
      · exact vd_UC.ask (vd_U40 hM 1 (by decide) 6 (by decide) (by decide)) vd_okI a1 (fun d f Q => by simp (disch := omega) only [vd_S43_55 hM, vd_S43_58 hM, vd_S43_64 hM, vd_I_toInt, show ¬ ((1 : Int) = 0) by decide, if_false])
    have n0 : vd_UC M vd_Tn 2 43 51 [.ref 27, .ref 16, .int (vd_I (s : Int))] [] := vd_UC.ask (vd_U32 hM 1 (by decide)) vd_okI r1 (fun d f Q => by simp only [vd_S43_51 hM, vd_S43_52 hM])
    have p0 : ∀ (f : Nat → Nat → Int32) (x : Int32) d Q, vd_wp d 44 0 [.ref 27, .int (vd_I (s : Int)), .int (vd_I 0), .int x] [] (vd_mf M f) Q = Q (vd_mf M (vd_up (vd_up f 32 (4 * s + 0) (vd_I 1)) 33 (4 * s + 0) x)) (.inl none) := fun f x d Q => vd_P44 hM (q := 0) hs8 (by decide) d Q
    have a0 : ∀ r : Int, vd_bsP 8 r → vd_UC M vd_Tn 2 43 48 [.ref 27, .ref 16, .int (vd_I (s : Int))] [.int (vd_I r), .int (vd_I 0), .int (vd_I (s : Int)), .ref 27] := fun r _ => vd_UC.go (vd_ok2 (c := 32) (i := 4 * s + 0) (v := vd_I 1) (c' := 33) (i' := 4 * s + 0) (v' := vd_I r) (by omega) (by omega)) n0 (fun d f Q => by simp only [vd_S43_48 hM, p0, vd_rs_v, vd_rs_n])
    have r0 : ∀ r : Int, vd_b01P r → vd_UC M vd_Tn 2 43 36 [.ref 27, .ref 16, .int (vd_I (s : Int))] [.int (vd_I r)] := fun r hr => by
      rcases hr with rfl | rfl
      · exact vd_UC.s n0 (fun d f Q => by simp (disch := omega) only [vd_S43_36 hM, vd_I_toInt, eq_self, if_true])
      · exact vd_UC.ask (vd_U40 hM 1 (by decide) 8 (by decide) (by decide)) vd_okI a0 (fun d f Q => by simp (disch := omega) only [vd_S43_36 hM, vd_S43_39 hM, vd_S43_45 hM, vd_I_toInt, show ¬ ((1 : Int) = 0) by decide, if_false])
    refine ⟨vd_UC.ask (vd_U32 hM 1 (by decide)) vd_okI r0 (fun d f Q => ?_), fun _ => ⟨r0, a0, r1, a1, r2, a2, r3⟩⟩
    simp (disch := omega) only [vd_S43_26 hM, vd_S43_32 hM, vd_S43_33 hM, vd_I_toInt, show ((s : Int) < 8) by omega, if_true]
theorem vd_ufU {f f' : Nat → Nat → Int32} (h : vd_fU f f') {o a b : Nat} {x : Int32} (hc : o = 19 ∨ (27 ≤ o ∧ o ≤ 33)) : vd_fU f (vd_uf f' o a b x) :=
  ⟨⟨fun c j q1 q2 q3 q4 q5 => by rw [vd_uf_ne (by omega)]; exact h.1.1 c j q1 q2 q3 q4 q5, fun q => (h.1.2 q).keep (fun j => by rw [vd_uf_ne (by omega)])⟩, fun j => by rw [vd_uf_ne (by omega)]; exact h.2 j⟩
theorem vd_U43r (hM : vd_SC M ow fa lo lf) (a : Value) : ∀ r, vd_b01P r → vd_UC M vd_Tn 2 43 21 [.ref 27, .ref 16, a] [.int (vd_I r), .ref 27] := fun r hr => by
  have u := (vd_U43l hM 8 0 rfl).1
  rcases hr with rfl | rfl
  · exact vd_UC.go (vd_ok1 (c := 27) (i := 11) (v := vd_I 0) (by omega)) u (fun d f Q => by simp (disch := first | decide | omega) only [vd_S43_21 hM, vd_fok0]; rfl)
  · exact vd_UC.go (vd_ok1 (c := 27) (i := 11) (v := vd_I 1) (by omega)) u (fun d f Q => by simp (disch := first | decide | omega) only [vd_S43_21 hM, vd_fok1]; rfl)
theorem vd_S43f (hM : vd_SC M ow fa lo lf) (f : Nat → Nat → Int32) (d : Nat) (Q : vd_M → (Option Value ⊕ Nat) → Prop) : vd_wp (d + 2) 43 0 [.ref 27, .ref 16, vd_U] [] (vd_mf M f) Q = vd_wp (d + 2) 43 18 [.ref 27, .ref 16, vd_U] [.ref 16, .ref 27] (vd_mf M (vd_uf (vd_uf f 32 0 32 (vd_I 0)) 33 0 32 (vd_I 0))) Q := by
  have e1 := fun (f : Nat → Nat → Int32) (d : Nat) (Q : vd_M → (Option Value ⊕ Nat) → Prop) => vd_F286 (M := M) (d := d) (Q := Q) (f := f) (o := 32) (len := 32) (x := vd_I 0) (by decide) hM.k32 hM.l32 (by decide)
  have e2 := fun (f : Nat → Nat → Int32) (d : Nat) (Q : vd_M → (Option Value ⊕ Nat) → Prop) => vd_F286 (M := M) (d := d) (Q := Q) (f := f) (o := 33) (len := 32) (x := vd_I 0) (by decide) hM.k33 hM.l33 (by decide)
  simp only [vd_S43_0 hM, vd_S43_5 hM, vd_S43_8 hM, vd_S43_13 hM, vd_S43_16 hM, e1, e2, vd_rs_v, vd_rs_n]
theorem vd_U43w (hM : vd_SC M ow fa lo lf) : vd_UC M vd_Tn 2 43 0 [.ref 27, .ref 16, vd_U] [] := vd_UC.ask (vd_U32 hM 1 (by decide)) (F := fun f => vd_uf (vd_uf f 32 0 32 (vd_I 0)) 33 0 32 (vd_I 0)) (fun f => vd_ufU (vd_ufU (vd_fU.refl f) (by omega)) (by omega)) (vd_U43r hM vd_U) (fun d f Q => by rw [vd_S43f hM]; simp only [vd_S43_18 hM])
def vd_B184P (N : vd_M) (s : Nat) : Prop := (∀ v : Int, vd_b01P v → vd_BH N (fun _ : Unit => vd_TR) 3 184 129 [.ref 63, .int (vd_I (s : Int)), .int (vd_I 0)] [.int (vd_I v), .int (vd_I (4 * (s : Int) + 0)), .ref 114]) ∧ (∀ v : Int, vd_bsP 8 v → vd_BH N (fun _ : Unit => vd_TR) 3 184 174 [.ref 63, .int (vd_I (s : Int)), .int (vd_I 0)] [.int (vd_I v), .int (vd_I (4 * (s : Int))), .ref 116]) ∧ (∀ v : Int, vd_b01P v → vd_BH N (fun _ : Unit => vd_TR) 3 184 129 [.ref 63, .int (vd_I (s : Int)), .int (vd_I 1)] [.int (vd_I v), .int (vd_I (4 * (s : Int) + 1)), .ref 114]) ∧ (∀ v : Int, vd_bsP 6 v → vd_BH N (fun _ : Unit => vd_TR) 3 184 198 [.ref 63, .int (vd_I (s : Int)), .int (vd_I 1)] [.int (vd_I v), .int (vd_I (4 * (s : Int) + 1)), .ref 116]) ∧ (∀ v : Int, vd_b01P v → vd_BH N (fun _ : Unit => vd_TR) 3 184 129 [.ref 63, .int (vd_I (s : Int)), .int (vd_I 2)] [.int (vd_I v), .int (vd_I (4 * (s : Int) + 2)), .ref 114]) ∧ (∀ v : Int, vd_bnP 2 v → vd_BH N (fun _ : Unit => vd_TR) 3 184 221 [.ref 63, .int (vd_I (s : Int)), .int (vd_I 2)] [.int (vd_I v), .int (vd_I (4 * (s : Int) + 2)), .ref 116]) ∧ (∀ v : Int, vd_b01P v → vd_BH N (fun _ : Unit => vd_TR) 3 184 129 [.ref 63, .int (vd_I (s : Int)), .int (vd_I 3)] [.int (vd_I v), .int (vd_I (4 * (s : Int) + 3)), .ref 114])
theorem vd_B184l (hN : vd_SR N) : ∀ (m s : Nat) (a2 : Value), s + m = 8 → vd_BH N (fun _ : Unit => vd_TR) 3 184 103 [.ref 63, .int (vd_I (s : Int)), a2] [] ∧ (s < 8 → vd_B184P N s) := by
  intro m
  induction m with
  | zero =>
    intro s a2 hs
    refine ⟨vd_BH.ret () vd_okJ (fun d f Q _ => ?_), fun h => absurd h (by omega)⟩
    simp (disch := omega) only [vd_S184_103 hN, vd_S184_234 hN, vd_TR, vd_I_toInt, show ¬ ((s : Int) < 8) by omega, if_false]
  | succ m ih =>
    intro s a2 hs
    have hs8 : s < 8 := by omega
    have ei : (s : Int) + 1 = ((s + 1 : Nat) : Int) := by omega
    have l4 : vd_BH N (fun _ : Unit => vd_TR) 3 184 111 [.ref 63, .int (vd_I (s : Int)), .int (vd_I 4)] [] := vd_BH.go vd_okJ (ih (s + 1) (.int (vd_I 4)) (by omega)).1 (fun d f Q _ => by simp (disch := omega) only [vd_S184_111 hN, vd_S184_228 hN, vd_I_add, ei, vd_I_toInt, show ¬ ((4 : Int) < 4) by decide, if_false])
    have z3 : ((4 * (s : Int) + 3)).toNat = 4 * s + 3 := by omega
    have m3 : vd_BH N (fun _ : Unit => vd_TR) 3 184 222 [.ref 63, .int (vd_I (s : Int)), .int (vd_I 3)] [] := vd_BH.go vd_okJ l4 (fun d f Q _ => by simp only [vd_S184_222 hN, vd_I_add, show (3 : Int) + 1 = 4 by decide])
    have r3 : ∀ v : Int, vd_b01P v → vd_BH N (fun _ : Unit => vd_TR) 3 184 129 [.ref 63, .int (vd_I (s : Int)), .int (vd_I 3)] [.int (vd_I v), .int (vd_I (4 * (s : Int) + 3)), .ref 114] := fun v hv => by
      rcases hv with rfl | rfl
      · exact vd_BH.go (vd_okg2 (c := 114) (i := 4 * s + 3) (v := vd_I 0) (c' := 116) (i' := 4 * s + 3) (v' := vd_I 0) (by unfold vd_inH; omega) (by omega) (by unfold vd_inH; omega) (by omega)) m3 (fun d f Q _ => by simp (disch := omega) only [vd_S184_129 hN, vd_S184_140 hN, vd_S184_150 hN, vd_S184_154 hN, vd_I_mul, vd_I_add, z3, vd_a01, vd_up_ne (show ¬ (114 = 116 ∧ 4 * s + 3 = 4 * s + 3) by omega), vd_up_eq, vd_I_toInt, eq_self, if_true])
      · exact vd_BH.go (vd_okg2 (c := 114) (i := 4 * s + 3) (v := vd_I 1) (c' := 116) (i' := 4 * s + 3) (v' := vd_I 0) (by unfold vd_inH; omega) (by omega) (by unfold vd_inH; omega) (by omega)) m3 (fun d f Q _ => by simp (disch := omega) only [vd_S184_129 hN, vd_S184_140 hN, vd_S184_150 hN, vd_S184_157 hN, vd_S184_178 hN, vd_S184_202 hN, vd_I_mul, vd_I_add, z3, vd_a11, vd_up_ne (show ¬ (114 = 116 ∧ 4 * s + 3 = 4 * s + 3) by omega), vd_up_eq, vd_I_toInt, show ¬ ((1 : Int) = 0) by decide, if_false, if_true, eq_self, show ¬ ((3 : Int) = 0) by decide, show ¬ ((3 : Int) = 1) by decide, show ¬ ((3 : Int) = 2) by decide])
    have l3 : vd_BH N (fun _ : Unit => vd_TR) 3 184 111 [.ref 63, .int (vd_I (s : Int)), .int (vd_I 3)] [] := vd_BH.ask (vd_B177 hN 2 (by decide)) vd_okJ (r3 0 (Or.inl rfl)) (fun d f Q _ => by simp (disch := omega) only [vd_S184_111 hN, vd_S184_116 hN, vd_S184_126 hN, vd_I_mul, vd_I_add, vd_I_toInt, show ((3 : Int) < 4) by decide, if_true])
    have z2 : ((4 * (s : Int) + 2)).toNat = 4 * s + 2 := by omega
    have m2 : vd_BH N (fun _ : Unit => vd_TR) 3 184 222 [.ref 63, .int (vd_I (s : Int)), .int (vd_I 2)] [] := vd_BH.go vd_okJ l3 (fun d f Q _ => by simp only [vd_S184_222 hN, vd_I_add, show (2 : Int) + 1 = 3 by decide])
    have a2 : ∀ v : Int, vd_bnP 2 v → vd_BH N (fun _ : Unit => vd_TR) 3 184 221 [.ref 63, .int (vd_I (s : Int)), .int (vd_I 2)] [.int (vd_I v), .int (vd_I (4 * (s : Int) + 2)), .ref 116] := fun v _ => vd_BH.go (vd_okg1 (c := 116) (i := 4 * s + 2) (v := vd_I v) (by unfold vd_inH; omega) (by omega)) m2 (fun d f Q _ => by simp (disch := omega) only [vd_S184_221 hN, z2])
    have r2 : ∀ v : Int, vd_b01P v → vd_BH N (fun _ : Unit => vd_TR) 3 184 129 [.ref 63, .int (vd_I (s : Int)), .int (vd_I 2)] [.int (vd_I v), .int (vd_I (4 * (s : Int) + 2)), .ref 114] := fun v hv => by
      rcases hv with rfl | rfl
      · exact vd_BH.go (vd_okg2 (c := 114) (i := 4 * s + 2) (v := vd_I 0) (c' := 116) (i' := 4 * s + 2) (v' := vd_I 0) (by unfold vd_inH; omega) (by omega) (by unfold vd_inH; omega) (by omega)) m2 (fun d f Q _ => by simp (disch := omega) only [vd_S184_129 hN, vd_S184_140 hN, vd_S184_150 hN, vd_S184_154 hN, vd_I_mul, vd_I_add, z2, vd_a01, vd_up_ne (show ¬ (114 = 116 ∧ 4 * s + 2 = 4 * s + 2) by omega), vd_up_eq, vd_I_toInt, eq_self, if_true])
      · exact vd_BH.ask (vd_B175 hN 2 2 (by decide) (by decide)) (vd_okg2 (c := 114) (i := 4 * s + 2) (v := vd_I 1) (c' := 116) (i' := 4 * s + 2) (v' := vd_I 0) (by unfold vd_inH; omega) (by omega) (by unfold vd_inH; omega) (by omega)) (a2 0 (by unfold vd_bnP; decide)) (fun d f Q _ => by simp (disch := omega) only [vd_S184_129 hN, vd_S184_140 hN, vd_S184_150 hN, vd_S184_157 hN, vd_S184_178 hN, vd_S184_202 hN, vd_S184_207 hN, vd_S184_218 hN, vd_I_mul, vd_I_add, z2, vd_a11, vd_up_ne (show ¬ (114 = 116 ∧ 4 * s + 2 = 4 * s + 2) by omega), vd_up_eq, vd_I_toInt, show ¬ ((1 : Int) = 0) by decide, if_false, if_true, eq_self, show ¬ ((2 : Int) = 0) by decide, show ¬ ((2 : Int) = 1) by decide])
    have l2 : vd_BH N (fun _ : Unit => vd_TR) 3 184 111 [.ref 63, .int (vd_I (s : Int)), .int (vd_I 2)] [] := vd_BH.ask (vd_B177 hN 2 (by decide)) vd_okJ (r2 0 (Or.inl rfl)) (fun d f Q _ => by simp (disch := omega) only [vd_S184_111 hN, vd_S184_116 hN, vd_S184_126 hN, vd_I_mul, vd_I_add, vd_I_toInt, show ((2 : Int) < 4) by decide, if_true])
    have z1 : ((4 * (s : Int) + 1)).toNat = 4 * s + 1 := by omega
    have m1 : vd_BH N (fun _ : Unit => vd_TR) 3 184 222 [.ref 63, .int (vd_I (s : Int)), .int (vd_I 1)] [] := vd_BH.go vd_okJ l2 (fun d f Q _ => by simp only [vd_S184_222 hN, vd_I_add, show (1 : Int) + 1 = 2 by decide])
    have a1 : ∀ v : Int, vd_bsP 6 v → vd_BH N (fun _ : Unit => vd_TR) 3 184 198 [.ref 63, .int (vd_I (s : Int)), .int (vd_I 1)] [.int (vd_I v), .int (vd_I (4 * (s : Int) + 1)), .ref 116] := fun v _ => vd_BH.go (vd_okg1 (c := 116) (i := 4 * s + 1) (v := vd_I v) (by unfold vd_inH; omega) (by omega)) m1 (fun d f Q _ => by simp (disch := omega) only [vd_S184_198 hN, z1])
    have r1 : ∀ v : Int, vd_b01P v → vd_BH N (fun _ : Unit => vd_TR) 3 184 129 [.ref 63, .int (vd_I (s : Int)), .int (vd_I 1)] [.int (vd_I v), .int (vd_I (4 * (s : Int) + 1)), .ref 114] := fun v hv => by
      rcases hv with rfl | rfl
      · exact vd_BH.go (vd_okg2 (c := 114) (i := 4 * s + 1) (v := vd_I 0) (c' := 116) (i' := 4 * s + 1) (v' := vd_I 0) (by unfold vd_inH; omega) (by omega) (by unfold vd_inH; omega) (by omega)) m1 (fun d f Q _ => by simp (disch := omega) only [vd_S184_129 hN, vd_S184_140 hN, vd_S184_150 hN, vd_S184_154 hN, vd_I_mul, vd_I_add, z1, vd_a01, vd_up_ne (show ¬ (114 = 116 ∧ 4 * s + 1 = 4 * s + 1) by omega), vd_up_eq, vd_I_toInt, eq_self, if_true])
      · exact vd_BH.ask (vd_B182 hN 2 (by decide) 6 (by decide) (by decide)) (vd_okg2 (c := 114) (i := 4 * s + 1) (v := vd_I 1) (c' := 116) (i' := 4 * s + 1) (v' := vd_I 0) (by unfold vd_inH; omega) (by omega) (by unfold vd_inH; omega) (by omega)) (a1 0 (by unfold vd_bsP; decide)) (fun d f Q _ => by simp (disch := omega) only [vd_S184_129 hN, vd_S184_140 hN, vd_S184_150 hN, vd_S184_157 hN, vd_S184_178 hN, vd_S184_183 hN, vd_S184_195 hN, vd_I_mul, vd_I_add, z1, vd_a11, vd_up_ne (show ¬ (114 = 116 ∧ 4 * s + 1 = 4 * s + 1) by omega), vd_up_eq, vd_I_toInt, show ¬ ((1 : Int) = 0) by decide, if_false, if_true, eq_self, show ¬ ((1 : Int) = 0) by decide])
    have l1 : vd_BH N (fun _ : Unit => vd_TR) 3 184 111 [.ref 63, .int (vd_I (s : Int)), .int (vd_I 1)] [] := vd_BH.ask (vd_B177 hN 2 (by decide)) vd_okJ (r1 0 (Or.inl rfl)) (fun d f Q _ => by simp (disch := omega) only [vd_S184_111 hN, vd_S184_116 hN, vd_S184_126 hN, vd_I_mul, vd_I_add, vd_I_toInt, show ((1 : Int) < 4) by decide, if_true])
    have z0 : ((4 * (s : Int) + 0)).toNat = 4 * s + 0 := by omega
    have z0b : (4 * (s : Int)).toNat = 4 * s + 0 := by omega
    have m0 : vd_BH N (fun _ : Unit => vd_TR) 3 184 222 [.ref 63, .int (vd_I (s : Int)), .int (vd_I 0)] [] := vd_BH.go vd_okJ l1 (fun d f Q _ => by simp only [vd_S184_222 hN, vd_I_add, show (0 : Int) + 1 = 1 by decide])
    have a0 : ∀ v : Int, vd_bsP 8 v → vd_BH N (fun _ : Unit => vd_TR) 3 184 174 [.ref 63, .int (vd_I (s : Int)), .int (vd_I 0)] [.int (vd_I v), .int (vd_I (4 * (s : Int))), .ref 116] := fun v _ => vd_BH.go (vd_okg1 (c := 116) (i := 4 * s + 0) (v := vd_I v) (by unfold vd_inH; omega) (by omega)) m0 (fun d f Q _ => by simp (disch := omega) only [vd_S184_174 hN, z0b])
    have r0 : ∀ v : Int, vd_b01P v → vd_BH N (fun _ : Unit => vd_TR) 3 184 129 [.ref 63, .int (vd_I (s : Int)), .int (vd_I 0)] [.int (vd_I v), .int (vd_I (4 * (s : Int) + 0)), .ref 114] := fun v hv => by
      rcases hv with rfl | rfl
      · exact vd_BH.go (vd_okg2 (c := 114) (i := 4 * s + 0) (v := vd_I 0) (c' := 116) (i' := 4 * s + 0) (v' := vd_I 0) (by unfold vd_inH; omega) (by omega) (by unfold vd_inH; omega) (by omega)) m0 (fun d f Q _ => by simp (disch := omega) only [vd_S184_129 hN, vd_S184_140 hN, vd_S184_150 hN, vd_S184_154 hN, vd_I_mul, vd_I_add, z0, vd_a01, vd_up_ne (show ¬ (114 = 116 ∧ 4 * s + 0 = 4 * s + 0) by omega), vd_up_eq, vd_I_toInt, eq_self, if_true])
      · exact vd_BH.ask (vd_B182 hN 2 (by decide) 8 (by decide) (by decide)) (vd_okg2 (c := 114) (i := 4 * s + 0) (v := vd_I 1) (c' := 116) (i' := 4 * s + 0) (v' := vd_I 0) (by unfold vd_inH; omega) (by omega) (by unfold vd_inH; omega) (by omega)) (a0 0 (by unfold vd_bsP; decide)) (fun d f Q _ => by simp (disch := omega) only [vd_S184_129 hN, vd_S184_140 hN, vd_S184_150 hN, vd_S184_157 hN, vd_S184_161 hN, vd_S184_171 hN, vd_I_mul, vd_I_add, z0, vd_a11, vd_up_ne (show ¬ (114 = 116 ∧ 4 * s + 0 = 4 * s + 0) by omega), vd_up_eq, vd_I_toInt, show ¬ ((1 : Int) = 0) by decide, if_false, if_true, eq_self])
    have l0 : vd_BH N (fun _ : Unit => vd_TR) 3 184 111 [.ref 63, .int (vd_I (s : Int)), .int (vd_I 0)] [] := vd_BH.ask (vd_B177 hN 2 (by decide)) vd_okJ (r0 0 (Or.inl rfl)) (fun d f Q _ => by simp (disch := omega) only [vd_S184_111 hN, vd_S184_116 hN, vd_S184_126 hN, vd_I_mul, vd_I_add, vd_I_toInt, show ((0 : Int) < 4) by decide, if_true])
    refine ⟨vd_BH.go vd_okJ l0 (fun d f Q _ => ?_), fun _ => ⟨r0, a0, r1, a1, r2, a2, r3⟩⟩
    simp (disch := omega) only [vd_S184_103 hN, vd_S184_109 hN, vd_I_toInt, show ((s : Int) < 8) by omega, if_true]
def vd_feat (f' g' : Nat → Nat → Int32) (k : Nat) : Prop := ∃ on z : Int, (on = 0 ∨ on = 1) ∧ (-256 ≤ z ∧ z ≤ 256 ∧ (k % 4 = 2 → 0 ≤ z ∧ z ≤ 3)) ∧ f' 32 k = vd_I on ∧ g' 114 k = vd_I on ∧ (k % 4 ≠ 3 → f' 33 k = vd_I z ∧ g' 116 k = vd_I z)
def vd_VFt (N : vd_M) (f g : Nat → Nat → Int32) (n : Nat) : vd_M → Unit → Unit → Int → (Nat → Nat → Int32) → (Nat → Nat → Int32) → Prop := fun N' _ _ _ f' g' => N' = N ∧ (∀ k, n ≤ k → k < 32 → vd_feat f' g' k) ∧ (∀ c j, ¬ (c = 16 ∧ (j = 1 ∨ j = 3)) → ¬ ((c = 32 ∨ c = 33) ∧ n ≤ j) → f' c j = f c j) ∧ (∀ c j, ¬ (c = 63 ∧ (j = 74 ∨ j = 76)) → ¬ ((c = 114 ∨ c = 116) ∧ n ≤ j) → g' c j = g c j)
def vd_zer (n : Nat) (f : Nat → Nat → Int32) : Prop := ∀ k, n ≤ k → k < 32 → f 32 k = vd_I 0 ∧ f 33 k = vd_I 0
/-- one feature more -/
theorem vd_VFt.more {f g f2 g2 : Nat → Nat → Int32} {n : Nat} {N' : vd_M} {a0 a : Unit} {p' : Int} {f' g' : Nat → Nat → Int32} (h : vd_VFt N f2 g2 (n + 1) N' a0 a p' f' g') (hk : vd_feat f2 g2 n) (F : ∀ c j, ¬ (c = 16 ∧ (j = 1 ∨ j = 3)) → ¬ ((c = 32 ∨ c = 33) ∧ j = n) → f2 c j = f c j) (G : ∀ c j, ¬ (c = 63 ∧ (j = 74 ∨ j = 76)) → ¬ ((c = 114 ∨ c = 116) ∧ j = n) → g2 c j = g c j) : vd_VFt N f g n N' a0 a p' f' g' := by
  obtain ⟨v1, v2, v3, v4⟩ := h
  refine ⟨v1, fun k a b => ?_, fun c j q1 q2 => ?_, fun c j q1 q2 => ?_⟩
  · by_cases e : k = n
    · subst e
      obtain ⟨on, z, h1, h2, h3, h4, h5⟩ := hk
      refine ⟨on, z, h1, h2, ?_, ?_, fun q => ⟨?_, ?_⟩⟩
      · rw [v3 32 k (by omega) (by omega)]; exact h3
      · rw [v4 114 k (by omega) (by omega)]; exact h4
      · rw [v3 33 k (by omega) (by omega)]; exact (h5 q).1
      · rw [v4 116 k (by omega) (by omega)]; exact (h5 q).2
    · exact v2 k (by omega) b
  · rw [v3 c j q1 (by omega), F c j q1 (by omega)]
  · rw [v4 c j q1 (by omega), G c j q1 (by omega)]
theorem vd_fts0 (hM : vd_SC M ow fa lo lf) (hN : vd_SR N) {e : Int} {s : Nat} (hs : s < 8) (H : ∀ (f g : Nat → Nat → Int32) (p : Int), vd_RT f g → vd_pb f p e 0 → vd_qb g p e 0 → vd_zer (4 * s + 0 + 1) f → vd_HP M N vd_Tn (fun _ : Unit => vd_TR) 2 43 51 [.ref 27, .ref 16, .int (vd_I (s : Int))] [] 3 184 111 [.ref 63, .int (vd_I (s : Int)), .int (vd_I 1)] [] e (vd_VFt N f g (4 * s + 0 + 1)) f g) (f g : Nat → Nat → Int32) (p : Int) (hT : vd_RT f g) (hp : vd_pb f p e 0) (hq : vd_qb g p e 0) (hz : vd_zer (4 * s + 0) f) : vd_HP M N vd_Tn (fun _ : Unit => vd_TR) 2 43 32 [.ref 27, .ref 16, .int (vd_I (s : Int))] [] 3 184 111 [.ref 63, .int (vd_I (s : Int)), .int (vd_I 0)] [] e (vd_VFt N f g (4 * s + 0)) f g := by
  obtain ⟨r0, a0, r1, a1, r2, a2, r3⟩ := (vd_U43l hM (8 - s) s (by omega)).2 hs
  obtain ⟨x0, y0, x1, y1, x2, y2, x3⟩ := (vd_B184l hN (8 - s) s vd_U (by omega)).2 hs
  have zz : ((4 * (s : Int) + 0)).toNat = 4 * s + 0 := by omega
  have z4 : (4 * (s : Int)).toNat = 4 * s + 0 := by omega
  have P44 := fun (f : Nat → Nat → Int32) (x : Int32) (d : Nat) (Q : vd_M → (Option Value ⊕ Nat) → Prop) => vd_P44 hM (f := f) (x := x) (s := s) (q := 0) hs (by decide) d Q
  have P44' : ∀ (f : Nat → Nat → Int32) (x : Int32) d Q, vd_wp d 44 0 [.ref 27, .int (vd_I (s : Int)), .int (vd_I 0), .int x] [] (vd_mf M f) Q = Q (vd_mf M (vd_up (vd_up f 32 (4 * s + 0) (vd_I 1)) 33 (4 * s + 0) x)) (.inl none) := P44
  refine vd_HP.ask (vd_Q32 hM hN 1 2 (by decide) (by decide)) (vd_fU.refl f) (vd_gU.refl g) hT hp hq r0 x0 (fun d Q => by simp only [vd_S43_32 hM, vd_S43_33 hM]) (fun d Q => by simp (disch := omega) only [vd_S184_111 hN, vd_S184_116 hN, vd_S184_126 hN, vd_I_mul, vd_I_add, vd_I_toInt, show ((0 : Int) < 4) by decide, if_true]) (fun f2 g2 p2 v hv hT2 hp2 hq2 F2 G2 => ?_)
  have hgU : ∀ w : Int32, vd_gU g2 (vd_up (vd_up g2 114 (4 * s + 0) w) 116 (4 * s + 0) (vd_I 0)) := fun w => ((vd_gU.refl g2).up (by unfold vd_inH; omega) (by omega)).up (by unfold vd_inH; omega) (by omega)
  have hz2 : vd_zer (4 * s + 0) f2 := fun k a b => by rw [F2 32 k (by omega), F2 33 k (by omega)]; exact hz k a b
  rcases hv with rfl | rfl
  · refine vd_HP.s (vd_fU.refl f2) (hgU (vd_I 0)) ((H f2 _ p2 (hT2.keepH (vd_fHd.refl f2) (hgU (vd_I 0)).1) hp2 (hq2.keepU (hgU (vd_I 0)).2) (fun k a b => hz2 k (by omega) b)).mono (fun N' a0 a p' f' g' h => h.more ?_ (fun c j q1 q2 => F2 c j q1) (fun c j q1 q2 => by rw [vd_up_ne (by omega), vd_up_ne (by omega), G2 c j q1]))) (fun d Q => ?_) (fun d Q => ?_)
    · have hh := hz2 (4 * s + 0) (by omega) (by omega)
      exact ⟨0, 0, Or.inl rfl, ⟨by decide, by decide, fun _ => ⟨by decide, by decide⟩⟩, hh.1, by rw [vd_up_ne (by omega)]; exact vd_up_eq _ _ _ _, fun _ => ⟨hh.2, vd_up_eq _ _ _ _⟩⟩
    · simp (disch := omega) only [vd_S43_36 hM, vd_I_toInt, eq_self, if_true]
    · simp (disch := omega) only [vd_S184_129 hN, vd_S184_140 hN, vd_S184_150 hN, vd_S184_154 hN, vd_S184_222 hN, vd_I_mul, vd_I_add, zz, vd_a01, vd_up_ne (show ¬ (114 = 116 ∧ 4 * s + 0 = 4 * s + 0) by omega), vd_up_eq, vd_I_toInt, eq_self, if_true, show (0 : Int) + 1 = 1 by decide]
  · refine vd_HP.ask (vd_Q40 hM hN 1 2 (by decide) (by decide) 8 (by decide) (by decide)) (vd_fU.refl f2) (hgU (vd_I 1)) hT2 hp2 hq2 a0 y0 (fun d Q => ?_) (fun d Q => ?_) (fun f3 g3 p3 z hzz hT3 hp3 hq3 F3 G3 => ?_)
    · simp (disch := omega) only [vd_S43_36 hM, vd_S43_39 hM, vd_S43_45 hM, vd_I_toInt, show ¬ ((1 : Int) = 0) by decide, if_false]
    · simp (disch := omega) only [vd_S184_129 hN, vd_S184_140 hN, vd_S184_150 hN, vd_S184_157 hN, vd_S184_161 hN, vd_S184_171 hN, vd_I_mul, vd_I_add, zz, vd_a11, vd_up_ne (show ¬ (114 = 116 ∧ 4 * s + 0 = 4 * s + 0) by omega), vd_up_eq, vd_I_toInt, show ¬ ((1 : Int) = 0) by decide, if_false, if_true, eq_self]
    have hzz := hzz.n (z := 256) (by decide)
    have hf3 : vd_fU f3 (vd_up (vd_up f3 32 (4 * s + 0) (vd_I 1)) 33 (4 * s + 0) (vd_I z)) := ((vd_fU.refl f3).up (by omega)).up (by omega)
    have hg3 : vd_gU g3 (vd_up g3 116 (4 * s + 0) (vd_I z)) := (vd_gU.refl g3).up (by unfold vd_inH; omega) (by omega)
    refine vd_HP.s hf3 hg3 ((H _ _ p3 (hT3.keepH hf3.1 hg3.1) (hp3.keepU hf3.2) (hq3.keepU hg3.2) (fun k a b => by rw [vd_up_ne (by omega), vd_up_ne (by omega), vd_up_ne (by omega), vd_up_ne (by omega), F3 32 k (by omega), F3 33 k (by omega)]; exact hz2 k (by omega) b)).mono (fun N' a0 a p' f' g' h => h.more ⟨1, z, Or.inr rfl, ⟨by omega, by omega, fun _ => by omega⟩, by rw [vd_up_ne (by omega)]; exact vd_up_eq _ _ _ _, by rw [vd_up_ne (by omega), G3 114 _ (by omega), vd_up_ne (by omega)]; exact vd_up_eq _ _ _ _, fun _ => ⟨vd_up_eq _ _ _ _, vd_up_eq _ _ _ _⟩⟩ (fun c j q1 q2 => by rw [vd_up_ne (by omega), vd_up_ne (by omega), F3 c j q1, F2 c j q1]) (fun c j q1 q2 => by rw [vd_up_ne (by omega), G3 c j q1, vd_up_ne (by omega), vd_up_ne (by omega), G2 c j q1]))) (fun d Q => ?_) (fun d Q => ?_)
    · simp only [vd_S43_48 hM, P44', vd_rs_v, vd_rs_n]
    · simp (disch := omega) only [vd_S184_174 hN, vd_S184_222 hN, z4, vd_I_add, show (0 : Int) + 1 = 1 by decide]
theorem vd_fts1 (hM : vd_SC M ow fa lo lf) (hN : vd_SR N) {e : Int} {s : Nat} (hs : s < 8) (H : ∀ (f g : Nat → Nat → Int32) (p : Int), vd_RT f g → vd_pb f p e 0 → vd_qb g p e 0 → vd_zer (4 * s + 1 + 1) f → vd_HP M N vd_Tn (fun _ : Unit => vd_TR) 2 43 70 [.ref 27, .ref 16, .int (vd_I (s : Int))] [] 3 184 111 [.ref 63, .int (vd_I (s : Int)), .int (vd_I 2)] [] e (vd_VFt N f g (4 * s + 1 + 1)) f g) (f g : Nat → Nat → Int32) (p : Int) (hT : vd_RT f g) (hp : vd_pb f p e 0) (hq : vd_qb g p e 0) (hz : vd_zer (4 * s + 1) f) : vd_HP M N vd_Tn (fun _ : Unit => vd_TR) 2 43 51 [.ref 27, .ref 16, .int (vd_I (s : Int))] [] 3 184 111 [.ref 63, .int (vd_I (s : Int)), .int (vd_I 1)] [] e (vd_VFt N f g (4 * s + 1)) f g := by
  obtain ⟨r0, a0, r1, a1, r2, a2, r3⟩ := (vd_U43l hM (8 - s) s (by omega)).2 hs
  obtain ⟨x0, y0, x1, y1, x2, y2, x3⟩ := (vd_B184l hN (8 - s) s vd_U (by omega)).2 hs
  have zz : ((4 * (s : Int) + 1)).toNat = 4 * s + 1 := by omega
  have z4 : (4 * (s : Int)).toNat = 4 * s + 0 := by omega
  have P44 := fun (f : Nat → Nat → Int32) (x : Int32) (d : Nat) (Q : vd_M → (Option Value ⊕ Nat) → Prop) => vd_P44 hM (f := f) (x := x) (s := s) (q := 1) hs (by decide) d Q
  have P44' : ∀ (f : Nat → Nat → Int32) (x : Int32) d Q, vd_wp d 44 0 [.ref 27, .int (vd_I (s : Int)), .int (vd_I 1), .int x] [] (vd_mf M f) Q = Q (vd_mf M (vd_up (vd_up f 32 (4 * s + 1) (vd_I 1)) 33 (4 * s + 1) x)) (.inl none) := P44
  refine vd_HP.ask (vd_Q32 hM hN 1 2 (by decide) (by decide)) (vd_fU.refl f) (vd_gU.refl g) hT hp hq r1 x1 (fun d Q => by simp only [vd_S43_51 hM, vd_S43_52 hM]) (fun d Q => by simp (disch := omega) only [vd_S184_111 hN, vd_S184_116 hN, vd_S184_126 hN, vd_I_mul, vd_I_add, vd_I_toInt, show ((1 : Int) < 4) by decide, if_true]) (fun f2 g2 p2 v hv hT2 hp2 hq2 F2 G2 => ?_)
  have hgU : ∀ w : Int32, vd_gU g2 (vd_up (vd_up g2 114 (4 * s + 1) w) 116 (4 * s + 1) (vd_I 0)) := fun w => ((vd_gU.refl g2).up (by unfold vd_inH; omega) (by omega)).up (by unfold vd_inH; omega) (by omega)
  have hz2 : vd_zer (4 * s + 1) f2 := fun k a b => by rw [F2 32 k (by omega), F2 33 k (by omega)]; exact hz k a b
  rcases hv with rfl | rfl
  · refine vd_HP.s (vd_fU.refl f2) (hgU (vd_I 0)) ((H f2 _ p2 (hT2.keepH (vd_fHd.refl f2) (hgU (vd_I 0)).1) hp2 (hq2.keepU (hgU (vd_I 0)).2) (fun k a b => hz2 k (by omega) b)).mono (fun N' a0 a p' f' g' h => h.more ?_ (fun c j q1 q2 => F2 c j q1) (fun c j q1 q2 => by rw [vd_up_ne (by omega), vd_up_ne (by omega), G2 c j q1]))) (fun d Q => ?_) (fun d Q => ?_)
    · have hh := hz2 (4 * s + 1) (by omega) (by omega)
      exact ⟨0, 0, Or.inl rfl, ⟨by decide, by decide, fun _ => ⟨by decide, by decide⟩⟩, hh.1, by rw [vd_up_ne (by omega)]; exact vd_up_eq _ _ _ _, fun _ => ⟨hh.2, vd_up_eq _ _ _ _⟩⟩
    · simp (disch := omega) only [vd_S43_55 hM, vd_I_toInt, eq_self, if_true]
    · simp (disch := omega) only [vd_S184_129 hN, vd_S184_140 hN, vd_S184_150 hN, vd_S184_154 hN, vd_S184_222 hN, vd_I_mul, vd_I_add, zz, vd_a01, vd_up_ne (show ¬ (114 = 116 ∧ 4 * s + 1 = 4 * s + 1) by omega), vd_up_eq, vd_I_toInt, eq_self, if_true, show (1 : Int) + 1 = 2 by decide]
  · refine vd_HP.ask (vd_Q40 hM hN 1 2 (by decide) (by decide) 6 (by decide) (by decide)) (vd_fU.refl f2) (hgU (vd_I 1)) hT2 hp2 hq2 a1 y1 (fun d Q => ?_) (fun d Q => ?_) (fun f3 g3 p3 z hzz hT3 hp3 hq3 F3 G3 => ?_)
    · simp (disch := omega) only [vd_S43_55 hM, vd_S43_58 hM, vd_S43_64 hM, vd_I_toInt, show ¬ ((1 : Int) = 0) by decide, if_false]
    · simp (disch := omega) only [vd_S184_129 hN, vd_S184_140 hN, vd_S184_150 hN, vd_S184_157 hN, vd_S184_178 hN, vd_S184_183 hN, vd_S184_195 hN, vd_I_mul, vd_I_add, zz, vd_a11, vd_up_ne (show ¬ (114 = 116 ∧ 4 * s + 1 = 4 * s + 1) by omega), vd_up_eq, vd_I_toInt, show ¬ ((1 : Int) = 0) by decide, if_false, if_true, eq_self, show ¬ ((1 : Int) = 0) by decide]
    have hzz := hzz.n (z := 64) (by decide)
    have hf3 : vd_fU f3 (vd_up (vd_up f3 32 (4 * s + 1) (vd_I 1)) 33 (4 * s + 1) (vd_I z)) := ((vd_fU.refl f3).up (by omega)).up (by omega)
    have hg3 : vd_gU g3 (vd_up g3 116 (4 * s + 1) (vd_I z)) := (vd_gU.refl g3).up (by unfold vd_inH; omega) (by omega)
    refine vd_HP.s hf3 hg3 ((H _ _ p3 (hT3.keepH hf3.1 hg3.1) (hp3.keepU hf3.2) (hq3.keepU hg3.2) (fun k a b => by rw [vd_up_ne (by omega), vd_up_ne (by omega), vd_up_ne (by omega), vd_up_ne (by omega), F3 32 k (by omega), F3 33 k (by omega)]; exact hz2 k (by omega) b)).mono (fun N' a0 a p' f' g' h => h.more ⟨1, z, Or.inr rfl, ⟨by omega, by omega, fun _ => by omega⟩, by rw [vd_up_ne (by omega)]; exact vd_up_eq _ _ _ _, by rw [vd_up_ne (by omega), G3 114 _ (by omega), vd_up_ne (by omega)]; exact vd_up_eq _ _ _ _, fun _ => ⟨vd_up_eq _ _ _ _, vd_up_eq _ _ _ _⟩⟩ (fun c j q1 q2 => by rw [vd_up_ne (by omega), vd_up_ne (by omega), F3 c j q1, F2 c j q1]) (fun c j q1 q2 => by rw [vd_up_ne (by omega), G3 c j q1, vd_up_ne (by omega), vd_up_ne (by omega), G2 c j q1]))) (fun d Q => ?_) (fun d Q => ?_)
    · simp only [vd_S43_67 hM, P44', vd_rs_v, vd_rs_n]
    · simp (disch := omega) only [vd_S184_198 hN, vd_S184_222 hN, zz, vd_I_add, show (1 : Int) + 1 = 2 by decide]
theorem vd_fts2 (hM : vd_SC M ow fa lo lf) (hN : vd_SR N) {e : Int} {s : Nat} (hs : s < 8) (H : ∀ (f g : Nat → Nat → Int32) (p : Int), vd_RT f g → vd_pb f p e 0 → vd_qb g p e 0 → vd_zer (4 * s + 2 + 1) f → vd_HP M N vd_Tn (fun _ : Unit => vd_TR) 2 43 88 [.ref 27, .ref 16, .int (vd_I (s : Int))] [] 3 184 111 [.ref 63, .int (vd_I (s : Int)), .int (vd_I 3)] [] e (vd_VFt N f g (4 * s + 2 + 1)) f g) (f g : Nat → Nat → Int32) (p : Int) (hT : vd_RT f g) (hp : vd_pb f p e 0) (hq : vd_qb g p e 0) (hz : vd_zer (4 * s + 2) f) : vd_HP M N vd_Tn (fun _ : Unit => vd_TR) 2 43 70 [.ref 27, .ref 16, .int (vd_I (s : Int))] [] 3 184 111 [.ref 63, .int (vd_I (s : Int)), .int (vd_I 2)] [] e (vd_VFt N f g (4 * s + 2)) f g := by
  obtain ⟨r0, a0, r1, a1, r2, a2, r3⟩ := (vd_U43l hM (8 - s) s (by omega)).2 hs
  obtain ⟨x0, y0, x1, y1, x2, y2, x3⟩ := (vd_B184l hN (8 - s) s vd_U (by omega)).2 hs
  have zz : ((4 * (s : Int) + 2)).toNat = 4 * s + 2 := by omega
  have z4 : (4 * (s : Int)).toNat = 4 * s + 0 := by omega
  have P44 := fun (f : Nat → Nat → Int32) (x : Int32) (d : Nat) (Q : vd_M → (Option Value ⊕ Nat) → Prop) => vd_P44 hM (f := f) (x := x) (s := s) (q := 2) hs (by decide) d Q
  have P44' : ∀ (f : Nat → Nat → Int32) (x : Int32) d Q, vd_wp d 44 0 [.ref 27, .int (vd_I (s : Int)), .int (vd_I 2), .int x] [] (vd_mf M f) Q = Q (vd_mf M (vd_up (vd_up f 32 (4 * s + 2) (vd_I 1)) 33 (4 * s + 2) x)) (.inl none) := P44
  refine vd_HP.ask (vd_Q32 hM hN 1 2 (by decide) (by decide)) (vd_fU.refl f) (vd_gU.refl g) hT hp hq r2 x2 (fun d Q => by simp only [vd_S43_70 hM, vd_S43_71 hM]) (fun d Q => by simp (disch := omega) only [vd_S184_111 hN, vd_S184_116 hN, vd_S184_126 hN, vd_I_mul, vd_I_add, vd_I_toInt, show ((2 : Int) < 4) by decide, if_true]) (fun f2 g2 p2 v hv hT2 hp2 hq2 F2 G2 => ?_)
  have hgU : ∀ w : Int32, vd_gU g2 (vd_up (vd_up g2 114 (4 * s + 2) w) 116 (4 * s + 2) (vd_I 0)) := fun w => ((vd_gU.refl g2).up (by unfold vd_inH; omega) (by omega)).up (by unfold vd_inH; omega) (by omega)
  have hz2 : vd_zer (4 * s + 2) f2 := fun k a b => by rw [F2 32 k (by omega), F2 33 k (by omega)]; exact hz k a b
  rcases hv with rfl | rfl
  · refine vd_HP.s (vd_fU.refl f2) (hgU (vd_I 0)) ((H f2 _ p2 (hT2.keepH (vd_fHd.refl f2) (hgU (vd_I 0)).1) hp2 (hq2.keepU (hgU (vd_I 0)).2) (fun k a b => hz2 k (by omega) b)).mono (fun N' a0 a p' f' g' h => h.more ?_ (fun c j q1 q2 => F2 c j q1) (fun c j q1 q2 => by rw [vd_up_ne (by omega), vd_up_ne (by omega), G2 c j q1]))) (fun d Q => ?_) (fun d Q => ?_)
    · have hh := hz2 (4 * s + 2) (by omega) (by omega)
      exact ⟨0, 0, Or.inl rfl, ⟨by decide, by decide, fun _ => ⟨by decide, by decide⟩⟩, hh.1, by rw [vd_up_ne (by omega)]; exact vd_up_eq _ _ _ _, fun _ => ⟨hh.2, vd_up_eq _ _ _ _⟩⟩
    · simp (disch := omega) only [vd_S43_74 hM, vd_I_toInt, eq_self, if_true]
    · simp (disch := omega) only [vd_S184_129 hN, vd_S184_140 hN, vd_S184_150 hN, vd_S184_154 hN, vd_S184_222 hN, vd_I_mul, vd_I_add, zz, vd_a01, vd_up_ne (show ¬ (114 = 116 ∧ 4 * s + 2 = 4 * s + 2) by omega), vd_up_eq, vd_I_toInt, eq_self, if_true, show (2 : Int) + 1 = 3 by decide]
  · refine vd_HP.ask (vd_Q30 hM hN 1 2 2 (by decide) (by decide)) (vd_fU.refl f2) (hgU (vd_I 1)) hT2 hp2 hq2 a2 y2 (fun d Q => ?_) (fun d Q => ?_) (fun f3 g3 p3 z hzz hT3 hp3 hq3 F3 G3 => ?_)
    · simp (disch := omega) only [vd_S43_74 hM, vd_S43_77 hM, vd_S43_82 hM, vd_I_toInt, show ¬ ((1 : Int) = 0) by decide, if_false]
    · simp (disch := omega) only [vd_S184_129 hN, vd_S184_140 hN, vd_S184_150 hN, vd_S184_157 hN, vd_S184_178 hN, vd_S184_202 hN, vd_S184_207 hN, vd_S184_218 hN, vd_I_mul, vd_I_add, zz, vd_a11, vd_up_ne (show ¬ (114 = 116 ∧ 4 * s + 2 = 4 * s + 2) by omega), vd_up_eq, vd_I_toInt, show ¬ ((1 : Int) = 0) by decide, if_false, if_true, eq_self, show ¬ ((2 : Int) = 0) by decide, show ¬ ((2 : Int) = 1) by decide]
    have hzz := hzz.n (z := 4) (by decide)
    have hf3 : vd_fU f3 (vd_up (vd_up f3 32 (4 * s + 2) (vd_I 1)) 33 (4 * s + 2) (vd_I z)) := ((vd_fU.refl f3).up (by omega)).up (by omega)
    have hg3 : vd_gU g3 (vd_up g3 116 (4 * s + 2) (vd_I z)) := (vd_gU.refl g3).up (by unfold vd_inH; omega) (by omega)
    refine vd_HP.s hf3 hg3 ((H _ _ p3 (hT3.keepH hf3.1 hg3.1) (hp3.keepU hf3.2) (hq3.keepU hg3.2) (fun k a b => by rw [vd_up_ne (by omega), vd_up_ne (by omega), vd_up_ne (by omega), vd_up_ne (by omega), F3 32 k (by omega), F3 33 k (by omega)]; exact hz2 k (by omega) b)).mono (fun N' a0 a p' f' g' h => h.more ⟨1, z, Or.inr rfl, ⟨by omega, by omega, fun _ => by omega⟩, by rw [vd_up_ne (by omega)]; exact vd_up_eq _ _ _ _, by rw [vd_up_ne (by omega), G3 114 _ (by omega), vd_up_ne (by omega)]; exact vd_up_eq _ _ _ _, fun _ => ⟨vd_up_eq _ _ _ _, vd_up_eq _ _ _ _⟩⟩ (fun c j q1 q2 => by rw [vd_up_ne (by omega), vd_up_ne (by omega), F3 c j q1, F2 c j q1]) (fun c j q1 q2 => by rw [vd_up_ne (by omega), G3 c j q1, vd_up_ne (by omega), vd_up_ne (by omega), G2 c j q1]))) (fun d Q => ?_) (fun d Q => ?_)
    · simp only [vd_S43_85 hM, P44', vd_rs_v, vd_rs_n]
    · simp (disch := omega) only [vd_S184_221 hN, vd_S184_222 hN, zz, vd_I_add, show (2 : Int) + 1 = 3 by decide]
theorem vd_fts3 (hM : vd_SC M ow fa lo lf) (hN : vd_SR N) {e : Int} {s : Nat} (hs : s < 8) (H : ∀ (f g : Nat → Nat → Int32) (p : Int), vd_RT f g → vd_pb f p e 0 → vd_qb g p e 0 → vd_zer (4 * s + 3 + 1) f → vd_HP M N vd_Tn (fun _ : Unit => vd_TR) 2 43 102 [.ref 27, .ref 16, .int (vd_I (s : Int))] [] 3 184 111 [.ref 63, .int (vd_I (s : Int)), .int (vd_I 4)] [] e (vd_VFt N f g (4 * s + 3 + 1)) f g) (f g : Nat → Nat → Int32) (p : Int) (hT : vd_RT f g) (hp : vd_pb f p e 0) (hq : vd_qb g p e 0) (hz : vd_zer (4 * s + 3) f) : vd_HP M N vd_Tn (fun _ : Unit => vd_TR) 2 43 88 [.ref 27, .ref 16, .int (vd_I (s : Int))] [] 3 184 111 [.ref 63, .int (vd_I (s : Int)), .int (vd_I 3)] [] e (vd_VFt N f g (4 * s + 3)) f g := by
  obtain ⟨r0, a0, r1, a1, r2, a2, r3⟩ := (vd_U43l hM (8 - s) s (by omega)).2 hs
  obtain ⟨x0, y0, x1, y1, x2, y2, x3⟩ := (vd_B184l hN (8 - s) s vd_U (by omega)).2 hs
  have zz : ((4 * (s : Int) + 3)).toNat = 4 * s + 3 := by omega
  have z4 : (4 * (s : Int)).toNat = 4 * s + 0 := by omega
  have P44 := fun (f : Nat → Nat → Int32) (x : Int32) (d : Nat) (Q : vd_M → (Option Value ⊕ Nat) → Prop) => vd_P44 hM (f := f) (x := x) (s := s) (q := 3) hs (by decide) d Q
  have P44' : ∀ (f : Nat → Nat → Int32) (x : Int32) d Q, vd_wp d 44 0 [.ref 27, .int (vd_I (s : Int)), .int (vd_I 3), .int x] [] (vd_mf M f) Q = Q (vd_mf M (vd_up (vd_up f 32 (4 * s + 3) (vd_I 1)) 33 (4 * s + 3) x)) (.inl none) := P44
  refine vd_HP.ask (vd_Q32 hM hN 1 2 (by decide) (by decide)) (vd_fU.refl f) (vd_gU.refl g) hT hp hq r3 x3 (fun d Q => by simp only [vd_S43_88 hM, vd_S43_89 hM]) (fun d Q => by simp (disch := omega) only [vd_S184_111 hN, vd_S184_116 hN, vd_S184_126 hN, vd_I_mul, vd_I_add, vd_I_toInt, show ((3 : Int) < 4) by decide, if_true]) (fun f2 g2 p2 v hv hT2 hp2 hq2 F2 G2 => ?_)
  have hgU : ∀ w : Int32, vd_gU g2 (vd_up (vd_up g2 114 (4 * s + 3) w) 116 (4 * s + 3) (vd_I 0)) := fun w => ((vd_gU.refl g2).up (by unfold vd_inH; omega) (by omega)).up (by unfold vd_inH; omega) (by omega)
  have hz2 : vd_zer (4 * s + 3) f2 := fun k a b => by rw [F2 32 k (by omega), F2 33 k (by omega)]; exact hz k a b
  rcases hv with rfl | rfl
  · refine vd_HP.s (vd_fU.refl f2) (hgU (vd_I 0)) ((H f2 _ p2 (hT2.keepH (vd_fHd.refl f2) (hgU (vd_I 0)).1) hp2 (hq2.keepU (hgU (vd_I 0)).2) (fun k a b => hz2 k (by omega) b)).mono (fun N' a0 a p' f' g' h => h.more ?_ (fun c j q1 q2 => F2 c j q1) (fun c j q1 q2 => by rw [vd_up_ne (by omega), vd_up_ne (by omega), G2 c j q1]))) (fun d Q => ?_) (fun d Q => ?_)
    · have hh := hz2 (4 * s + 3) (by omega) (by omega)
      exact ⟨0, 0, Or.inl rfl, ⟨by decide, by decide, fun _ => ⟨by decide, by decide⟩⟩, hh.1, by rw [vd_up_ne (by omega)]; exact vd_up_eq _ _ _ _, fun _ => ⟨hh.2, vd_up_eq _ _ _ _⟩⟩
    · simp (disch := omega) only [vd_S43_92 hM, vd_I_toInt, eq_self, if_true]
    · simp (disch := omega) only [vd_S184_129 hN, vd_S184_140 hN, vd_S184_150 hN, vd_S184_154 hN, vd_S184_222 hN, vd_I_mul, vd_I_add, zz, vd_a01, vd_up_ne (show ¬ (114 = 116 ∧ 4 * s + 3 = 4 * s + 3) by omega), vd_up_eq, vd_I_toInt, eq_self, if_true, show (3 : Int) + 1 = 4 by decide]
  · have hf3 : vd_fU f2 (vd_up (vd_up f2 32 (4 * s + 3) (vd_I 1)) 33 (4 * s + 3) (vd_I 1)) := ((vd_fU.refl f2).up (by omega)).up (by omega)
    refine vd_HP.s hf3 (hgU (vd_I 1)) ((H _ _ p2 (hT2.keepH hf3.1 (hgU (vd_I 1)).1) (hp2.keepU hf3.2) (hq2.keepU (hgU (vd_I 1)).2) (fun k a b => by rw [vd_up_ne (by omega), vd_up_ne (by omega), vd_up_ne (by omega), vd_up_ne (by omega)]; exact hz2 k (by omega) b)).mono (fun N' a0 a p' f' g' h => h.more ⟨1, 0, Or.inr rfl, ⟨by decide, by decide, fun _ => ⟨by decide, by decide⟩⟩, by rw [vd_up_ne (by omega), vd_up_eq], by rw [vd_up_ne (by omega), vd_up_eq], fun q => absurd rfl (show ¬ (3 = 3) by omega)⟩ (fun c j q1 q2 => by rw [vd_up_ne (by omega), vd_up_ne (by omega), F2 c j q1]) (fun c j q1 q2 => by rw [vd_up_ne (by omega), vd_up_ne (by omega), G2 c j q1]))) (fun d Q => ?_) (fun d Q => ?_)
    · simp (disch := omega) only [vd_S43_92 hM, vd_S43_95 hM, vd_S43_99 hM, P44', vd_rs_v, vd_rs_n, vd_I_toInt, show ¬ ((1 : Int) = 0) by decide, if_false]
    · simp (disch := omega) only [vd_S184_129 hN, vd_S184_140 hN, vd_S184_150 hN, vd_S184_157 hN, vd_S184_178 hN, vd_S184_202 hN, vd_S184_222 hN, vd_I_mul, vd_I_add, zz, vd_a11, vd_up_ne (show ¬ (114 = 116 ∧ 4 * s + 3 = 4 * s + 3) by omega), vd_up_eq, vd_I_toInt, show ¬ ((1 : Int) = 0) by decide, if_false, if_true, eq_self, show ¬ ((3 : Int) = 0) by decide, show ¬ ((3 : Int) = 1) by decide, show ¬ ((3 : Int) = 2) by decide, show (3 : Int) + 1 = 4 by decide]
theorem vd_ftLoop (hM : vd_SC M ow fa lo lf) (hN : vd_SR N) {e : Int} : ∀ (m s : Nat) (a2 : Value) (f g : Nat → Nat → Int32) (p : Int), s + m = 8 → vd_RT f g → vd_pb f p e 0 → vd_qb g p e 0 → vd_zer (4 * s) f → vd_HP M N vd_Tn (fun _ : Unit => vd_TR) 2 43 26 [.ref 27, .ref 16, .int (vd_I (s : Int))] [] 3 184 103 [.ref 63, .int (vd_I (s : Int)), a2] [] e (vd_VFt N f g (4 * s)) f g := by
  intro m
  induction m with
  | zero =>
    intro s a2 f g p hs hT hp hq hz
    refine vd_HP.ret () () (vd_fU.refl f) (vd_gU.refl g) hp hq ⟨rfl, fun k a b => absurd b (by omega), fun _ _ _ _ => rfl, fun _ _ _ _ => rfl⟩ (fun d Q => ?_) (fun d Q => ?_)
    · simp (disch := omega) only [vd_S43_26 hM, vd_S43_108 hM, vd_Tn, vd_TR, vd_I_toInt, show ¬ ((s : Int) < 8) by omega, if_false]
    · simp (disch := omega) only [vd_S184_103 hN, vd_S184_234 hN, vd_TR, vd_I_toInt, show ¬ ((s : Int) < 8) by omega, if_false]
  | succ m ih =>
    intro s a2 f g p hs hT hp hq hz
    have hs8 : s < 8 := by omega
    have ei : (s : Int) + 1 = ((s + 1 : Nat) : Int) := by omega
    refine vd_HP.s (vd_fU.refl f) (vd_gU.refl g) (vd_fts0 hM hN hs8 (vd_fts1 hM hN hs8 (vd_fts2 hM hN hs8 (vd_fts3 hM hN hs8 (fun f g p hT hp hq hz => ?_)))) f g p hT hp hq hz) (fun d Q => ?_) (fun d Q => ?_)
    · refine vd_HP.s (vd_fU.refl f) (vd_gU.refl g) (ih (s + 1) (.int (vd_I 4)) f g p (by omega) hT hp hq hz) (fun d Q => ?_) (fun d Q => ?_)
      · simp only [vd_S43_102 hM, vd_I_add, ei]
      · simp (disch := omega) only [vd_S184_111 hN, vd_S184_228 hN, vd_I_add, ei, vd_I_toInt, show ¬ ((4 : Int) < 4) by decide, if_false]
    · simp (disch := omega) only [vd_S43_26 hM, vd_I_toInt, show ((s : Int) < 8) by omega, if_true]
    · simp (disch := omega) only [vd_S184_103 hN, vd_S184_109 hN, vd_I_toInt, show ((s : Int) < 8) by omega, if_true]
def vd_VFe (N : vd_M) (f g : Nat → Nat → Int32) : vd_M → Unit → Unit → Int → (Nat → Nat → Int32) → (Nat → Nat → Int32) → Prop := fun N' _ _ _ f' g' => N' = N ∧ (∀ k, k < 32 → vd_feat f' g' k) ∧ (∃ ab : Int, (ab = 0 ∨ ab = 1) ∧ f' 27 11 = vd_I ab ∧ g' 63 86 = vd_I ab) ∧ (∀ c j, ¬ (c = 16 ∧ (j = 1 ∨ j = 3)) → ¬ (c = 27 ∧ j = 11) → c ≠ 32 → c ≠ 33 → f' c j = f c j) ∧ (∀ c j, ¬ (c = 63 ∧ (j = 74 ∨ j = 76 ∨ j = 86)) → c ≠ 114 → c ≠ 116 → g' c j = g c j)
theorem vd_B184r (hN : vd_SR N) (a1 a2 : Value) : ∀ s, vd_b01P s → vd_BH N (fun _ : Unit => vd_TR) 3 184 98 [.ref 63, a1, a2] [.int (vd_I s), .ref 63] := fun s hs => by
  have u := (vd_B184l hN 8 0 a2 rfl).1
  rcases hs with rfl | rfl
  · exact vd_BH.go (vd_okg1 (c := 63) (i := 86) (v := vd_I 0) (by unfold vd_inH; omega) (by omega)) u (fun d f Q _ => by simp (disch := first | decide | omega) only [vd_S184_98 hN, vd_fok0]; rfl)
  · exact vd_BH.go (vd_okg1 (c := 63) (i := 86) (v := vd_I 1) (by unfold vd_inH; omega) (by omega)) u (fun d f Q _ => by simp (disch := first | decide | omega) only [vd_S184_98 hN, vd_fok1]; rfl)
/-- readFeatures, and the reference's features -/
theorem vd_H43 (hM : vd_SC M ow fa lo lf) (hN : vd_SR N) {f g : Nat → Nat → Int32} {p e : Int} (a1 a2 : Value) (hT : vd_RT f g) (hp : vd_pb f p e 0) (hq : vd_qb g p e 0) : vd_HP M N vd_Tn (fun _ : Unit => vd_TR) 2 43 0 [.ref 27, .ref 16, vd_U] [] 3 184 93 [.ref 63, a1, a2] [] e (vd_VFe N f g) f g := by
  have hf : vd_fU f (vd_uf (vd_uf f 32 0 32 (vd_I 0)) 33 0 32 (vd_I 0)) := vd_ufU (vd_ufU (vd_fU.refl f) (by omega)) (by omega)
  refine vd_HP.ask (vd_Q32 hM hN 1 2 (by decide) (by decide)) hf (vd_gU.refl g) hT hp hq (vd_U43r hM vd_U) (vd_B184r hN a1 a2) (fun d Q => by rw [vd_S43f hM]; simp only [vd_S43_18 hM]) (fun d Q => by simp only [vd_S184_93 hN, vd_S184_95 hN]) (fun f2 g2 p2 ab hab hT2 hp2 hq2 F2 G2 => ?_)
  have hf2 : vd_fU f2 (vd_up f2 27 11 (vd_I ab)) := (vd_fU.refl f2).up (by omega)
  have hg2 : vd_gU g2 (vd_up g2 63 86 (vd_I ab)) := (vd_gU.refl g2).up (by unfold vd_inH; omega) (by omega)
  have hok : vd_fok .boolean (vd_I ab) = true := by rcases hab with rfl | rfl <;> decide
  refine vd_HP.s hf2 hg2 ((vd_ftLoop hM hN 8 0 a2 _ _ p2 rfl (hT2.keepH hf2.1 hg2.1) (hp2.keepU hf2.2) (hq2.keepU hg2.2) (fun k _ b => ⟨?_, ?_⟩)).mono ?_) (fun d Q => ?_) (fun d Q => ?_)
  · rw [vd_up_ne (by omega), F2 32 k (by omega), vd_uf_ne (by omega), vd_uf_in (by omega) b]
  · rw [vd_up_ne (by omega), F2 33 k (by omega), vd_uf_in (by omega) b]
  · rintro N' a0 a p' f' g' ⟨v1, v2, v3, v4⟩
    refine ⟨v1, fun k hk => v2 k (by omega) hk, ⟨ab, hab, ?_, ?_⟩, fun c j q1 q2 q3 q4 => ?_, fun c j q1 q2 q3 => ?_⟩
    · rw [v3 27 11 (by omega) (by omega), vd_up_eq]
    · rw [v4 63 86 (by omega) (by omega), vd_up_eq]
    · rw [v3 c j q1 (by omega), vd_up_ne (by omega), F2 c j q1, vd_uf_ne (by omega), vd_uf_ne (by omega)]
    · rw [v4 c j (by omega) (by omega), vd_up_ne (by omega), G2 c j (by omega)]
  · simp (disch := assumption) only [vd_S43_21 hM]; rfl
  · simp (disch := assumption) only [vd_S184_98 hN]; rfl
end VDHX2
