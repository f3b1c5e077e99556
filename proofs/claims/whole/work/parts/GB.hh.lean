/-! ===== a frame's header: class behind a fault ===== -/
section VDHB
variable {M N : vd_M} {ow fa lo lf : Nat}
theorem vd_U33 (hM : vd_SC M ow fa lo lf) (n : Nat) : ∀ (f : Nat → Nat → Int32) (p e b : Int), vd_pb f p e b → ∃ (f' : Nat → Nat → Int32) (p' b' r : Int), (∀ d Q, vd_wp (d + n) 33 0 [.ref 17] [] (vd_mf M f) Q = Q (vd_mf M f') (.inl (some (.int (vd_I r))))) ∧ vd_b01P r ∧ vd_pb f' p' e b' ∧ (b ≠ 0 → b' = b) ∧ vd_fP f f' := fun f p e b h => by
  by_cases c : (f 17 4).toInt = (vd_I 2).toInt
  · exact ⟨f, p, b, 0, fun d Q => by simp (disch := first | decide | omega) only [vd_S33_0 hM, vd_S33_12 hM, vd_S33_13 hM, c, if_true, vd_rok0], Or.inl rfl, h, fun _ => rfl, vd_fP.refl f⟩
  · exact ⟨f, p, b, 1, fun d Q => by simp (disch := first | decide | omega) only [vd_S33_0 hM, vd_S33_8 hM, vd_S33_13 hM, c, if_false, vd_rok1], Or.inr rfl, h, fun _ => rfl, vd_fP.refl f⟩
theorem vd_P33k (hM : vd_SC M ow fa lo lf) {f : Nat → Nat → Int32} {kd : Int} (h : f 17 4 = vd_I kd) (k0 : 0 ≤ kd) (k1 : kd ≤ 2) (d : Nat) (Q : vd_M → (Option Value ⊕ Nat) → Prop) : vd_wp d 33 0 [.ref 17] [] (vd_mf M f) Q = Q (vd_mf M f) (.inl (some (.int (vd_I (if kd = 2 then 0 else 1))))) := by
  by_cases c : kd = 2
  · rw [if_pos c]
    simp (disch := first | decide | omega) only [vd_S33_0 hM, vd_S33_12 hM, vd_S33_13 hM, h, vd_I_toInt, c, eq_self, if_true, vd_rok0]
  · rw [if_neg c]
    simp (disch := first | decide | omega) only [vd_S33_0 hM, vd_S33_8 hM, vd_S33_13 hM, h, vd_I_toInt, c, if_false, vd_rok1]
theorem vd_P36k (hM : vd_SC M ow fa lo lf) {f : Nat → Nat → Int32} {kd rs : Int} (h : f 17 4 = vd_I kd) (k0 : 0 ≤ kd) (k1 : kd ≤ 2) (h3 : f 17 3 = vd_I rs) (hr : rs = 0 ∨ rs = 1) (d : Nat) (Q : vd_M → (Option Value ⊕ Nat) → Prop) : vd_wp (d + 1) 36 0 [.ref 17] [] (vd_mf M f) Q = Q (vd_mf M f) (.inl (some (.int (vd_I (if kd = 2 ∧ rs = 0 then 0 else 1))))) := by
  have e := fun d Q => vd_P33k (d := d) (Q := Q) hM h k0 k1
  by_cases c : kd = 2
  · rw [if_pos c] at e
    rcases hr with rfl | rfl
    · rw [if_pos ⟨c, rfl⟩]
      simp (disch := first | decide | omega) only [vd_S36_0 hM, vd_S36_1 hM, vd_S36_4 hM, vd_S36_7 hM, vd_S36_18 hM, vd_S36_19 hM, e, vd_rs_v, vd_rs_n, h3, vd_I_toInt, eq_self, if_true, vd_rok0]
    · rw [if_neg (fun q => absurd q.2 (by decide))]
      simp (disch := first | decide | omega) only [vd_S36_0 hM, vd_S36_1 hM, vd_S36_4 hM, vd_S36_7 hM, vd_S36_14 hM, vd_S36_19 hM, e, vd_rs_v, vd_rs_n, h3, vd_I_toInt, eq_self, if_true, show ¬ ((1 : Int) = 0) by decide, if_false, vd_rok1]
  · rw [if_neg c] at e
    rw [if_neg (fun q => c q.1)]
    simp (disch := first | decide | omega) only [vd_S36_0 hM, vd_S36_1 hM, vd_S36_4 hM, vd_S36_14 hM, vd_S36_19 hM, e, vd_rs_v, vd_rs_n, vd_I_toInt, show ¬ ((1 : Int) = 0) by decide, if_false, vd_rok1]
theorem vd_U36 (hM : vd_SC M ow fa lo lf) (n : Nat) (hn : 1 ≤ n) : ∀ (f : Nat → Nat → Int32) (p e b : Int), vd_pb f p e b → ∃ (f' : Nat → Nat → Int32) (p' b' r : Int), (∀ d Q, vd_wp (d + n) 36 0 [.ref 17] [] (vd_mf M f) Q = Q (vd_mf M f') (.inl (some (.int (vd_I r))))) ∧ vd_b01P r ∧ vd_pb f' p' e b' ∧ (b ≠ 0 → b' = b) ∧ vd_fP f f' := fun f p e b h => by
  obtain ⟨j, rfl⟩ : ∃ j, n = j + 1 := ⟨n - 1, by omega⟩
  obtain ⟨f1, p1, b1, r1, q1, q2, q3, q4, q5⟩ := vd_U33 hM j f p e b h
  have ed : ∀ d, d + (j + 1) = (d + j) + 1 := fun _ => rfl
  rcases q2 with rfl | rfl
  · by_cases c : (f1 17 3).toInt = 0
    · refine ⟨f1, p1, b1, 0, fun d Q => ?_, Or.inl rfl, q3, q4, q5⟩
      rw [ed]
      simp (disch := first | decide | omega) only [vd_S36_0 hM, vd_S36_1 hM, vd_S36_4 hM, vd_S36_7 hM, vd_S36_18 hM, vd_S36_19 hM, q1, vd_rs_v, vd_rs_n, c, vd_I_toInt, eq_self, if_true, vd_rok0]
    · refine ⟨f1, p1, b1, 1, fun d Q => ?_, Or.inr rfl, q3, q4, q5⟩
      rw [ed]
      simp (disch := first | decide | omega) only [vd_S36_0 hM, vd_S36_1 hM, vd_S36_4 hM, vd_S36_7 hM, vd_S36_14 hM, vd_S36_19 hM, q1, vd_rs_v, vd_rs_n, c, vd_I_toInt, eq_self, if_true, if_false, vd_rok1]
  · refine ⟨f1, p1, b1, 1, fun d Q => ?_, Or.inr rfl, q3, q4, q5⟩
    rw [ed]
    simp (disch := first | decide | omega) only [vd_S36_0 hM, vd_S36_1 hM, vd_S36_4 hM, vd_S36_14 hM, vd_S36_19 hM, q1, vd_rs_v, vd_rs_n, vd_I_toInt, show ¬ ((1 : Int) = 0) by decide, if_false, vd_rok1]
theorem vd_P45 (hM : vd_SC M ow fa lo lf) {f : Nat → Nat → Int32} {p e b : Int} (h : vd_pb f p e b) (d : Nat) (Q : vd_M → (Option Value ⊕ Nat) → Prop) : vd_wp d 45 0 [.ref 16] [] (vd_mf M f) Q = Q (vd_mf M f) (.inl (some (.int (vd_I ((p + 7) / 8))))) := by
  obtain ⟨h1, _, _, b1, b2, b3, _⟩ := h
  simp (disch := omega) only [vd_S45_0 hM, h1, vd_I_add, vd_shr3]
theorem vd_U45 (hM : vd_SC M ow fa lo lf) (n : Nat) : ∀ (f : Nat → Nat → Int32) (p e b : Int), vd_pb f p e b → ∃ (f' : Nat → Nat → Int32) (p' b' r : Int), (∀ d Q, vd_wp (d + n) 45 0 [.ref 16] [] (vd_mf M f) Q = Q (vd_mf M f') (.inl (some (.int (vd_I r))))) ∧ True ∧ vd_pb f' p' e b' ∧ (b ≠ 0 → b' = b) ∧ vd_fP f f' := fun f p e b h => ⟨f, p, b, (p + 7) / 8, fun d Q => vd_P45 hM h _ Q, trivial, h, fun _ => rfl, vd_fP.refl f⟩
def vd_l29 (x4 : Int32) (a5 a6 : Value) : List Value := [.ref 17, .ref 16, .ref 13, .ref 27, .int x4, a5, a6]
/-- the class's header behind a fault: second part -/
def vd_U29P (M : vd_M) (x4 : Int32) : Prop := (∀ (x5 : Int32) (a6 : Value), vd_UC M vd_Tn 5 29 139 [.ref 17, .ref 16, .ref 13, .ref 27, .int x4, .int x5, a6] []) ∧ (∀ (x5 : Int32) (a6 : Value) r, vd_b01P r → vd_UC M vd_Tn 5 29 144 [.ref 17, .ref 16, .ref 13, .ref 27, .int x4, .int x5, a6] [.int (vd_I r), .ref 17]) ∧ (∀ (x5 : Int32) (a6 : Value) r, vd_b01P r → vd_UC M vd_Tn 5 29 152 [.ref 17, .ref 16, .ref 13, .ref 27, .int x4, .int x5, a6] [.int (vd_I r), .ref 17]) ∧ (∀ (x5 : Int32) (a6 : Value) r, vd_bnP 2 r → vd_UC M vd_Tn 5 29 161 [.ref 17, .ref 16, .ref 13, .ref 27, .int x4, .int x5, a6] [.int (vd_I r), .ref 17]) ∧ (∀ (x5 : Int32) (a6 : Value), vd_UC M vd_Tn 5 29 173 [.ref 17, .ref 16, .ref 13, .ref 27, .int x4, .int x5, a6] []) ∧ (∀ (x5 : Int32) (a6 : Value) r, vd_bnP 16 r → vd_UC M vd_Tn 5 29 179 [.ref 17, .ref 16, .ref 13, .ref 27, .int x4, .int x5, a6] [.int (vd_I r)]) ∧ (∀ x5 x6 : Int32, vd_UC M vd_Tn 5 29 220 [.ref 17, .ref 16, .ref 13, .ref 27, .int x4, .int x5, .int x6] [])
theorem vd_U29b (hM : vd_SC M ow fa lo lf) (x4 : Int32) : vd_U29P M x4 := by
  have u220 : ∀ x5 x6 : Int32, vd_UC M vd_Tn 5 29 220 [.ref 17, .ref 16, .ref 13, .ref 27, .int x4, .int x5, .int x6] [] := fun x5 x6 => vd_UC.ret () vd_okI (fun d f Q => by simp only [vd_S29_220 hM, vd_Tn, vd_TR])
  have u214 : ∀ x5 x6 : Int32, vd_UC M vd_Tn 5 29 214 [.ref 17, .ref 16, .ref 13, .ref 27, .int x4, .int x5, .int x6] [] := fun x5 x6 => vd_UC.call (vd_U31 hM 4 (x := 7) (by decide) (by decide)) vd_okI (u220 x5 x6) (fun d f Q => by simp only [vd_S29_214 hM, vd_S29_217 hM])
  have u205 : ∀ x5 x6 : Int32, vd_UC M vd_Tn 5 29 205 [.ref 17, .ref 16, .ref 13, .ref 27, .int x4, .int x5, .int x6] [] := fun x5 x6 => vd_UC.or vd_okI (u220 x5 x6) (u214 x5 x6) (fun f => by
    by_cases c : (f 17 16).toInt < x4.toInt
    · exact Or.inl (fun d Q => by simp only [vd_S29_205 hM, c, if_true])
    · exact Or.inr (fun d Q => by simp only [vd_S29_205 hM, c, if_false]))
  have u186 : ∀ (x5 x6 : Int32) (r : Int), True → vd_UC M vd_Tn 5 29 186 [.ref 17, .ref 16, .ref 13, .ref 27, .int x4, .int x5, .int x6] [.int (vd_I r), .ref 17] := fun x5 x6 r _ => by
    have hF : vd_okF (fun f => vd_up (vd_up f 17 15 (vd_I r)) 17 16 (vd_I r + x6)) := vd_ok2 (by omega) (by omega)
    by_cases c : x6.toInt = 0
    · exact vd_UC.go hF (u214 x5 x6) (fun d f Q => by simp only [vd_S29_186 hM, c, if_true])
    · exact vd_UC.go hF (u205 x5 x6) (fun d f Q => by simp only [vd_S29_186 hM, c, if_false])
  have u179 : ∀ (x5 : Int32) (a6 : Value) r, vd_bnP 16 r → vd_UC M vd_Tn 5 29 179 [.ref 17, .ref 16, .ref 13, .ref 27, .int x4, .int x5, a6] [.int (vd_I r)] := fun x5 a6 r _ => vd_UC.ask (vd_U45 hM 4) vd_okI (u186 x5 (vd_I r)) (fun d f Q => by simp only [vd_S29_179 hM, vd_S29_183 hM])
  have u173 : ∀ (x5 : Int32) (a6 : Value), vd_UC M vd_Tn 5 29 173 [.ref 17, .ref 16, .ref 13, .ref 27, .int x4, .int x5, a6] [] := fun x5 a6 => vd_UC.ask (vd_U30 hM 4 16 (by decide) (by decide)) vd_okI (u179 x5 a6) (fun d f Q => by simp only [vd_S29_173 hM, vd_S29_176 hM])
  have u170 : ∀ (x5 : Int32) (a6 : Value) r, vd_b01P r → vd_UC M vd_Tn 5 29 170 [.ref 17, .ref 16, .ref 13, .ref 27, .int x4, .int x5, a6] [.int (vd_I r), .ref 16, .ref 27] := fun x5 a6 r _ => vd_UC.call (vd_U37 hM (vd_I r)) vd_okI (u173 x5 a6) (fun d f Q => by simp only [vd_S29_170 hM])
  have u161 : ∀ (x5 : Int32) (a6 : Value) r, vd_bnP 2 r → vd_UC M vd_Tn 5 29 161 [.ref 17, .ref 16, .ref 13, .ref 27, .int x4, .int x5, a6] [.int (vd_I r), .ref 17] := fun x5 a6 r _ => vd_UC.ask (vd_U36 hM 4 (by decide)) (vd_ok1 (c := 17) (i := 14) (v := vd_I r) (by omega)) (u170 x5 a6) (fun d f Q => by simp only [vd_S29_161 hM, vd_S29_167 hM])
  have u152 : ∀ (x5 : Int32) (a6 : Value) r, vd_b01P r → vd_UC M vd_Tn 5 29 152 [.ref 17, .ref 16, .ref 13, .ref 27, .int x4, .int x5, a6] [.int (vd_I r), .ref 17] := fun x5 a6 r hr => by
    have hok : vd_fok .boolean (vd_I r) = true := by rcases hr with rfl | rfl <;> decide
    exact vd_UC.ask (vd_U30 hM 4 2 (by decide) (by decide)) (vd_ok1 (c := 17) (i := 13) (v := vd_I r) (by omega)) (u161 x5 a6) (fun d f Q => by simp (disch := assumption) only [vd_S29_152 hM, vd_S29_158 hM])
  have u144 : ∀ (x5 : Int32) (a6 : Value) r, vd_b01P r → vd_UC M vd_Tn 5 29 144 [.ref 17, .ref 16, .ref 13, .ref 27, .int x4, .int x5, a6] [.int (vd_I r), .ref 17] := fun x5 a6 r hr => by
    have hok : vd_fok .boolean (vd_I r) = true := by rcases hr with rfl | rfl <;> decide
    exact vd_UC.ask (vd_U32 hM 4 (by decide)) (vd_ok1 (c := 17) (i := 12) (v := vd_I r) (by omega)) (u152 x5 a6) (fun d f Q => by simp (disch := assumption) only [vd_S29_144 hM, vd_S29_149 hM])
  have u139 : ∀ (x5 : Int32) (a6 : Value), vd_UC M vd_Tn 5 29 139 [.ref 17, .ref 16, .ref 13, .ref 27, .int x4, .int x5, a6] [] := fun x5 a6 => vd_UC.ask (vd_U32 hM 4 (by decide)) vd_okI (u144 x5 a6) (fun d f Q => by simp only [vd_S29_139 hM, vd_S29_141 hM])
  exact ⟨u139, u144, u152, u161, u173, u179, u220⟩
/-- first part -/
def vd_U29Q (M : vd_M) (x4 : Int32) : Prop := (∀ (a5 a6 : Value) r, vd_bnP 2 r → vd_UC M vd_Tn 5 29 5 [.ref 17, .ref 16, .ref 13, .ref 27, .int x4, a5, a6] [.int (vd_I r)]) ∧ (∀ (a5 a6 : Value), vd_UC M vd_Tn 5 29 14 [.ref 17, .ref 16, .ref 13, .ref 27, .int x4, a5, a6] []) ∧ (∀ (a5 a6 : Value) r, vd_b01P r → vd_UC M vd_Tn 5 29 19 [.ref 17, .ref 16, .ref 13, .ref 27, .int x4, a5, a6] [.int (vd_I r), .ref 17]) ∧ (∀ (a5 a6 : Value) r, vd_bnP 3 r → vd_UC M vd_Tn 5 29 35 [.ref 17, .ref 16, .ref 13, .ref 27, .int x4, a5, a6] [.int (vd_I r), .ref 17]) ∧ (∀ (a5 a6 : Value), vd_UC M vd_Tn 5 29 52 [.ref 17, .ref 16, .ref 13, .ref 27, .int x4, a5, a6] []) ∧ (∀ (a5 a6 : Value) r, vd_b01P r → vd_UC M vd_Tn 5 29 57 [.ref 17, .ref 16, .ref 13, .ref 27, .int x4, a5, a6] [.int (vd_I r)]) ∧ (∀ (x5 : Int32) (a6 : Value) r, vd_b01P r → vd_UC M vd_Tn 5 29 64 [.ref 17, .ref 16, .ref 13, .ref 27, .int x4, .int x5, a6] [.int (vd_I r), .ref 17]) ∧ (∀ (x5 : Int32) (a6 : Value) r, vd_b01P r → vd_UC M vd_Tn 5 29 72 [.ref 17, .ref 16, .ref 13, .ref 27, .int x4, .int x5, a6] [.int (vd_I r), .ref 17]) ∧ (∀ (x5 : Int32) (a6 : Value) r, vd_b01P r → vd_UC M vd_Tn 5 29 97 [.ref 17, .ref 16, .ref 13, .ref 27, .int x4, .int x5, a6] [.int (vd_I r), .ref 17]) ∧ (∀ (x5 : Int32) (a6 : Value) r, vd_bnP 8 r → vd_UC M vd_Tn 5 29 115 [.ref 17, .ref 16, .ref 13, .ref 27, .int x4, .int x5, a6] [.int (vd_I r), .ref 17])
theorem vd_U29a (hM : vd_SC M ow fa lo lf) (hs : vd_slk M) (x4 : Int32) : vd_U29Q M x4 := by
  obtain ⟨u139, _⟩ := vd_U29b hM x4
  have u122 : ∀ (x5 : Int32) (a6 : Value) r, vd_b01P r → vd_UC M vd_Tn 5 29 122 [.ref 17, .ref 16, .ref 13, .ref 27, .int x4, .int x5, a6] [.int (vd_I r)] := fun x5 a6 r hr => by
    rcases hr with rfl | rfl
    · exact vd_UC.call (vd_U35w hM hs) vd_okI (u139 x5 a6) (fun d f Q => by simp (disch := omega) only [vd_S29_122 hM, vd_S29_133 hM, vd_S29_136 hM, vd_I_toInt, eq_self, if_true])
    · have u130 : vd_UC M vd_Tn 5 29 130 [.ref 17, .ref 16, .ref 13, .ref 27, .int x4, .int x5, a6] [] := vd_UC.s (u139 x5 a6) (fun d f Q => by simp only [vd_S29_130 hM])
      exact vd_UC.call (vd_U34w hM) vd_okI u130 (fun d f Q => by simp (disch := omega) only [vd_S29_122 hM, vd_S29_125 hM, vd_S29_127 hM, vd_I_toInt, show ¬ ((1 : Int) = 0) by decide, if_false])
  have u118 : ∀ (x5 : Int32) (a6 : Value), vd_UC M vd_Tn 5 29 118 [.ref 17, .ref 16, .ref 13, .ref 27, .int x4, .int x5, a6] [] := fun x5 a6 => vd_UC.ask (vd_U33 hM 4) vd_okI (u122 x5 a6) (fun d f Q => by simp only [vd_S29_118 hM, vd_S29_119 hM])
  have u115 : ∀ (x5 : Int32) (a6 : Value) r, vd_bnP 8 r → vd_UC M vd_Tn 5 29 115 [.ref 17, .ref 16, .ref 13, .ref 27, .int x4, .int x5, a6] [.int (vd_I r), .ref 17] := fun x5 a6 r _ => vd_UC.go (vd_ok1 (c := 17) (i := 7) (v := vd_I r) (by omega)) (u118 x5 a6) (fun d f Q => by simp only [vd_S29_115 hM])
  have u97 : ∀ (x5 : Int32) (a6 : Value) r, vd_b01P r → vd_UC M vd_Tn 5 29 97 [.ref 17, .ref 16, .ref 13, .ref 27, .int x4, .int x5, a6] [.int (vd_I r), .ref 17] := fun x5 a6 r hr => by
    rcases hr with rfl | rfl
    · exact vd_UC.ask (vd_U30 hM 4 8 (by decide) (by decide)) (vd_ok1 (c := 17) (i := 4) (v := vd_I 2) (by omega)) (u115 x5 a6) (fun d f Q => by simp (disch := omega) only [vd_S29_97 hM, vd_S29_104 hM, vd_S29_105 hM, vd_S29_112 hM, vd_I_toInt, eq_self, if_true])
    · exact vd_UC.ask (vd_U30 hM 4 8 (by decide) (by decide)) (vd_ok1 (c := 17) (i := 4) (v := vd_I 1) (by omega)) (u115 x5 a6) (fun d f Q => by simp (disch := omega) only [vd_S29_97 hM, vd_S29_100 hM, vd_S29_105 hM, vd_S29_112 hM, vd_I_toInt, show ¬ ((1 : Int) = 0) by decide, if_false])
  have u72 : ∀ (x5 : Int32) (a6 : Value) r, vd_b01P r → vd_UC M vd_Tn 5 29 72 [.ref 17, .ref 16, .ref 13, .ref 27, .int x4, .int x5, a6] [.int (vd_I r), .ref 17] := fun x5 a6 r hr => by
    have hok : vd_fok .boolean (vd_I r) = true := by rcases hr with rfl | rfl <;> decide
    have hF : vd_okF (fun f => vd_up (vd_up (vd_up f 17 3 (vd_I r)) 17 4 (vd_I 0)) 17 7 (vd_I 255)) := fun f => (((vd_fU.refl f).up (by omega)).up (by omega)).up (by omega)
    by_cases c : x5.toInt = 0
    · exact vd_UC.go hF (u118 x5 a6) (fun d f Q => by simp (disch := assumption) only [vd_S29_72 hM, c, if_true])
    · exact vd_UC.ask (vd_U32 hM 4 (by decide)) hF (u97 x5 a6) (fun d f Q => by simp (disch := assumption) only [vd_S29_72 hM, vd_S29_92 hM, vd_S29_94 hM, c, if_false])
  have u64 : ∀ (x5 : Int32) (a6 : Value) r, vd_b01P r → vd_UC M vd_Tn 5 29 64 [.ref 17, .ref 16, .ref 13, .ref 27, .int x4, .int x5, a6] [.int (vd_I r), .ref 17] := fun x5 a6 r hr => by
    have hok : vd_fok .boolean (vd_I r) = true := by rcases hr with rfl | rfl <;> decide
    exact vd_UC.ask (vd_U32 hM 4 (by decide)) (vd_ok1 (c := 17) (i := 2) (v := vd_I r) (by omega)) (u72 x5 a6) (fun d f Q => by simp (disch := assumption) only [vd_S29_64 hM, vd_S29_69 hM])
  have u57 : ∀ (a5 a6 : Value) r, vd_b01P r → vd_UC M vd_Tn 5 29 57 [.ref 17, .ref 16, .ref 13, .ref 27, .int x4, a5, a6] [.int (vd_I r)] := fun a5 a6 r _ => vd_UC.ask (vd_U32 hM 4 (by decide)) vd_okI (u64 (vd_I r) a6) (fun d f Q => by simp only [vd_S29_57 hM, vd_S29_61 hM])
  have u52 : ∀ (a5 a6 : Value), vd_UC M vd_Tn 5 29 52 [.ref 17, .ref 16, .ref 13, .ref 27, .int x4, a5, a6] [] := fun a5 a6 => vd_UC.ret () vd_okI (fun d f Q => by simp only [vd_S29_52 hM, vd_Tn, vd_TR])
  have u35 : ∀ (a5 a6 : Value) r, vd_bnP 3 r → vd_UC M vd_Tn 5 29 35 [.ref 17, .ref 16, .ref 13, .ref 27, .int x4, a5, a6] [.int (vd_I r), .ref 17] := fun a5 a6 r hr => by
    have hr := hr.n (z := 8) (by decide)
    cases h : vd_r M 13 r.toNat with
    | none => exact vd_UC.call (vd_U31 hM 4 (x := 3) (by decide) (by decide)) (vd_ok1 (c := 17) (i := 1) (v := vd_I r) (by omega)) (u52 a5 a6) (fun d f Q => by simp (disch := omega) only [vd_S29_35 hM, vd_S29_43 hM, h, vd_vr_none, vd_S29_44n hM, vd_S29_47 hM, vd_S29_49 hM])
    | some o => exact vd_UC.go (vd_ok1 (c := 17) (i := 1) (v := vd_I r) (by omega)) (u52 a5 a6) (fun d f Q => by simp (disch := omega) only [vd_S29_35 hM, vd_S29_43 hM, h, vd_vr_some, vd_S29_44 hM])
  have u19 : ∀ (a5 a6 : Value) r, vd_b01P r → vd_UC M vd_Tn 5 29 19 [.ref 17, .ref 16, .ref 13, .ref 27, .int x4, a5, a6] [.int (vd_I r), .ref 17] := fun a5 a6 r hr => by
    rcases hr with rfl | rfl
    · exact vd_UC.ask (vd_U32 hM 4 (by decide)) (vd_ok1 (c := 17) (i := 0) (v := vd_I 0) (by omega)) (u57 a5 a6) (fun d f Q => by simp (disch := first | decide | omega) only [vd_S29_19 hM, vd_S29_53 hM, vd_S29_54 hM, vd_fok0, vd_I_toInt, eq_self, if_true])
    · exact vd_UC.ask (vd_U30 hM 4 3 (by decide) (by decide)) (vd_ok1 (c := 17) (i := 0) (v := vd_I 1) (by omega)) (u35 a5 a6) (fun d f Q => by simp (disch := first | decide | omega) only [vd_S29_19 hM, vd_S29_29 hM, vd_S29_32 hM, vd_fok1, vd_I_toInt, show ¬ ((1 : Int) = 0) by decide, if_false])
  have u14 : ∀ (a5 a6 : Value), vd_UC M vd_Tn 5 29 14 [.ref 17, .ref 16, .ref 13, .ref 27, .int x4, a5, a6] [] := fun a5 a6 => vd_UC.ask (vd_U32 hM 4 (by decide)) vd_okI (u19 a5 a6) (fun d f Q => by simp only [vd_S29_14 hM, vd_S29_16 hM])
  have u5 : ∀ (a5 a6 : Value) r, vd_bnP 2 r → vd_UC M vd_Tn 5 29 5 [.ref 17, .ref 16, .ref 13, .ref 27, .int x4, a5, a6] [.int (vd_I r)] := fun a5 a6 r hr => by
    have hr := hr.n (z := 4) (by decide)
    by_cases c : r = 2
    · exact vd_UC.s (u14 a5 a6) (fun d f Q => by simp (disch := omega) only [vd_S29_5 hM, vd_I_toInt, c, eq_self, if_true])
    · exact vd_UC.call (vd_U31 hM 4 (x := 2) (by decide) (by decide)) vd_okI (u14 a5 a6) (fun d f Q => by simp (disch := omega) only [vd_S29_5 hM, vd_S29_9 hM, vd_S29_11 hM, vd_I_toInt, c, if_false])
  exact ⟨u5, u14, u19, u35, u52, u57, u64, u72, u97, u115⟩
end VDHB
