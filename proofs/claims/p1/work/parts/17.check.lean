/-! ===== the tables are checked by a program; what a good check means ===== -/
def vd_wi (w : Nat) (c : Cond) : Bool := decide (lw_tbl[w]? = some c) && vd_gw c
theorem vd_wi_mem {w : Nat} {c : Cond} (h : vd_wi w c = true) : c ∈ vd_tb := by
  simp only [vd_wi, Bool.and_eq_true, decide_eq_true_eq] at h
  exact vd_tb_mem (List.mem_of_getElem? h.1) h.2
def vd_li (w : Nat) (own : String) (idx : Nat) (y : MethodName) : Bool := (match lw_tbl[w]? with
  | some (.methodLink o2 i2 y2) => decide (o2 = own ∧ i2 = idx ∧ y2 = y)
  | some (.methodLinkNest o2 i2 y2 _) => decide (o2 = own ∧ i2 = idx ∧ y2 = y)
  | _ => false)
theorem vd_li_mem {w : Nat} {own : String} {idx : Nat} {y : MethodName} (h : vd_li w own idx y = true) : vd_lnk own idx y := by
  unfold vd_li at h
  split at h
  · rename_i o2 i2 y2 hw
    simp only [decide_eq_true_eq] at h
    obtain ⟨rfl, rfl, rfl⟩ := h
    exact Or.inl (vd_tb_mem (List.mem_of_getElem? hw) rfl)
  · rename_i o2 i2 y2 host hw
    simp only [decide_eq_true_eq] at h
    obtain ⟨rfl, rfl, rfl⟩ := h
    exact Or.inr ⟨host, vd_tb_mem (List.mem_of_getElem? hw) rfl⟩
  · cases h
/-- a method that may be called: words by their places (initialized, static or instance, selects); its code's word stands by itself -/
def vd_chkM (h : vd_H) (raw : List (Nat × Nat × Nat × Nat)) (w : Nat × Nat × Nat) : Bool :=
  vd_wi w.1 (.initialized h.1.cls) && decide (h.1.cls ≠ "java/lang/invoke/MethodHandle" ∧ h.1.cls ≠ "java/lang/invoke/VarHandle") && plainFor h.1 && decide (h.2.2.1 ≤ 45) && decide ((parseMethodDescriptor h.1.desc).map (fun d => d.parameters.length) = some (if h.2.2.2.2.2 = 99 then h.2.2.2.2.1 else h.2.2.2.2.1 - 1)) && decide (h.2.2.2.2.2 ≠ 99 → 1 ≤ h.2.2.2.2.1) && (if h.2.2.2.2.2 = 99 then vd_wi w.2.1 (.static h.1) else vd_wi w.2.1 (.instanceMethod h.1) && (match vd_cls[h.2.2.2.2.2]? with
      | some r => decide (r.1 = h.1.cls)
      | none => false) && (if h.1.name = "<init>" then decide (h.2.2.2.1 = none ∧ raw = []) else vd_wi w.2.2 (.selects h.1.cls h.1 h.1)))
def vd_Mk (h : vd_H) (raw : List (Nat × Nat × Nat × Nat)) : Prop := vd_mok h ∧ vd_cdw h raw ∧ (h.2.2.2.2.2 = 99 → Cond.static h.1 ∈ vd_tb) ∧ (h.2.2.2.2.2 ≠ 99 → Cond.instanceMethod h.1 ∈ vd_tb ∧ (∃ r : vw_C, vd_cls[h.2.2.2.2.2]? = some r ∧ r.1 = h.1.cls) ∧ (h.1.name = "<init>" → Cond.code h.1 h.2.1 h.2.2.1 none ∈ vd_tb) ∧ (h.1.name ≠ "<init>" → Cond.selects h.1.cls h.1 h.1 ∈ vd_tb))
theorem vd_chkM_ok {h : vd_H} {raw : List (Nat × Nat × Nat × Nat)} {w : Nat × Nat × Nat} (hcd : vd_cdw h raw) (hraw : raw = [] → Cond.code h.1 h.2.1 h.2.2.1 h.2.2.2.1 ∈ vd_tb) (hc : vd_chkM h raw w = true) : vd_Mk h raw := by
  unfold vd_chkM at hc
  simp only [Bool.and_eq_true, decide_eq_true_eq] at hc
  obtain ⟨⟨⟨⟨⟨⟨c2, c3⟩, c4⟩, c5⟩, c6⟩, c7⟩, c8⟩ := hc
  refine ⟨⟨vd_wi_mem c2, c3, c4, c5, c6, c7⟩, hcd, fun q => ?_, fun q => ?_⟩
  · rw [if_pos q] at c8
    exact vd_wi_mem c8
  · rw [if_neg q] at c8
    simp only [Bool.and_eq_true] at c8
    obtain ⟨⟨d1, d2⟩, d3⟩ := c8
    refine ⟨vd_wi_mem d1, ?_, fun n => ?_, fun n => ?_⟩
    · split at d2
      · rename_i r hr
        exact ⟨r, hr, by simpa using d2⟩
      · cases d2
    · rw [if_pos n] at d3
      simp only [decide_eq_true_eq] at d3
      have := hraw d3.2
      rw [d3.1] at this
      exact this
    · rw [if_neg n] at d3
      exact vd_wi_mem d3
theorem vd_MkC {h : vd_H} {w : Nat × Nat × Nat} (i : Nat) (hi : lw_tbl[i]? = some (Cond.code h.1 h.2.1 h.2.2.1 h.2.2.2.1)) (hc : vd_chkM h [] w = true) : vd_Mk h [] := vd_chkM_ok (Or.inl ⟨vd_tb_mem (List.mem_of_getElem? hi) rfl, rfl⟩) (fun _ => vd_tb_mem (List.mem_of_getElem? hi) rfl) hc
theorem vd_MkW {h : vd_H} {a : Nat × Nat × Nat × Nat} {r : List (Nat × Nat × Nat × Nat)} {w : Nat × Nat × Nat} (i : Nat) (hi : lw_tbl[i]? = some (Cond.codeWith h.1 h.2.1 h.2.2.1 h.2.2.2.1 (a :: r))) (hc : vd_chkM h (a :: r) w = true) : vd_Mk h (a :: r) := vd_chkM_ok (Or.inr (vd_tb_mem (List.mem_of_getElem? hi) rfl)) (fun q => by cases q) hc
/-- words of a class that is made: instantiable, initialized -/
def vd_chk (HD : Nat → vd_H) (iw : Nat → Nat × Nat) (k : Nat) (q : Nat × vd_E × Nat) : Bool :=
  decide (decode (HD k).2.1 q.1 = .ok (q.2.1.1, q.2.1.2.1)) && vd_tok q.2.1.1 q.1 q.2.1.2.1 && (match q.2.1.2.2.1 with
    | 0 => (match q.2.1.1 with
      | .ldc idx => (match q.2.1.2.2.2.2.2 with | .int v => vd_wi q.2.2 (.constant (HD k).1.cls idx v) | _ => true)
      | .ldc_w idx => (match q.2.1.2.2.2.2.2 with | .int v => vd_wi q.2.2 (.constant (HD k).1.cls idx v) | _ => true)
      | .ldc2_w idx => (match q.2.1.2.2.2.2.2 with | .long v => vd_wi q.2.2 (.constantLong (HD k).1.cls idx v) | _ => true)
      | _ => true)
    | 1 => (match q.2.1.1 with
      | .getfield idx => (match vd_cls[q.2.1.2.2.2.1]? with
        | some r => decide (q.2.1.2.2.2.2.1 < r.2.2) && vd_wi q.2.2 (.fieldLink (HD k).1.cls idx (r.2.1 q.2.1.2.2.2.2.1).1 (r.2.1 q.2.1.2.2.2.2.1).2.1 (r.2.1 q.2.1.2.2.2.2.1).2.2.1)
        | none => false)
      | .putfield idx => (match vd_cls[q.2.1.2.2.2.1]? with
        | some r => decide (q.2.1.2.2.2.2.1 < r.2.2) && vd_wi q.2.2 (.fieldLink (HD k).1.cls idx (r.2.1 q.2.1.2.2.2.2.1).1 (r.2.1 q.2.1.2.2.2.2.1).2.1 (r.2.1 q.2.1.2.2.2.2.1).2.2.1) && decide ((r.2.1 q.2.1.2.2.2.2.1).2.2.2 = true → (HD k).1.name = "<init>" ∧ (HD k).1.cls = (r.2.1 q.2.1.2.2.2.2.1).1)
        | none => false)
      | .getstatic idx => decide (q.2.1.2.2.2.2.1 < 8) && vd_wi q.2.2 (.fieldLink (HD k).1.cls idx (vd_zn q.2.1.2.2.2.2.1).1 (vd_zn q.2.1.2.2.2.2.1).2 "[I")
      | _ => true)
    | 2 => (match q.2.1.1 with
      | .new idx => (match vd_cls[q.2.1.2.2.2.1]? with
        | some r => vd_wi q.2.2 (.classLink (HD k).1.cls idx r.1) && vd_wi (iw q.2.1.2.2.2.1).1 (.instantiable r.1 q.2.1.2.2.2.2.1) && vd_wi (iw q.2.1.2.2.2.1).2 (.initialized r.1) && decide (∀ j, j < r.2.2 → (vd_fty q.2.1.2.2.2.1 j = .int ∨ vd_fty q.2.1.2.2.2.1 j = .boolean ∨ vd_isr (vd_fty q.2.1.2.2.2.1 j) = true))
        | none => false)
      | .newarray t => vd_wi q.2.2 (.arrayClass (newarray.typeOf t))
      | .anewarray idx => vd_wi q.2.2 (.classLink (HD k).1.cls idx (vd_tn (vd_aty q.2.1.2.2.2.1))) && vd_wi q.2.1.2.2.2.2.1 (.arrayOver (vd_aty q.2.1.2.2.2.1))
      | _ => true)
    | 3 => (match q.2.1.1 with
      | .invokestatic idx => vd_li q.2.2 (HD k).1.cls idx (HD q.2.1.2.2.2.1).1 && decide ((HD q.2.1.2.2.2.1).2.2.2.2.2 = 99)
      | .invokevirtual idx => vd_li q.2.2 (HD k).1.cls idx (HD q.2.1.2.2.2.1).1 && decide ((HD q.2.1.2.2.2.1).2.2.2.2.2 ≠ 99 ∧ (HD q.2.1.2.2.2.1).1.name ≠ "<init>")
      | .invokespecial idx => vd_li q.2.2 (HD k).1.cls idx (HD q.2.1.2.2.2.1).1 && decide ((HD q.2.1.2.2.2.1).2.2.2.2.2 ≠ 99 ∧ (HD q.2.1.2.2.2.1).1.name = "<init>")
      | _ => false)
    | 9 => (match q.2.1.1 with
      | .invokevirtual idx => vd_li q.2.2 (HD k).1.cls idx (HD q.2.1.2.2.2.1).1 && decide ((HD q.2.1.2.2.2.1).2.2.2.2.2 ≠ 99 ∧ (HD q.2.1.2.2.2.1).1.name ≠ "<init>")
      | _ => false)
    | 5 => (match q.2.1.1 with
      | .invokespecial idx => vd_wi q.2.2 (.methodLink (HD k).1.cls idx objectInit)
      | _ => false)
    | 6 => (match q.2.1.1 with
      | .invokestatic idx => vd_wi q.2.2 (.methodLink (HD k).1.cls idx arraycopyName)
      | _ => false)
    | _ => true)
theorem vd_chk_ok {P : vd_P} {iw : Nat → Nat × Nat} {k pc : Nat} {x : vd_E} {w : Nat} (hc : vd_chk P.2.1 iw k (pc, x, w) = true) (hM : ∀ a, x.2.2.1 = 3 ∨ x.2.2.1 = 9 → a = x.2.2.2.1 → vd_Mk (P.2.1 a) (P.2.2.2 a)) (hO : Cond.instanceMethod objectInit ∈ vd_tb ∧ Cond.code objectInit ⟨#[0xb1]⟩ 1 none ∈ vd_tb) (hA : Cond.native arraycopyName ∈ vd_tb ∧ Cond.static arraycopyName ∈ vd_tb ∧ Cond.initialized "java/lang/System" ∈ vd_tb) : vd_EOK P k pc x := by
  obtain ⟨i, len, t, a, b, cv⟩ := x
  unfold vd_chk at hc
  simp only [Bool.and_eq_true, decide_eq_true_eq] at hc
  obtain ⟨⟨h1, h2⟩, h3⟩ := hc
  refine ⟨h1, h2, fun q => ?_, fun q => ?_, fun q => ?_, fun q => ?_, fun q => ?_, fun q => ?_⟩
  · simp only at q
    subst q
    simp only at h3
    cases i with
    | ldc idx => intro v hv; simp only at hv; subst hv; exact vd_wi_mem h3
    | ldc_w idx => intro v hv; simp only at hv; subst hv; exact vd_wi_mem h3
    | ldc2_w idx => intro v hv; simp only at hv; subst hv; exact vd_wi_mem h3
    | _ => exact trivial
  · simp only at q
    subst q
    simp only at h3
    cases i with
    | getfield idx =>
      simp only at h3
      split at h3
      · rename_i r hr
        simp only [Bool.and_eq_true, decide_eq_true_eq] at h3
        exact ⟨r, hr, h3.1, vd_wi_mem h3.2⟩
      · cases h3
    | putfield idx =>
      simp only at h3
      split at h3
      · rename_i r hr
        simp only [Bool.and_eq_true, decide_eq_true_eq] at h3
        exact ⟨r, hr, h3.1.1, vd_wi_mem h3.1.2, fun w => ⟨by simpa using (h3.2 w).1, (h3.2 w).2⟩⟩
      · cases h3
    | getstatic idx =>
      simp only [Bool.and_eq_true, decide_eq_true_eq] at h3
      exact ⟨h3.1, vd_wi_mem h3.2⟩
    | _ => exact trivial
  · simp only at q
    subst q
    simp only at h3
    cases i with
    | new idx =>
      simp only at h3
      split at h3
      · rename_i r hr
        simp only [Bool.and_eq_true, decide_eq_true_eq] at h3
        exact ⟨r, hr, vd_wi_mem h3.1.1.1, vd_wi_mem h3.1.1.2, vd_wi_mem h3.1.2, h3.2⟩
      · cases h3
    | newarray t => exact vd_wi_mem h3
    | anewarray idx =>
      simp only [Bool.and_eq_true] at h3
      exact ⟨vd_wi_mem h3.1, vd_wi_mem h3.2⟩
    | _ => exact trivial
  · have hMa := hM a q rfl
    obtain ⟨m1, m2, m3, m4⟩ := hMa
    refine ⟨⟨m1, ?_⟩, m2⟩
    simp only at q
    rcases q with q | q
    · subst q
      simp only at h3
      cases i with
      | invokestatic idx =>
        simp only [Bool.and_eq_true, decide_eq_true_eq] at h3
        exact ⟨vd_li_mem h3.1, m3 h3.2, h3.2⟩
      | invokevirtual idx =>
        simp only [Bool.and_eq_true, decide_eq_true_eq] at h3
        obtain ⟨n1, n2, n3, n4⟩ := m4 h3.2.1
        exact ⟨vd_li_mem h3.1, n1, n4 h3.2.2, h3.2.1, n2⟩
      | invokespecial idx =>
        simp only [Bool.and_eq_true, decide_eq_true_eq] at h3
        obtain ⟨n1, n2, n3, n4⟩ := m4 h3.2.1
        exact ⟨vd_li_mem h3.1, n1, h3.2.2, n3 h3.2.2, h3.2.1⟩
      | _ => cases h3
    · subst q
      simp only at h3
      cases i with
      | invokevirtual idx =>
        simp only [Bool.and_eq_true, decide_eq_true_eq] at h3
        obtain ⟨n1, n2, n3, n4⟩ := m4 h3.2.1
        exact ⟨vd_li_mem h3.1, n1, n4 h3.2.2, h3.2.1, n2⟩
      | _ => cases h3
  · simp only at q
    subst q
    simp only at h3
    cases i with
    | invokespecial idx => exact ⟨vd_wi_mem h3, hO.1, hO.2⟩
    | _ => cases h3
  · simp only at q
    subst q
    simp only at h3
    cases i with
    | invokestatic idx => exact ⟨vd_wi_mem h3, hA.1, hA.2.1, hA.2.2⟩
    | _ => cases h3
