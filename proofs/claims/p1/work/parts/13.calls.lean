/-! ===== how a walk of the small machine ends; how a method is walked into and out of ===== -/
def vd_oc (ad : Nat → Nat) (res : Option Value ⊕ Nat) (o : Outcome) : Prop := match res with
  | .inl v => o = .returned (v.map (vd_cc ad))
  | .inr x => o = .threw (ad x)
def vd_Z (below : List Frame) (D : va_G) (z : Nat → Nat) (H0 : Heap) (res : Option Value ⊕ Nat) (M' : vd_M) (s : State) (mc ms : Nat) : State → Prop := fun t =>
  ∃ o, t.status = .running ∧ Ended t below o ∧ vd_oc (vd_ad z H0.size) res o ∧ vd_Rep D z H0 M' t t.heap ∧ s.WarmedH t.vm ∧ ∃ L : List Loc, s.sameButNew ({ t with vm := s.vm } : State) L mc ms ∧ ∀ q ∈ L, H0.size ≤ q.base
/-- the words of a method's code: without handlers, or with -/
def vd_cdw (h : vd_H) (raw : List (Nat × Nat × Nat × Nat)) : Prop := (Cond.code h.1 h.2.1 h.2.2.1 h.2.2.2.1 ∈ vd_tb ∧ raw = []) ∨ Cond.codeWith h.1 h.2.1 h.2.2.1 h.2.2.2.1 raw ∈ vd_tb
/-- a run of n steps is a walk of the machine -/
def vd_WS (P : vd_P) (n : Nat) : Prop :=
  ∀ (d k pc : Nat) (ls st : List Value) (M M' : vd_M) (res : Option Value ⊕ Nat), vd_run P n d k pc ls st M = some (M', res) →
  ∀ (p : Program) (l : Launch) (e : Env) (R : Room) (s : State) (m : MethodId) (args : Array Value) (below : List Frame) (meth : Method) (c : Code) (H : Heap) (locs : List Loc) (D : va_G) (z : Nat → Nat) (H0 : Heap) (L : Array Slot) (c0 s0 : Nat),
    e.platform.stackTraces = false → vd_Fx P k p m meth c s args → vd_KW D z H0 s → vd_Rep D z H0 M s H → vd_has (vd_ad z H0.size) L (P.2.1 k).2.2.1 ls → (∀ q ∈ locs, H0.size ≤ q.base) → H0.size ≤ s.heap.size → c0 ≤ vd_c M → s0 ≤ vd_s M → vd_c M' - c0 ≤ R.cells → vd_s M' - s0 ≤ R.slots → d + 8 ≤ R.frames → 64 * d + 400 ≤ R.locals →
    W p l e R s m args below meth c H locs (vd_c M - c0) (vd_s M - s0) (vd_Z below D z H0 res M' s (vd_c M' - c0) (vd_s M' - s0)) (F0 m pc L (st.map (vd_cc (vd_ad z H0.size))))
set_option maxRecDepth 8000 in
theorem vd_arith {a b c d r : Nat} (h1 : a + b ≤ 8) (h2 : c ≤ 45) (h3 : 64 * d + 464 ≤ r) : a + b + (c + 11) + (64 * d + 400) ≤ r := by omega
section VDG
variable {p : Program} {l : Launch} {e : Env} {R : Room} {s : State} {m : MethodId} {args : Array Value} {below : List Frame} {meth : Method} {c : Code} {H : Heap} {locs : List Loc} {cells slots : Nat} {Q : State → Prop}
variable {D : va_G} {z : Nat → Nat} {H0 : Heap} {M M' : vd_M} {own : String} {pc : Nat} {L : Array Slot} {T : State} {P : vd_P}
theorem vd_weak {tb : Tables} {g : JFrame} {a b : State} (h : Steps tb e (.java g :: below) a b) : Steps tb e below a b := by
  obtain ⟨n, h1, h2⟩ := h
  refine ⟨n, h1, fun k hk => ?_⟩
  obtain ⟨above, e1, e2, e3⟩ := h2 k hk
  refine ⟨above ++ [.java g], by rw [e1]; simp, by simp, fun x q => ?_⟩
  cases above with
  | nil => exact e2 rfl
  | cons y r => cases r <;> simp at q
/-- the facts of a method, by its word -/
theorem vd_facts {h : vd_H} {raw : List (Nat × Nat × Nat × Nat)} (hts : ∀ w ∈ vd_tb, w.before args s = true) (hw : vd_cdw h raw) : ∃ (mk : MethodId) (mM : Method) (cM : Code), s.methodNamed? h.1 = some mk ∧ s.vm.method? mk = some mM ∧ mM.code = some cM ∧ cM.code = h.2.1 ∧ cM.maxLocals = h.2.2.1 ∧ mM.sig.returnType = h.2.2.2.1 ∧ mM.locks = false ∧ cM.exceptionTable.toList.map vd_raw = raw ∧ parseMethodDescriptor h.1.desc = some mM.sig := by
  rcases hw with ⟨hw, rfl⟩ | hw
  · have hc := hts _ hw
    obtain ⟨mk, hn⟩ := Cond.code_named hc
    obtain ⟨mM, cM, h1, h2, h3, h4, h5, h6, h7, h8⟩ := Cond.code_spec hn hc
    refine ⟨mk, mM, cM, hn, h1, h2, h3, h4, h5, h6, ?_, h8⟩
    have : cM.exceptionTable = #[] := Array.isEmpty_iff.mp h7
    rw [this]; rfl
  · obtain ⟨mk, mM, cM, h0, h1, h2, h3, h4, h5, h6, h7, h8⟩ := Cond.codeWith_spec (hts _ hw)
    exact ⟨mk, mM, cM, h0, h1, h2, h3, h4, h6, h7, h5, h8⟩
set_option maxHeartbeats 1000000 in
/-- the walk through a method that is called: from its invocation to its end -/
theorem vd_inner {n : Nat} (WS : vd_WS P n) (htr : e.platform.stackTraces = false) (hx : p.tables.exec = Jvm.exec) (hts : ∀ w ∈ vd_tb, w.before args s = true) (hK : vd_KW D z H0 s) (hH0 : H0.size ≤ s.heap.size) {a d : Nat} {vs : List Value} {M1 : vd_M} {res : Option Value ⊕ Nat}
    (hcd : vd_cdw (P.2.1 a) (P.2.2.2 a)) (hpl : plainFor (P.2.1 a).1 = true) (hml : (P.2.1 a).2.2.1 ≤ 45) (hfl : (vd_fl vs).length ≤ (P.2.1 a).2.2.1) (hrun : vd_run P n d a 0 (vd_ent (P.2.1 a).2.2.1 vs) [] M = some (M1, res))
    (X : Stand p l e R s m args below meth c T locs cells slots) (hT : T.heap = H) (hR : vd_Rep D z H0 M s H) {g : JFrame} (hg : g.method = m) (hsize : g.locals.size = c.maxLocals) {ig : Instr} {len : Nat} (hdg : decode c.code g.pc = .ok (ig, len)) (hst : 2 * g.monitorRoom + (g.stack.map fun v => v.category).sum ≤ 8)
    {mk : MethodId} (hnk : s.methodNamed? (P.2.1 a).1 = some mk) (hfr : d + 9 ≤ R.frames) (hlo : 64 * d + 464 ≤ R.locals) (hce : cells + (vd_c M1 - vd_c M) ≤ R.cells) (hsl : slots + (vd_s M1 - vd_s M) ≤ R.slots) :
    ∃ t : State, (∀ acts, Steps p.tables e below (doInvoke e (T.setTop g) acts mk (vs.map (vd_cc (vd_ad z H0.size))).toArray).1 t) ∧ vd_Z (.java g :: below) D z H0 res M1 (T.calling g mk (vs.map (vd_cc (vd_ad z H0.size))).toArray) (vd_c M1 - vd_c M) (vd_s M1 - vd_s M) t := by
  obtain ⟨mk', mM, cM, f0, f1, f2, f3, f4, f5, f6, f7, f8⟩ := vd_facts hts hcd
  cases hnk.symm.trans f0
  have hal := X.warmed.alike
  have hmT : T.vm.method? mk = some mM := by rw [hal.method?]; exact f1
  have hnT : T.methodNamed? (P.2.1 a).1 = some mk := X.named f0
  have hpT : T.plainMethod mk := State.plainMethod.of_named hpl hnT hmT
  have hlo2 : 2 * g.monitorRoom + (g.stack.map fun v => v.category).sum + (cM.maxLocals + 11) + (64 * d + 400) ≤ R.locals := by
    have e1 : cM.maxLocals ≤ 45 := by rw [f4]; exact hml
    exact vd_arith hst e1 hlo
  obtain ⟨Y, hin⟩ := X.into hg hsize hdg (vs.map (vd_cc (vd_ad z H0.size))).toArray (R' := { frames := d + 8, cells := vd_c M1 - vd_c M, slots := vd_s M1 - vd_s M, locals := 64 * d + 400 }) hmT f2 f6 hpT hfr hlo2 hce hsl
  have hWs : s.WarmedH (T.calling g mk (vs.map (vd_cc (vd_ad z H0.size))).toArray).vm := X.warmed
  have hh : (T.calling g mk (vs.map (vd_cc (vd_ad z H0.size))).toArray).heap = H := by rw [← hT]; rfl
  have hR' : vd_Rep D z H0 M (T.calling g mk (vs.map (vd_cc (vd_ad z H0.size))).toArray) H := hR.moved hal
  have hnm : (P.2.1 a).1.name = "<init>" → mM.name = "<init>" := fun q => by rw [(name_of_methodNamed f0 f1).1]; exact q
  have hW := WS d a 0 _ [] M M1 res hrun p l e { frames := d + 8, cells := vd_c M1 - vd_c M, slots := vd_s M1 - vd_s M, locals := 64 * d + 400 } (T.calling g mk (vs.map (vd_cc (vd_ad z H0.size))).toArray) mk (vs.map (vd_cc (vd_ad z H0.size))).toArray (.java g :: below) mM cM H [] D z H0 _ (vd_c M) (vd_s M) htr
    ⟨hx, f3, f4, f5, findClass_of_methodNamed hnT, vd_hts hts hWs _, f6, hnm, f7⟩ (hK.moved hal) hR' (vd_has_ent (vd_ad z H0.size) vs hfl) (fun q hq => by cases hq) (by rw [hh, hR.1]; exact Nat.le_add_right _ _) (Nat.le_refl _) (Nat.le_refl _) (Nat.le_refl _) (Nat.le_refl _) (Nat.le_refl _) (Nat.le_refl _)
  rw [Nat.sub_self, Nat.sub_self] at hW
  obtain ⟨t, t1, t2⟩ := hW ((T.setTop g).pushFrame (.java (entryFrame mk (vs.map (vd_cc (vd_ad z H0.size))).toArray cM.maxLocals))) (by rw [← hT]; rfl) Y
  refine ⟨t, fun acts => ?_, t2⟩
  rw [hin acts, lg_entry_eq, f4]
  rw [lg_entry_eq, f4] at t1
  exact vd_weak t1
end VDG
