/-! ===== an exception is caught by a row of the method's own table; the classes of rows may be unresolved yet ===== -/
/-- the rows, one behind the other: each covers the place and names a class; those ahead of the one that takes the object don't -/
def vd_rows (e : Env) (s : State) (f : JFrame) (cl : ClassId) (h : Nat) : List ExceptionTableEntry → Prop
  | [] => False
  | x :: r => covers x f.pc = true ∧ x.catchType ≠ 0 ∧ ∃ c : ClassId, s.vm.ClassLinks e.platform f.method.cls x.catchType c ∧ ((s.vm.assignable cl c = true ∧ h = x.handlerPc) ∨ (s.vm.assignable cl c = false ∧ vd_rows e s f cl h r))
theorem vd_search {e : Env} {s : State} {f : JFrame} {a : Addr} {cell : Cell} {h : Nat} (hobj : ∀ k, cell.vm ≠ .statics k) (hk0 : ∃ k, s.vm.classes[cell.cls]? = some k) :
    ∀ (rows : List ExceptionTableEntry) (S : State), s.WarmedH S.vm → S.heap[a]? = some cell → vd_rows e s f cell.cls h rows →
      ∃ vm', s.WarmedH vm' ∧ ∀ (Q : Handler → Pre) (E : CtlPost) (d : Bool) (acts : List Action), wp (findHandler.go f a rows) Q E e d acts S ↔ Q (.found h) d acts (S.setVm vm') := by
  intro rows
  induction rows with
  | nil => intro S _ _ hr; exact hr.elim
  | cons x r ih =>
    intro S hW hcell hr
    obtain ⟨hx, h0, c, hl, hc⟩ := hr
    obtain ⟨k0, hk0⟩ := hk0
    obtain ⟨dk, _, _, kt, hd, _, _, _, _, hkt, _, hopen⟩ := hl.here
    have hW' : s.WarmedH (S.vm.noted f.method.cls x.catchType (.cls c)) := hW.noted hd hopen (State.rightAt_cls hl)
    have hlS := hW.classLinks hl
    obtain ⟨ha, ht⟩ := (resolveClass_links e.toSetting hlS).op (op := VmOp.resolveClass f.method.cls x.catchType) rfl
    obtain ⟨k1, hk1, -⟩ := hW'.alike.2.2 _ _ hk0
    obtain ⟨k2, hk2, -⟩ := hW'.alike.2.2 _ _ hkt
    have has : (S.vm.noted f.method.cls x.catchType (.cls c)).assignable cell.cls c = s.vm.assignable cell.cls c := hW'.alike.assignable _ _
    simp only [covers] at hx
    rcases hc with ⟨hfit, rfl⟩ | ⟨hno, hr⟩
    · rw [hfit] at has
      exact ⟨_, hW', fun Q E d acts => by simp [findHandler.go, hx, h0, ha, ht, hcell, hobj, hk1, hk2, has, VmOp.dirties, VmOp.acts]⟩
    · rw [hno] at has
      obtain ⟨vm', w1, w2⟩ := ih (S.setVm (S.vm.noted f.method.cls x.catchType (.cls c))) hW' hcell hr
      refine ⟨vm', w1, fun Q E d acts => ?_⟩
      rw [show S.setVm vm' = (S.setVm (S.vm.noted f.method.cls x.catchType (.cls c))).setVm vm' from rfl, ← w2 Q E d acts]
      simp [findHandler.go, hx, h0, ha, ht, hcell, hobj, hk1, hk2, has, VmOp.dirties, VmOp.acts]
section VDH
variable {p : Program} {l : Launch} {e : Env} {R : Room} {s : State} {m : MethodId} {args : Array Value} {below : List Frame} {meth : Method} {c : Code} {locs : List Loc} {cells slots : Nat} {T : State}
theorem vd_caught (X : Stand p l e R s m args below meth c T locs cells slots) {g : JFrame} (hg : g.method = m) {a : Addr} {cell : Cell} {h : Nat} (hcell : T.heap[a]? = some cell) (hobj : ∀ k, cell.vm ≠ .statics k) (hk0 : ∃ k, s.vm.classes[cell.cls]? = some k) (hr : vd_rows e s g cell.cls h c.exceptionTable.toList) :
    ∃ vm', Stand p l e R s m args below meth c (T.setVm vm') locs cells slots ∧ ∀ target, Steps p.tables e below ((T.setVm vm').setTop { g with pc := h, stack := [.ref a] }) target → Steps p.tables e below ((T.setTop g).pushFrame (.throwing a)) target := by
  subst hg
  have e1 := Stand.throwing_vm T g a
  have e2 := Stand.throwing_heap T g a
  obtain ⟨vm', w1, w2⟩ := vd_search (f := g) (a := a) hobj hk0 c.exceptionTable.toList ((T.setTop g).pushFrame (.throwing a)) (by rw [e1]; exact X.warmed) (by rw [e2]; exact hcell) hr
  refine ⟨vm', X.noted w1, fun target hrest => ?_⟩
  have hfind : ∀ (Q : Handler → Pre) (E : CtlPost) (d : Bool) (acts : List Action), wp (findHandler g a) Q E e d acts ((T.setTop g).pushFrame (.throwing a)) ↔ Q (.found h) d acts (((T.setTop g).pushFrame (.throwing a)).setVm vm') := fun Q E d acts => by
    rw [W.findHandler_eq (meth := meth) (code := c) (by rw [e1]; exact X.method') X.code]
    exact w2 Q E d acts
  obtain ⟨hgo, hw⟩ := X.here.throwing a
  refine Steps.head hgo hw ?_
  rw [stepThread_throwing (frames_entered X.here.top _)]
  have hstep : (stepThrowing e ((T.setTop g).pushFrame (.throwing a)) a (.java g :: T.frames.tail)).Is ((((T.setTop g).pushFrame (.throwing a)).setVm vm').setFrames (.java { g with pc := h, stack := [.ref a] } :: T.frames.tail)) [] := by
    simp only [stepThrowing, searchFrame, vmDo]
    generalize hq : Sem.go _ e false [] ((T.setTop g).pushFrame (.throwing a)) = res
    obtain ⟨as, rfl, ha⟩ := Sem.eq_ok_of hq (a := Handler.found h) (s' := ((T.setTop g).pushFrame (.throwing a)).setVm vm') (acts' := []) (by simp [hfind _ _ _ _])
    exact ⟨rfl, ha⟩
  rw [hstep.1]
  obtain ⟨g₀, hg0⟩ := Option.isSome_iff_exists.mp X.here.top
  obtain ⟨r, hrr⟩ := State.topJava?_eq_some.mp hg0
  have hr' : (T.setVm vm').frames = .java g₀ :: r := hrr
  rw [State.setTop_of_frames _ hr'] at hrest
  have e3 : (((T.setTop g).pushFrame (.throwing a)).setVm vm').setFrames (.java { g with pc := h, stack := [.ref a] } :: T.frames.tail) = (T.setVm vm').setFrames (.java { g with pc := h, stack := [.ref a] } :: r) := by
    rw [hrr, List.tail_cons, State.pushFrame, State.setTop_of_frames _ hrr]
    show ((((T.setFrames _).setFrames _).setVm vm').setFrames _) = _
    rw [State.setFrames_setFrames]
    show (((T.setVm vm').setFrames _).setFrames _) = _
    rw [State.setFrames_setFrames]
  rw [e3]
  exact hrest
end VDH
/-- what the tables must say of handlers: the rows of the table cover the place; the class of each row by its word; which of them takes an exception of a class -/
def vd_HOK (P : vd_P) : Prop := ∀ (k pc q h : Nat), vd_hnd (P.2.2.1 k) pc q = some h → q < 32 ∧ ∃ (X : String) (T : u_T), vd_cls[q]? = some (X, T, 0) ∧ ∀ (p : Program) (l : Launch) (e : Env) (s : State) (m : MethodId) (args : Array Value) (meth : Method) (c : Code) (cC : ClassId) (L : Array Slot) (st : List Value), e.platform.magicAccessors = ({} : Platform).magicAccessors → vd_Fx P k p m meth c s args → vd_NC s → s.vm.findClass X = some cC → vd_rows e s (F0 m pc L st) cC h c.exceptionTable.toList
theorem vd_catchOK {P : vd_P} (hH : vd_HOK P) : vd_CatchOK P := by
  intro k pc h x M hh p l e R s m args below meth c T locs cells slots D z H0 L st hFx hK hR X
  obtain ⟨hq, N, TT, hcl, hrow⟩ := hH k pc _ h hh
  obtain ⟨⟨cell, c1, c2, c3, -⟩, -⟩ := vd_obj hR rfl hcl
  obtain ⟨-, hfc, kC, hkC, -⟩ := hK.1.1 _ _ hcl
  have hpl : e.platform.magicAccessors = ({} : Platform).magicAccessors := by rw [X.admits.platform]
  exact vd_caught X (g := F0 m pc L st) rfl c1 (fun q => by rw [c3]; exact fun w => by cases w) ⟨kC, by rw [c2]; exact hkC⟩ (by rw [c2]; exact hrow p l e s m args meth c _ L st hpl hFx hK.2.2.2 hfc)
/-- rows out of words -/
theorem vd_row1 {P : vd_P} {k : Nat} {p : Program} {l : Launch} {e : Env} {s : State} {m : MethodId} {args : Array Value} {meth : Method} {c : Code} {cC : ClassId} {L : Array Slot} {st : List Value} {X : String} {pc a b h ct : Nat} (hraw : P.2.2.2 k = [(a, b, h, ct)]) (hp : e.platform.magicAccessors = ({} : Platform).magicAccessors) (hFx : vd_Fx P k p m meth c s args) (hX : s.vm.findClass X = some cC) (hcov : a ≤ pc ∧ pc < b) (hct : ct ≠ 0) (hl : Cond.classLink (P.2.1 k).1.cls ct X ∈ vd_tb) : vd_rows e s (F0 m pc L st) cC h c.exceptionTable.toList := by
  obtain ⟨-, -, -, -, hown, hts, -, -, hxt⟩ := hFx
  rw [hraw] at hxt
  obtain ⟨x, hx, hr⟩ := List.map_eq_singleton_iff.mp hxt
  rw [hx]
  simp only [vd_raw, Prod.mk.injEq] at hr
  obtain ⟨rfl, rfl, rfl, rfl⟩ := hr
  obtain ⟨c', hc', hcl⟩ := Cond.classLink_spec hown (hts _ hl) e.platform hp
  cases hX.symm.trans hc'
  exact ⟨by simp [covers, hcov], hct, _, hcl, Or.inl ⟨va_asg _ _, rfl⟩⟩
theorem vd_row2 {P : vd_P} {k : Nat} {p : Program} {l : Launch} {e : Env} {s : State} {m : MethodId} {args : Array Value} {meth : Method} {c : Code} {cC : ClassId} {L : Array Slot} {st : List Value} {X Y : String} {pc a b h ct a' b' h' ct' : Nat} (hraw : P.2.2.2 k = [(a, b, h, ct), (a', b', h', ct')]) (hp : e.platform.magicAccessors = ({} : Platform).magicAccessors) (hFx : vd_Fx P k p m meth c s args) (hN : vd_NC s) (hX : s.vm.findClass X = some cC) (hcov : (a ≤ pc ∧ pc < b) ∧ (a' ≤ pc ∧ pc < b')) (hct : ct ≠ 0 ∧ ct' ≠ 0) (hl : Cond.classLink (P.2.1 k).1.cls ct Y ∈ vd_tb) (hl' : Cond.classLink (P.2.1 k).1.cls ct' X ∈ vd_tb) (hne : (X, Y) ∈ [("java/lang/IndexOutOfBoundsException", "java/util/NoSuchElementException"), ("java/lang/IllegalArgumentException", "java/util/NoSuchElementException"), ("java/lang/IllegalArgumentException", "java/lang/IndexOutOfBoundsException")]) : vd_rows e s (F0 m pc L st) cC h' c.exceptionTable.toList := by
  obtain ⟨-, -, -, -, hown, hts, -, -, hxt⟩ := hFx
  rw [hraw] at hxt
  obtain ⟨x, r, hx, hr, hr2⟩ := List.map_eq_cons_iff.mp hxt
  obtain ⟨y, hy, hr3⟩ := List.map_eq_singleton_iff.mp hr2
  rw [hx, hy]
  simp only [vd_raw, Prod.mk.injEq] at hr hr3
  obtain ⟨rfl, rfl, rfl, rfl⟩ := hr
  obtain ⟨rfl, rfl, rfl, rfl⟩ := hr3
  obtain ⟨c1, hc1, hcl1⟩ := Cond.classLink_spec hown (hts _ hl) e.platform hp
  obtain ⟨c', hc', hcl⟩ := Cond.classLink_spec hown (hts _ hl') e.platform hp
  cases hX.symm.trans hc'
  exact ⟨by simp [covers, hcov.1], hct.1, _, hcl1, Or.inr ⟨hN _ hne _ _ hX hc1, by simp [covers, hcov.2], hct.2, _, hcl, Or.inl ⟨va_asg _ _, rfl⟩⟩⟩
theorem vd_row2a {P : vd_P} {k : Nat} {p : Program} {l : Launch} {e : Env} {s : State} {m : MethodId} {args : Array Value} {meth : Method} {c : Code} {cC : ClassId} {L : Array Slot} {st : List Value} {X : String} {pc a b h ct a' b' h' ct' : Nat} (hraw : P.2.2.2 k = [(a, b, h, ct), (a', b', h', ct')]) (hp : e.platform.magicAccessors = ({} : Platform).magicAccessors) (hFx : vd_Fx P k p m meth c s args) (hX : s.vm.findClass X = some cC) (hcov : a ≤ pc ∧ pc < b) (hct : ct ≠ 0) (hl : Cond.classLink (P.2.1 k).1.cls ct X ∈ vd_tb) : vd_rows e s (F0 m pc L st) cC h c.exceptionTable.toList := by
  obtain ⟨-, -, -, -, hown, hts, -, -, hxt⟩ := hFx
  rw [hraw] at hxt
  obtain ⟨x, r, hx, hr, hr2⟩ := List.map_eq_cons_iff.mp hxt
  rw [hx]
  simp only [vd_raw, Prod.mk.injEq] at hr
  obtain ⟨rfl, rfl, rfl, rfl⟩ := hr
  obtain ⟨c', hc', hcl⟩ := Cond.classLink_spec hown (hts _ hl) e.platform hp
  cases hX.symm.trans hc'
  exact ⟨by simp [covers, hcov], hct, _, hcl, Or.inl ⟨va_asg _ _, rfl⟩⟩
