/-! ===== the instructions that call ===== -/
section VDI
variable {p : Program} {l : Launch} {e : Env} {R : Room} {s : State} {m : MethodId} {args : Array Value} {below : List Frame} {meth : Method} {c : Code} {H : Heap} {locs : List Loc} {cells slots : Nat} {Q : State → Prop}
variable {D : va_G} {z : Nat → Nat} {H0 : Heap} {M M' : vd_M} {own : String} {pc : Nat} {L : Array Slot} {T : State} {P : vd_P} {h : vd_H} {st : List Value} {raw : List (Nat × Nat × Nat × Nat)}
theorem vd_plen {y : MethodName} {sig : MethodDescriptor} {n : Nat} (h1 : parseMethodDescriptor y.desc = some sig) (h2 : (parseMethodDescriptor y.desc).map (fun d => d.parameters.length) = some n) : sig.parameters.length = n := by
  rw [h1] at h2
  exact Option.some.inj h2
theorem vd_invS (hx : p.tables.exec = Jvm.exec) (hown : s.vm.findClass own = some m.cls) (hts : ∀ w ∈ vd_tb, w.before args s = true) {idx : Nat} (hl : vd_lnk own idx h.1) (hs : Cond.static h.1 ∈ vd_tb) (hm : vd_mok h) (hcd : vd_cdw h raw) (hrc : h.2.2.2.2.2 = 99)
    (X : Stand p l e R s m args below meth c T locs cells slots) {g : JFrame} (hg : g.method = m) {argsL rest : List Value} (hlen : argsL.length = h.2.2.2.2.1) (hstack : g.stack = argsL.reverse ++ rest) (hd : decode c.code g.pc = .ok (.invokestatic idx, 3)) :
    ∃ (vm₁ : Vm) (mk : MethodId), Stand p l e R s m args below meth c (T.setVm vm₁) locs cells slots ∧ s.methodNamed? h.1 = some mk ∧ ∀ target, (∀ acts, Steps p.tables e below (doInvoke e ((T.setVm vm₁).setTop { g with stack := rest }) acts mk argsL.toArray).1 target) → Steps p.tables e below (T.setTop g) target := by
  obtain ⟨mk, mM, cM, f0, f1, f2, f3, f4, f5, f6, f7, f8⟩ := vd_facts hts hcd
  obtain ⟨m1, m2, m3, m4, m5, m6⟩ := hm
  have hstatic : mM.isStatic = true := Cond.static_spec f0 f1 (hts _ hs)
  obtain ⟨kP, hkP, -⟩ := className_of_methodNamed f0
  have hinitP : kP.init = .initialized := Cond.initialized_spec (findClass_of_methodNamed f0) hkP (hts _ m1)
  have hl2 : argsL.length = mM.sig.parameters.length := by rw [vd_plen f8 m5, if_pos hrc]; exact hlen
  rcases hl with hl | ⟨host, hl⟩
  · obtain ⟨vm₁, X₁, st⟩ := X.invokestatic hx hown (hts _ hl) f0 f1 hstatic hkP hinitP m2 hg hl2 hstack hd
    exact ⟨vm₁, mk, X₁, f0, st⟩
  · obtain ⟨vm₁, X₁, st⟩ := X.invokestaticNest hx hown (hts _ hl) f0 f1 hstatic hkP hinitP m2 hg hl2 hstack hd
    exact ⟨vm₁, mk, X₁, f0, st⟩
theorem vd_invV (hx : p.tables.exec = Jvm.exec) (hown : s.vm.findClass own = some m.cls) (hts : ∀ w ∈ vd_tb, w.before args s = true) {idx : Nat} (hl : vd_lnk own idx h.1) (hi : Cond.instanceMethod h.1 ∈ vd_tb) (hse : Cond.selects h.1.cls h.1 h.1 ∈ vd_tb) (hm : vd_mok h) (hcd : vd_cdw h raw) (hrc : h.2.2.2.2.2 ≠ 99)
    (X : Stand p l e R s m args below meth c T locs cells slots) {b : Addr} {cellB : Cell} (hcell : T.heap[b]? = some cellB) (hobj : cellB.vm.isStatics = false) (hcls : s.vm.findClass h.1.cls = some cellB.cls) {g : JFrame} (hg : g.method = m) {argsL rest : List Value} (hlen : argsL.length + 1 = h.2.2.2.2.1) (hstack : g.stack = argsL.reverse ++ .ref b :: rest) (hd : decode c.code g.pc = .ok (.invokevirtual idx, 3)) :
    ∃ (vm₁ : Vm) (mk : MethodId), Stand p l e R s m args below meth c (T.setVm vm₁) locs cells slots ∧ s.methodNamed? h.1 = some mk ∧ ∀ target, (∀ acts, Steps p.tables e below (doInvoke e ((T.setVm vm₁).setTop { g with stack := rest }) acts mk (Value.ref b :: argsL).toArray).1 target) → Steps p.tables e below (T.setTop g) target := by
  obtain ⟨mk, mM, cM, f0, f1, f2, f3, f4, f5, f6, f7, f8⟩ := vd_facts hts hcd
  obtain ⟨m1, m2, m3, m4, m5, m6⟩ := hm
  obtain ⟨mk', methM, hnamed, hmethM, hstM, habM⟩ := Cond.instanceMethod_spec (hts _ hi)
  cases hnamed.symm.trans f0
  cases hmethM.symm.trans f1
  obtain ⟨c2, r2, m2', q1, q2, q3, q4, kP, hkP, hkPi⟩ := Cond.selects_spec (hts _ hse)
  cases hcls.symm.trans q1
  cases (State.methodFound?_of_named f0 m2).symm.trans q2
  cases f0.symm.trans q3
  have hselP : selectMethod e.platform s.vm cellB.cls mk = .method mk := by rw [Launch.admits_selectMethod X.admits]; exact q4
  have hl2 : argsL.length = mM.sig.parameters.length := by rw [vd_plen f8 m5, if_neg hrc]; omega
  rcases hl with hl | ⟨host, hl⟩
  · obtain ⟨vm₁, X₁, st⟩ := X.invokevirtual hx hown (hts _ hl) f0 f1 hstM hkP hkPi m2 (a := b) (cell := cellB) hcell (fun z q => by rw [q] at hobj; cases hobj) hselP f1 habM hkP hkPi hg hl2 hstack hd
    exact ⟨vm₁, mk, X₁, f0, st⟩
  · obtain ⟨vm₁, X₁, st⟩ := X.invokevirtualNest hx hown (hts _ hl) f0 f1 hstM hkP hkPi m2 (a := b) (cell := cellB) hcell (fun z q => by rw [q] at hobj; cases hobj) hselP f1 habM hkP hkPi hg hl2 hstack hd
    exact ⟨vm₁, mk, X₁, f0, st⟩
theorem vd_invI (hx : p.tables.exec = Jvm.exec) (hown : s.vm.findClass own = some m.cls) (hts : ∀ w ∈ vd_tb, w.before args s = true) {idx : Nat} (hl : vd_lnk own idx h.1) (hi : Cond.instanceMethod h.1 ∈ vd_tb) (hy1 : h.1.name = "<init>") (hcode : Cond.code h.1 h.2.1 h.2.2.1 none ∈ vd_tb) (hm : vd_mok h) (hrc : h.2.2.2.2.2 ≠ 99)
    (X : Stand p l e R s m args below meth c T locs cells slots) {b : Addr} {g : JFrame} (hg : g.method = m) {argsL rest : List Value} (hlen : argsL.length + 1 = h.2.2.2.2.1) (hstack : g.stack = argsL.reverse ++ .ref b :: rest) (hd : decode c.code g.pc = .ok (.invokespecial idx, 3)) :
    ∃ (vm₁ : Vm) (mk : MethodId), Stand p l e R s m args below meth c (T.setVm vm₁) locs cells slots ∧ s.methodNamed? h.1 = some mk ∧ ∀ target, (∀ acts, Steps p.tables e below (doInvoke e ((T.setVm vm₁).setTop { g with stack := rest }) acts mk (Value.ref b :: argsL).toArray).1 target) → Steps p.tables e below (T.setTop g) target := by
  obtain ⟨m1, m2, m3, m4, m5, m6⟩ := hm
  subst hg
  have hpl : e.platform.magicAccessors = ({} : Platform).magicAccessors := by rw [X.admits.platform]
  have hl2 : ∀ sig, parseMethodDescriptor h.1.desc = some sig → argsL.length = sig.parameters.length := fun sig q => by rw [vd_plen q m5, if_neg hrc]; omega
  rcases hl with hl | ⟨host, hl⟩
  · obtain ⟨mk, methM, cM, kP, vm₁, hnamed, hmethM, hcodeM, -, hlocalsM, -, hkP, -, hW₁, hstep₁⟩ := Steps.initColdArgs (e := e) X.here hx X.warmed hpl hown hy1 m2 (hts _ hl) (hts _ hi) (hts _ hcode) (f := g) rfl hl2 hstack hd
    exact ⟨vm₁, mk, X.noted hW₁, hnamed, hstep₁⟩
  · obtain ⟨mk, methM, cM, kP, vm₁, hnamed, hmethM, hcodeM, -, hlocalsM, -, hkP, -, hW₁, hstep₁⟩ := Steps.initColdArgsNest (e := e) X.here hx X.warmed hpl hown hy1 m2 (hts _ hl) (hts _ hi) (hts _ hcode) (f := g) rfl hl2 hstack hd
    exact ⟨vm₁, mk, X.noted hW₁, hnamed, hstep₁⟩
/-- a call, whatever its kind: the stack is fit, the machine comes to the method's entry -/
theorem vd_inv (hx : p.tables.exec = Jvm.exec) (hown : s.vm.findClass own = some m.cls) (hts : ∀ w ∈ vd_tb, w.before args s = true) (hK : vd_KW D z H0 s) (hR : vd_Rep D z H0 M s H) {i : Instr} {len : Nat} (hk : vd_kok own i h) (hcd : vd_cdw h raw) (ht : vd_tok i pc len = true) (hfit : vd_fit h st M = true)
    (X : Stand p l e R s m args below meth c T locs cells slots) (hT : T.heap = H) (hd : decode c.code pc = .ok (i, len)) :
    len = 3 ∧ ∃ (vm₁ : Vm) (mk : MethodId), Stand p l e R s m args below meth c (T.setVm vm₁) locs cells slots ∧ s.methodNamed? h.1 = some mk ∧ ∀ target, (∀ acts, Steps p.tables e below (doInvoke e ((T.setVm vm₁).setTop (F0 m pc L ((st.drop h.2.2.2.2.1).map (vd_cc (vd_ad z H0.size))))) acts mk ((st.take h.2.2.2.2.1).reverse.map (vd_cc (vd_ad z H0.size))).toArray).1 target) → Steps p.tables e below (T.setTop (F0 m pc L (st.map (vd_cc (vd_ad z H0.size))))) target := by
  obtain ⟨hm, hk⟩ := hk
  simp only [vd_fit, Bool.and_eq_true, decide_eq_true_eq, Bool.or_eq_true, beq_iff_eq] at hfit
  obtain ⟨⟨⟨hf1, hf2⟩, hf3⟩, hf4⟩ := hfit
  have hsp : st.map (vd_cc (vd_ad z H0.size)) = ((st.take h.2.2.2.2.1).reverse.map (vd_cc (vd_ad z H0.size))).reverse ++ (st.drop h.2.2.2.2.1).map (vd_cc (vd_ad z H0.size)) := by
    rw [← List.map_reverse, List.reverse_reverse, ← List.map_append, List.take_append_drop]
  have hlv : ((st.take h.2.2.2.2.1).reverse.map (vd_cc (vd_ad z H0.size))).length = h.2.2.2.2.1 := by
    rw [List.length_map, List.length_reverse, List.length_take]
    omega
  cases i with
  | invokestatic idx =>
    simp only [vd_tok, beq_iff_eq] at ht
    subst ht
    refine ⟨rfl, ?_⟩
    obtain ⟨k1, k2, k3⟩ := hk
    exact vd_invS hx hown hts k1 k2 hm hcd k3 X (g := F0 m pc L (st.map (vd_cc (vd_ad z H0.size)))) rfl hlv hsp hd
  | invokevirtual idx =>
    simp only [vd_tok, beq_iff_eq] at ht
    subst ht
    refine ⟨rfl, ?_⟩
    obtain ⟨k1, k2, k3, k4, r, k5, k6⟩ := hk
    rcases hf4 with q | q
    · exact absurd q k4
    · generalize (st.take h.2.2.2.2.1).reverse = vs at *
      cases vs with
      | nil => cases q
      | cons v vs =>
        cases v with
        | ref o =>
          have q : vd_k M o = h.2.2.2.2.2 := by simpa using q
          obtain ⟨⟨cell, c1, c2, c3, -⟩, -⟩ := vd_obj hR q k5
          obtain ⟨-, hfc, -⟩ := hK.1.1 _ _ k5
          rw [k6] at hfc
          refine vd_invV hx hown hts k1 k2 k3 hm hcd k4 X (b := vd_ad z H0.size o) (cellB := cell) (by rw [hT]; exact c1) (by rw [c3]; rfl) (by rw [c2]; exact hfc) (g := F0 m pc L (st.map (vd_cc (vd_ad z H0.size)))) rfl (argsL := vs.map (vd_cc (vd_ad z H0.size))) ?_ ?_ hd
          · simpa using hlv
          · show st.map (vd_cc (vd_ad z H0.size)) = _
            rw [hsp]
            simp [vd_cc]
        | _ => cases q
  | invokespecial idx =>
    simp only [vd_tok, beq_iff_eq] at ht
    subst ht
    refine ⟨rfl, ?_⟩
    obtain ⟨k1, k2, k3, k4, k5⟩ := hk
    rcases hf4 with q | q
    · exact absurd q k5
    · generalize (st.take h.2.2.2.2.1).reverse = vs at *
      cases vs with
      | nil => cases q
      | cons v vs =>
        cases v with
        | ref o =>
          refine vd_invI hx hown hts k1 k2 k3 k4 hm k5 X (b := vd_ad z H0.size o) (g := F0 m pc L (st.map (vd_cc (vd_ad z H0.size)))) rfl (argsL := vs.map (vd_cc (vd_ad z H0.size))) ?_ ?_ hd
          · simpa using hlv
          · show st.map (vd_cc (vd_ad z H0.size)) = _
            rw [hsp]
            simp [vd_cc]
        | _ => cases q
  | _ => exact hk.elim
end VDI
