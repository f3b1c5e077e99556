/-! ===== a run of the small machine is a walk of the machine ===== -/
def vd_EOK (P : vd_P) (k pc : Nat) (x : vd_E) : Prop :=
  decode (P.2.1 k).2.1 pc = .ok (x.1, x.2.1) ∧ vd_tok x.1 pc x.2.1 = true ∧ (x.2.2.1 = 0 → vd_cw (P.2.1 k).1.cls x.1 x.2.2.2.2.2) ∧ (x.2.2.1 = 1 → vd_lok (P.2.1 k).1.cls x.1 x.2.2.2.1 x.2.2.2.2.1 (decide ((P.2.1 k).1.name = "<init>"))) ∧ (x.2.2.1 = 2 → vd_wok (P.2.1 k).1.cls x.1 x.2.2.2.1 x.2.2.2.2.1) ∧ (x.2.2.1 = 3 ∨ x.2.2.1 = 9 → vd_kok (P.2.1 k).1.cls x.1 (P.2.1 x.2.2.2.1) ∧ vd_cdw (P.2.1 x.2.2.2.1) (P.2.2.2 x.2.2.2.1)) ∧ (x.2.2.1 = 5 → vd_ook (P.2.1 k).1.cls x.1) ∧ (x.2.2.1 = 6 → vd_pok (P.2.1 k).1.cls x.1)
def vd_OK (P : vd_P) : Prop := ∀ k pc x, P.1 k pc = some x → vd_EOK P k pc x
/-- a throw of a new exception leaves the method -/
def vd_ThrowOK (P : vd_P) : Prop := ∀ (k pc : Nat) (i : Instr) (len a b : Nat) (cv : Value), P.1 k pc = some (i, len, 7, a, b, cv) →
  ∀ (p : Program) (l : Launch) (e : Env) (R : Room) (s : State) (m : MethodId) (args : Array Value) (below : List Frame) (meth : Method) (c : Code) (H : Heap) (locs : List Loc) (D : va_G) (z : Nat → Nat) (H0 : Heap) (L : Array Slot) (c0 s0 : Nat) (M : vd_M) (st : List Value),
    e.platform.stackTraces = false → vd_Fx P k p m meth c s args → vd_KW D z H0 s → vd_Rep D z H0 M s H → L.size = c.maxLocals → (∀ q ∈ locs, H0.size ≤ q.base) → H0.size ≤ s.heap.size → c0 ≤ vd_c M → s0 ≤ vd_s M → vd_c M + 1 - c0 ≤ R.cells → vd_s M + 6 - s0 ≤ R.slots → 8 ≤ R.frames → 400 ≤ R.locals → vd_cs st ≤ 8 →
    W p l e R s m args below meth c H locs (vd_c M - c0) (vd_s M - s0) (vd_Z below D z H0 (.inr (vd_n M)) (vd_new M a 0 6) s (vd_c M + 1 - c0) (vd_s M + 6 - s0)) (F0 m pc L (st.map (vd_cc (vd_ad z H0.size))))
/-- rows of rows -/
def vd_MultiOK (P : vd_P) : Prop := ∀ (k pc : Nat) (i : Instr) (len a b : Nat) (cv : Value), P.1 k pc = some (i, len, 8, a, b, cv) →
  ∀ (p : Program) (l : Launch) (e : Env) (R : Room) (s : State) (m : MethodId) (args : Array Value) (below : List Frame) (meth : Method) (c : Code) (H : Heap) (locs : List Loc) (Q : State → Prop) (D : va_G) (z : Nat → Nat) (H0 : Heap) (L : Array Slot) (c0 s0 : Nat) (M M' : vd_M) (st st' : List Value),
    vd_Fx P k p m meth c s args → vd_KW D z H0 s → vd_Rep D z H0 M s H → (∀ q ∈ locs, H0.size ≤ q.base) → vd_mu st M = some (st', M') → c0 ≤ vd_c M → s0 ≤ vd_s M → vd_c M' - c0 ≤ R.cells → vd_s M' - s0 ≤ R.slots →
    (∀ (H' : Heap) (locs' : List Loc), vd_Rep D z H0 M' s H' → (∀ q ∈ locs', H0.size ≤ q.base) → W p l e R s m args below meth c H' locs' (vd_c M' - c0) (vd_s M' - s0) Q (F0 m (pc + len) L (st'.map (vd_cc (vd_ad z H0.size))))) →
    W p l e R s m args below meth c H locs (vd_c M - c0) (vd_s M - s0) Q (F0 m pc L (st.map (vd_cc (vd_ad z H0.size))))
/-- an exception that a call threw is caught by the method's own handler -/
def vd_CatchOK (P : vd_P) : Prop := ∀ (k pc h x : Nat) (M : vd_M), vd_hnd (P.2.2.1 k) pc (vd_k M x) = some h →
  ∀ (p : Program) (l : Launch) (e : Env) (R : Room) (s : State) (m : MethodId) (args : Array Value) (below : List Frame) (meth : Method) (c : Code) (T : State) (locs : List Loc) (cells slots : Nat) (D : va_G) (z : Nat → Nat) (H0 : Heap) (L : Array Slot) (st : List Value),
    vd_Fx P k p m meth c s args → vd_KW D z H0 s → vd_Rep D z H0 M s T.heap → Stand p l e R s m args below meth c T locs cells slots →
    ∃ vm', Stand p l e R s m args below meth c (T.setVm vm') locs cells slots ∧ ∀ target, Steps p.tables e below ((T.setVm vm').setTop (F0 m h L [.ref (vd_ad z H0.size x)])) target → Steps p.tables e below ((T.setTop (F0 m pc L st)).pushFrame (.throwing (vd_ad z H0.size x))) target
def vd_Qr (D : va_G) (z : Nat → Nat) (H0 : Heap) (M : vd_M) (v : Option Value) : Array Value → State → Outcome → State → Prop := fun _ _ oc t => oc = .returned (v.map (vd_cc (vd_ad z H0.size))) ∧ vd_Rep D z H0 M t t.heap
section VDW
variable {p : Program} {l : Launch} {e : Env} {R : Room} {s : State} {m : MethodId} {args : Array Value} {below : List Frame} {meth : Method} {c : Code} {H : Heap} {locs : List Loc} {cells slots : Nat} {Q Q' : State → Prop}
variable {D : va_G} {z : Nat → Nat} {H0 : Heap} {M M' : vd_M} {own : String} {pc : Nat} {L : Array Slot} {T : State} {P : vd_P} {st : List Value}
theorem vd_Wmono {g : JFrame} (h : W p l e R s m args below meth c H locs cells slots Q g) (hq : ∀ t, Q t → Q' t) : W p l e R s m args below meth c H locs cells slots Q' g := by
  intro T hT X
  obtain ⟨t, t1, t2⟩ := h T hT X
  exact ⟨t, t1, hq t t2⟩
theorem vd_ZofMQ {Qc : Array Value → State → Outcome → State → Prop} {res : Option Value ⊕ Nat} {mc ms : Nat} (hQ : ∀ o t, Qc args s o t → vd_oc (vd_ad z H0.size) res o ∧ vd_Rep D z H0 M t t.heap) : ∀ t, MQ below Qc args s mc ms (fun q => H0.size ≤ q) t → vd_Z below D z H0 res M s mc ms t := by
  rintro t ⟨o, h1, h2, h3, L, ⟨-, h5, h6⟩, h7⟩
  obtain ⟨q1, q2⟩ := hQ o t h3
  exact ⟨o, h1, h2, q1, q2, h5, L, h6, h7⟩
theorem vd_retW (hx : p.tables.exec = Jvm.exec) {cc : ByteArray} (hb : c.code = cc) {ret : Option FieldType} (hr : meth.sig.returnType = ret) (hlocks : meth.locks = false) (hR : vd_Rep D z H0 M s H) (hlo : ∀ q ∈ locs, H0.size ≤ q.base) {i : Instr} {len : Nat} (hd : decode cc pc = .ok (i, len)) (ht : vd_tok i pc len = true) {res : Option Value ⊕ Nat} (h : vd_rt i ret st M = some (M', res)) :
    W p l e R s m args below meth c H locs cells slots (vd_Z below D z H0 res M' s cells slots) (F0 m pc L (st.map (vd_cc (vd_ad z H0.size)))) := by
  have hq : ∀ (v : Option Value) (t : State), t.heap = H → s.WarmedH t.vm → vd_Qr D z H0 M v args s (.returned (v.map (vd_cc (vd_ad z H0.size)))) t := fun v t h1 h2 => ⟨rfl, by rw [h1]; exact hR.moved h2.alike⟩
  unfold vd_rt at h
  split at h
  · simp only [vd_tok, beq_iff_eq] at ht
    subst ht
    split at h
    · rename_i x
      split at h
      · rename_i hok
        simp only [Option.some.injEq, Prod.mk.injEq] at h
        obtain ⟨rfl, rfl⟩ := h
        have hn : ∃ ty, ret = some ty ∧ narrow ty (.int x) = .int x := by
          unfold vd_rok at hok
          split at hok
          · exact ⟨_, rfl, rfl⟩
          · simp only [Bool.or_eq_true, beq_iff_eq] at hok
            rcases hok with rfl | rfl
            · exact ⟨_, rfl, rfl⟩
            · exact ⟨_, rfl, rfl⟩
          · cases hok
        obtain ⟨ty, rfl, hn⟩ := hn
        exact vd_Wmono (W.zret (Qc := vd_Qr D z H0 M (some (.int x))) (free := fun q => H0.size ≤ q) hx hb hr hn (hq (some (.int x))) hlo hd hlocks) (vd_ZofMQ fun o t q => q)
      · cases h
    · cases h
  · simp only [vd_tok, beq_iff_eq] at ht
    subst ht
    split at h
    · rename_i x
      split at h
      · simp only [Option.some.injEq, Prod.mk.injEq] at h
        obtain ⟨rfl, rfl⟩ := h
        exact vd_Wmono (W.lret (Qc := vd_Qr D z H0 M (some (.long x))) (free := fun q => H0.size ≤ q) hx hb hr (hq (some (.long x))) hlo hd hlocks) (vd_ZofMQ fun o t q => q)
      · cases h
    · cases h
  · simp only [vd_tok, beq_iff_eq] at ht
    subst ht
    split at h
    · rename_i x
      split at h
      · simp only [Option.some.injEq, Prod.mk.injEq] at h
        obtain ⟨rfl, rfl⟩ := h
        exact vd_Wmono (W.aret (Qc := vd_Qr D z H0 M (some (.ref x))) (free := fun q => H0.size ≤ q) hx hb hr (Or.inl ⟨_, rfl⟩) (Or.inr ⟨_, rfl⟩) (hq (some (.ref x))) hlo hd hlocks) (vd_ZofMQ fun o t q => q)
      · simp only [Option.some.injEq, Prod.mk.injEq] at h
        obtain ⟨rfl, rfl⟩ := h
        exact vd_Wmono (W.aret (Qc := vd_Qr D z H0 M (some (.ref x))) (free := fun q => H0.size ≤ q) hx hb hr (Or.inr ⟨_, rfl⟩) (Or.inr ⟨_, rfl⟩) (hq (some (.ref x))) hlo hd hlocks) (vd_ZofMQ fun o t q => q)
      · cases h
    · split at h
      · simp only [Option.some.injEq, Prod.mk.injEq] at h
        obtain ⟨rfl, rfl⟩ := h
        exact vd_Wmono (W.aret (Qc := vd_Qr D z H0 M (some .null)) (free := fun q => H0.size ≤ q) hx hb hr (Or.inl ⟨_, rfl⟩) (Or.inl rfl) (hq (some .null)) hlo hd hlocks) (vd_ZofMQ fun o t q => q)
      · simp only [Option.some.injEq, Prod.mk.injEq] at h
        obtain ⟨rfl, rfl⟩ := h
        exact vd_Wmono (W.aret (Qc := vd_Qr D z H0 M (some .null)) (free := fun q => H0.size ≤ q) hx hb hr (Or.inr ⟨_, rfl⟩) (Or.inl rfl) (hq (some .null)) hlo hd hlocks) (vd_ZofMQ fun o t q => q)
      · cases h
    · cases h
  · simp only [vd_tok, beq_iff_eq] at ht
    subst ht
    split at h
    · split at h
      · simp only [Option.some.injEq, Prod.mk.injEq] at h
        obtain ⟨rfl, rfl⟩ := h
        exact vd_Wmono (W.vret (Qc := vd_Qr D z H0 M none) (free := fun q => H0.size ≤ q) hx hb hr (hq none) hlo hd hlocks) (vd_ZofMQ fun o t q => q)
      · cases h
    · cases h
  · cases h
/-- behind a call: the state in which the caller goes on -/
theorem vd_back {mk : MethodId} {a : Array Value} {v : Option Value} {M1 : vd_M} {mc ms : Nat} (X : Stand p l e R s m args below meth c T locs cells slots) {g : JFrame} (hg : g.method = m) {ig : Instr} {len : Nat} (hdg : decode c.code g.pc = .ok (ig, len)) {t : State} (hZ : vd_Z (.java g :: below) D z H0 (.inl v) M1 (T.calling g mk a) mc ms t) (hlo : ∀ q ∈ locs, H0.size ≤ q.base) :
    ∃ (T' : State) (locs' : List Loc), Stand p l e R s m args below meth c T' locs' (cells + mc) (slots + ms) ∧ (∀ q ∈ locs', H0.size ≤ q.base) ∧ vd_Rep D z H0 M1 s T'.heap ∧ t = T'.setTop { g with pc := g.pc + len, stack := (v.map (vd_cc (vd_ad z H0.size))).toList ++ g.stack } := by
  obtain ⟨o, z1, z2, z3, z4, z5, L, z6, z7⟩ := hZ
  have z3 : o = .returned (v.map (vd_cc (vd_ad z H0.size))) := z3
  subst z3
  obtain ⟨T', X', hW, -, ht⟩ := X.outOf hg hdg z2 z5 z6
  refine ⟨T', locs ++ L, X', fun q hq => ?_, ?_, ht⟩
  · rcases List.mem_append.mp hq with w | w
    · exact hlo q w
    · exact z7 q w
  · have e1 : t.heap = T'.heap := by rw [ht]; rfl
    have e2 : t.vm = T'.vm := by rw [ht]; rfl
    rw [e1] at z4
    refine z4.moved ?_
    rw [e2]
    exact X'.warmed.alike.symm
theorem vd_backT {mk : MethodId} {a : Array Value} {x : Nat} {M1 : vd_M} {mc ms : Nat} (X : Stand p l e R s m args below meth c T locs cells slots) {g : JFrame} (hg : g.method = m) {t : State} (hZ : vd_Z (.java g :: below) D z H0 (.inr x) M1 (T.calling g mk a) mc ms t) (hlo : ∀ q ∈ locs, H0.size ≤ q.base) :
    ∃ (T' : State) (locs' : List Loc), Stand p l e R s m args below meth c T' locs' (cells + mc) (slots + ms) ∧ (∀ q ∈ locs', H0.size ≤ q.base) ∧ vd_Rep D z H0 M1 s T'.heap ∧ t = (T'.setTop g).pushFrame (.throwing (vd_ad z H0.size x)) := by
  obtain ⟨o, z1, z2, z3, z4, z5, L, z6, z7⟩ := hZ
  have z3 : o = .threw (vd_ad z H0.size x) := z3
  subst z3
  obtain ⟨T', X', hW, -, ht⟩ := X.outOfThrown hg z2 z5 z6
  refine ⟨T', locs ++ L, X', fun q hq => ?_, ?_, ht⟩
  · rcases List.mem_append.mp hq with w | w
    · exact hlo q w
    · exact z7 q w
  · have e1 : t.heap = T'.heap := by rw [ht]; exact Stand.throwing_heap _ _ _
    have e2 : t.vm = T'.vm := by rw [ht]; exact Stand.throwing_vm _ _ _
    rw [e1] at z4
    refine z4.moved ?_
    rw [e2]
    exact X'.warmed.alike.symm
end VDW
