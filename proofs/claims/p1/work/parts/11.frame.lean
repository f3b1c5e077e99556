/-! ===== what a frame of a method has; the entry; Object's constructor; arraycopy ===== -/
def vd_raw (x : ExceptionTableEntry) : Nat × Nat × Nat × Nat := (x.startPc, x.endPc, x.handlerPc, x.catchType)
def vd_Fx (P : vd_P) (k : Nat) (p : Program) (m : MethodId) (meth : Method) (c : Code) (s : State) (args : Array Value) : Prop :=
  p.tables.exec = Jvm.exec ∧ c.code = (P.2.1 k).2.1 ∧ c.maxLocals = (P.2.1 k).2.2.1 ∧ meth.sig.returnType = (P.2.1 k).2.2.2.1 ∧ s.vm.findClass (P.2.1 k).1.cls = some m.cls ∧ (∀ w ∈ vd_tb, w.before args s = true) ∧ meth.locks = false ∧ ((P.2.1 k).1.name = "<init>" → meth.name = "<init>") ∧ c.exceptionTable.toList.map vd_raw = P.2.2.2 k
/-- words of constants -/
def vd_cw (own : String) (i : Instr) (cv : Value) : Prop := match i with
  | .ldc idx => ∀ v, cv = .int v → Jvm.Cond.constant own idx v ∈ vd_tb
  | .ldc_w idx => ∀ v, cv = .int v → Jvm.Cond.constant own idx v ∈ vd_tb
  | .ldc2_w idx => ∀ v, cv = .long v → Jvm.Cond.constantLong own idx v ∈ vd_tb
  | _ => True
theorem vd_cw.cok {own : String} {i : Instr} {cv : Value} {args : Array Value} {s : State} (h : vd_cw own i cv) (hts : ∀ w ∈ vd_tb, w.before args s = true) : vd_cok own i cv args s := by
  cases i <;> first | exact trivial | exact fun v hv => hts _ (h v hv)
/-- a link to a method: its own class's words, or a nest mate's -/
def vd_lnk (own : String) (idx : Nat) (y : MethodName) : Prop := Cond.methodLink own idx y ∈ vd_tb ∨ ∃ host, Cond.methodLinkNest own idx y host ∈ vd_tb
/-- what is asked of a method that is called -/
def vd_mok (h : vd_H) : Prop := Cond.initialized h.1.cls ∈ vd_tb ∧ (h.1.cls ≠ "java/lang/invoke/MethodHandle" ∧ h.1.cls ≠ "java/lang/invoke/VarHandle") ∧ plainFor h.1 = true ∧ h.2.2.1 ≤ 45 ∧ (parseMethodDescriptor h.1.desc).map (fun d => d.parameters.length) = some (if h.2.2.2.2.2 = 99 then h.2.2.2.2.1 else h.2.2.2.2.1 - 1) ∧ (h.2.2.2.2.2 ≠ 99 → 1 ≤ h.2.2.2.2.1)
/-- what is asked of a call -/
def vd_kok (own : String) (i : Instr) (h : vd_H) : Prop := vd_mok h ∧ (match i with
  | .invokestatic idx => vd_lnk own idx h.1 ∧ Cond.static h.1 ∈ vd_tb ∧ h.2.2.2.2.2 = 99
  | .invokevirtual idx => vd_lnk own idx h.1 ∧ Cond.instanceMethod h.1 ∈ vd_tb ∧ Cond.selects h.1.cls h.1 h.1 ∈ vd_tb ∧ h.2.2.2.2.2 ≠ 99 ∧ ∃ r : vw_C, vd_cls[h.2.2.2.2.2]? = some r ∧ r.1 = h.1.cls
  | .invokespecial idx => vd_lnk own idx h.1 ∧ Cond.instanceMethod h.1 ∈ vd_tb ∧ h.1.name = "<init>" ∧ Cond.code h.1 h.2.1 h.2.2.1 none ∈ vd_tb ∧ h.2.2.2.2.2 ≠ 99
  | _ => False)
def vd_ook (own : String) (i : Instr) : Prop := match i with
  | .invokespecial idx => Cond.methodLink own idx objectInit ∈ vd_tb ∧ Cond.instanceMethod objectInit ∈ vd_tb ∧ Cond.code objectInit ⟨#[0xb1]⟩ 1 none ∈ vd_tb
  | _ => False
def vd_pok (own : String) (i : Instr) : Prop := match i with
  | .invokestatic idx => Cond.methodLink own idx arraycopyName ∈ vd_tb ∧ Cond.native arraycopyName ∈ vd_tb ∧ Cond.static arraycopyName ∈ vd_tb ∧ Cond.initialized "java/lang/System" ∈ vd_tb
  | _ => False
section VDF
variable {p : Program} {l : Launch} {e : Env} {R : Room} {s : State} {m : MethodId} {args : Array Value} {below : List Frame} {meth : Method} {c : Code} {H : Heap} {locs : List Loc} {cells slots : Nat} {Q : State → Prop}
variable {cc : ByteArray} {D : va_G} {z : Nat → Nat} {H0 : Heap} {M : vd_M} {own : String} {pc : Nat} {L : Array Slot} {a b len : Nat} {st st' : List Value} {M' : vd_M}
theorem vd_cs_map (ad : Nat → Nat) (st : List Value) : ((st.map (vd_cc ad)).map fun v => v.category).sum = vd_cs st := by
  unfold vd_cs
  rw [List.map_map]
  congr 1
  apply List.map_congr_left
  intro v _
  exact vd_cc_cat ad v
theorem vd_objInit (hx : p.tables.exec = Jvm.exec) (hb : c.code = cc) (hown : s.vm.findClass own = some m.cls) (hts : ∀ w ∈ vd_tb, w.before args s = true) {i : Instr} (hw : vd_ook own i) (hd : decode cc pc = .ok (i, len)) (ht : vd_tok i pc len = true) (hsz : L.size = c.maxLocals) {o : Nat} (hcs : vd_cs st ≤ 8) (hf : 8 ≤ R.frames) (hl : 400 ≤ R.locals)
    (kk : W p l e R s m args below meth c H locs cells slots Q (F0 m (pc + len) L (st.map (vd_cc (vd_ad z H0.size))))) : W p l e R s m args below meth c H locs cells slots Q (F0 m pc L ((Value.ref o :: st).map (vd_cc (vd_ad z H0.size)))) := by
  cases i with
  | invokespecial idx =>
    simp only [vd_tok, beq_iff_eq] at ht
    subst ht
    obtain ⟨w1, w2, w3⟩ := hw
    refine W.objInit hx hb hown (hts _ w1) (hts _ w2) (hts _ w3) (g := F0 m pc L ((Value.ref o :: st).map (vd_cc (vd_ad z H0.size)))) rfl hsz (a := vd_ad z H0.size o) (rest := st.map (vd_cc (vd_ad z H0.size))) rfl hd (by omega) ?_ kk
    show 2 * 0 + _ + 12 ≤ _
    rw [vd_cs_map]
    omega
  | _ => exact hw.elim
/-- the entry of a method -/
theorem vd_has_ent (ad : Nat → Nat) (vs : List Value) {nL : Nat} (h : (vd_fl vs).length ≤ nL) : vd_has ad ((lg_sl (vs.map (vd_cc ad)) ++ List.replicate (nL - (lg_sl (vs.map (vd_cc ad))).length) Slot.unset).toArray) nL (vd_ent nL vs) := by
  have hlen : ∀ vs : List Value, (lg_sl (vs.map (vd_cc ad))).length = (vd_fl vs).length := by
    intro vs
    induction vs with
    | nil => rfl
    | cons v r ih =>
      simp only [lg_sl, vd_fl, List.map_cons, List.flatMap_cons, List.length_append] at ih ⊢
      rw [ih]
      congr 1
      by_cases hv : vd_long v = true
      · rw [if_pos (by rw [vd_cc_cat]; exact vd_long_cat.mp hv), if_pos hv]; rfl
      · rw [if_neg (by rw [vd_cc_cat]; exact fun q => hv (vd_long_cat.mpr q)), if_neg hv]; rfl
  have hl := lv_entry (vs.map (vd_cc ad)) (n := nL) (by rw [hlen]; exact h)
  refine ⟨by unfold vd_ent; rw [List.length_append, List.length_replicate]; omega, hl.1, hl.2.1, fun i v hi hv => ?_⟩
  have key : ∀ (vs : List Value) (i : Nat) (v : Value), (vd_fl vs)[i]? = some v → vd_set v = true → (lg_sl (vs.map (vd_cc ad)))[i]? = some (.val (vd_cc ad v)) := by
    intro vs
    induction vs with
    | nil => intro i v hi; simp [vd_fl] at hi
    | cons w r ih =>
      intro i v hi hv
      simp only [lg_sl, vd_fl, List.map_cons, List.flatMap_cons] at hi ih ⊢
      by_cases hw : vd_long w = true
      · rw [if_pos hw] at hi
        rw [if_pos (by rw [vd_cc_cat]; exact vd_long_cat.mp hw)]
        match i, hi with
        | 0, hi => cases hi; rfl
        | 1, hi => cases hi; cases hv
        | i + 2, hi => exact ih i v hi hv
      · rw [if_neg hw] at hi
        rw [if_neg (by rw [vd_cc_cat]; exact fun q => hw (vd_long_cat.mpr q))]
        match i, hi with
        | 0, hi => cases hi; rfl
        | i + 1, hi => exact ih i v hi hv
  unfold vd_ent at hi
  by_cases hlt : i < (vd_fl vs).length
  · rw [List.getElem?_append_left hlt] at hi
    have := key vs i v hi hv
    have hlt2 : i < (lg_sl (vs.map (vd_cc ad))).length := by rw [hlen]; exact hlt
    simp only [List.getElem?_toArray]
    rw [List.getElem?_append_left hlt2]
    exact this
  · rw [List.getElem?_append_right (by omega)] at hi
    rw [List.getElem?_replicate] at hi
    split at hi
    · cases hi; cases hv
    · cases hi
theorem vd_aty_prim {k : Nat} (h1 : 32 ≤ k) (h2 : k < 35) : refKind (vd_aty k) = false ∧ vd_isr (vd_aty k) = false := by
  have : k = 32 ∨ k = 33 ∨ k = 34 := by omega
  rcases this with rfl | rfl | rfl <;> exact ⟨rfl, rfl⟩
end VDF
