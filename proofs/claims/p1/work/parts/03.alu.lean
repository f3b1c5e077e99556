/-! ===== locals: a list of values, by place ===== -/
def vd_has (ad : Nat → Nat) (L : Array Slot) (nL : Nat) (ls : List Value) : Prop := ls.length = nL ∧ L.size = nL ∧ lv_wf L ∧ ∀ (i : Nat) (v : Value), ls[i]? = some v → vd_set v = true → L[i]? = some (.val (vd_cc ad v))
def vd_prs (ad : Nat → Nat) (ls : List Value) : List (Nat × Value) := ls.zipIdx.filterMap fun q => if vd_set q.1 then some (q.2, vd_cc ad q.1) else none
theorem vd_prs_mem {ad : Nat → Nat} {ls : List Value} {i : Nat} {w : Value} : (i, w) ∈ vd_prs ad ls ↔ ∃ v, ls[i]? = some v ∧ vd_set v = true ∧ w = vd_cc ad v := by
  constructor
  · intro h
    obtain ⟨⟨v, j⟩, h1, h2⟩ := List.mem_filterMap.mp h
    have h3 := List.mem_zipIdx_iff_getElem?.mp h1
    by_cases hv : vd_set v = true
    · simp only [hv, if_true, Option.some.injEq, Prod.mk.injEq] at h2
      obtain ⟨rfl, rfl⟩ := h2
      exact ⟨v, h3, hv, rfl⟩
    · simp [hv] at h2
  · rintro ⟨v, h1, h2, rfl⟩
    exact List.mem_filterMap.mpr ⟨(v, i), List.mem_zipIdx_iff_getElem?.mpr h1, by simp [h2]⟩
theorem vd_has.lv {ad : Nat → Nat} {L : Array Slot} {nL : Nat} {ls : List Value} (h : vd_has ad L nL ls) : lv_has L nL (vd_prs ad ls) := by
  refine ⟨h.2.1, h.2.2.1, fun q hq => ?_⟩
  obtain ⟨v, h1, h2, h3⟩ := vd_prs_mem (i := q.1) (w := q.2).mp hq
  rw [h3]
  exact h.2.2.2 _ _ h1 h2
theorem vd_long_cat {v : Value} : vd_long v = true ↔ v.category = 2 := by cases v <;> simp [vd_long, Value.category]
theorem vd_st1_spec {ls ls' : List Value} {i : Nat} {v : Value} (h : vd_st1 ls i v = some ls') : i < ls.length ∧ ls' = ls.set i v ∧ ∀ j w, j + 1 = i → ls[j]? = some w → ¬ w.category = 2 := by
  unfold vd_st1 at h
  split at h
  · rename_i hi
    cases i with
    | zero =>
      simp only [Option.some.injEq] at h
      exact ⟨hi, h.symm, fun j w hj => absurd hj (by omega)⟩
    | succ j =>
      simp only at h
      split at h
      · rename_i w hw
        split at h
        · cases h
        · rename_i hl
          simp only [Option.some.injEq] at h
          refine ⟨hi, h.symm, fun j' w' hj hw' => ?_⟩
          have : j' = j := by omega
          subst this
          rw [hw] at hw'
          cases hw'
          rw [← vd_long_cat]
          exact hl
      · cases h
  · cases h
theorem vd_st2_spec {ls ls' : List Value} {i : Nat} {v : Value} (h : vd_st2 ls i v = some ls') : i + 1 < ls.length ∧ ls' = (ls.set i v).set (i + 1) vd_U ∧ ∀ j w, j + 1 = i → ls[j]? = some w → ¬ w.category = 2 := by
  unfold vd_st2 at h
  split at h
  · rename_i hi
    cases i with
    | zero =>
      simp only [Option.some.injEq] at h
      exact ⟨hi, h.symm, fun j w hj => absurd hj (by omega)⟩
    | succ j =>
      simp only at h
      split at h
      · rename_i w hw
        split at h
        · cases h
        · rename_i hl
          simp only [Option.some.injEq] at h
          refine ⟨hi, h.symm, fun j' w' hj hw' => ?_⟩
          have : j' = j := by omega
          subst this
          rw [hw] at hw'
          cases hw'
          rw [← vd_long_cat]
          exact hl
      · cases h
  · cases h
theorem vd_has.store1 {ad : Nat → Nat} {L : Array Slot} {nL : Nat} {ls ls' : List Value} {i : Nat} {v : Value} (h : vd_has ad L nL ls) (hs : vd_st1 ls i v = some ls') (hc : v.category = 1) : ∃ L', storeLocals L i (vd_cc ad v) = some L' ∧ vd_has ad L' nL ls' := by
  obtain ⟨hi, rfl, hl⟩ := vd_st1_spec hs
  obtain ⟨L', e1, e2⟩ := lv_store1 (v := vd_cc ad v) h.lv (by rw [← h.1]; exact hi) (by rw [vd_cc_cat]; exact hc)
  refine ⟨L', e1, by rw [List.length_set]; exact h.1, e2.1, e2.2.1, fun j w hj hw => ?_⟩
  by_cases e : i = j
  · subst e
    rw [List.getElem?_set_self hi] at hj
    cases hj
    exact e2.2.2 (i, _) List.mem_cons_self
  · rw [List.getElem?_set_ne e] at hj
    refine e2.2.2 (j, vd_cc ad w) (List.mem_cons_of_mem _ (List.mem_filter.mpr ⟨vd_prs_mem.mpr ⟨w, hj, hw, rfl⟩, ?_⟩))
    have hne : ¬ j = i := fun q => e q.symm
    by_cases hj1 : j + 1 = i
    · have := hl j w hj1 hj
      simp [hne, vd_cc_cat, this]
    · simp [hne, hj1]
theorem vd_has.store2 {ad : Nat → Nat} {L : Array Slot} {nL : Nat} {ls ls' : List Value} {i : Nat} {v : Value} (h : vd_has ad L nL ls) (hs : vd_st2 ls i v = some ls') (hc : v.category = 2) : ∃ L', storeLocals L i (vd_cc ad v) = some L' ∧ vd_has ad L' nL ls' := by
  obtain ⟨hi, rfl, hl⟩ := vd_st2_spec hs
  obtain ⟨L', e1, e2⟩ := lv_store2 (v := vd_cc ad v) h.lv (by rw [← h.1]; exact hi) (by rw [vd_cc_cat]; exact hc)
  refine ⟨L', e1, by rw [List.length_set, List.length_set]; exact h.1, e2.1, e2.2.1, fun j w hj hw => ?_⟩
  by_cases e0 : i + 1 = j
  · subst e0
    rw [List.getElem?_set_self (by rw [List.length_set]; exact hi)] at hj
    cases hj
    cases hw
  · rw [List.getElem?_set_ne e0] at hj
    by_cases e : i = j
    · subst e
      rw [List.getElem?_set_self (by omega)] at hj
      cases hj
      exact e2.2.2 (i, _) List.mem_cons_self
    · rw [List.getElem?_set_ne e] at hj
      refine e2.2.2 (j, vd_cc ad w) (List.mem_cons_of_mem _ (List.mem_filter.mpr ⟨vd_prs_mem.mpr ⟨w, hj, hw, rfl⟩, ?_⟩))
      have hne : ¬ j = i := fun q => e q.symm
      have hne0 : ¬ j = i + 1 := fun q => e0 q.symm
      by_cases hj1 : j + 1 = i
      · have := hl j w hj1 hj
        simp [hne, hne0, vd_cc_cat, this]
      · simp [hne, hne0, hj1]
theorem vd_has.at {ad : Nat → Nat} {L : Array Slot} {nL : Nat} {ls : List Value} {i : Nat} {v : Value} (h : vd_has ad L nL ls) (hv : ls[i]? = some v) (hs : vd_set v = true) : L[i]? = some (.val (vd_cc ad v)) := h.2.2.2 i v hv hs
/-- the address of a cell: nine rows of statics and the script at their own places, the others one behind the other -/
def vd_ad (z : Nat → Nat) (B : Nat) (k : Nat) : Nat := if k < 10 then z k else B + (k - 10)
theorem vd_ad_inj {z : Nat → Nat} {B x y : Nat} (hx : 10 ≤ x) (hy : 10 ≤ y) : vd_ad z B x = vd_ad z B y ↔ x = y := by
  unfold vd_ad
  rw [if_neg (by omega), if_neg (by omega)]
  omega
theorem vd_or_spec {ad : Nat → Nat} {v : Value} {r : Option Nat} (h : vd_or v = some r) : vd_cc ad v = va_rf (r.map ad) ∧ ∀ k, r = some k → 10 ≤ k := by
  unfold vd_or at h
  split at h
  · cases h
    exact ⟨rfl, fun k q => by cases q⟩
  · split at h
    · rename_i hk
      cases h
      exact ⟨rfl, fun k q => by cases q; exact hk⟩
    · cases h
  · cases h
/-- the constants of the pool that an instruction asks for -/
def vd_cok (own : String) (i : Instr) (cv : Value) (args : Array Value) (s : State) : Prop := match i with
  | .ldc idx => ∀ v, cv = .int v → (Jvm.Cond.constant own idx v).before args s = true
  | .ldc_w idx => ∀ v, cv = .int v → (Jvm.Cond.constant own idx v).before args s = true
  | .ldc2_w idx => ∀ v, cv = .long v → (Jvm.Cond.constantLong own idx v).before args s = true
  | _ => True
section VDA
variable {p : Program} {l : Launch} {e : Env} {R : Room} {s : State} {m : MethodId} {args : Array Value} {below : List Frame} {meth : Method} {c : Code} {H : Heap} {locs : List Loc} {cells slots : Nat} {Q : State → Prop}
variable {cc : ByteArray} {z : Nat → Nat} {B : Nat} {nL : Nat} {L : Array Slot} {pc len pc' : Nat} {cv : Value} {ls st ls' st' : List Value} {own : String}
theorem vd_tgt {pc : Nat} {off : Int} (h : 0 ≤ (pc : Int) + off) : (pc : Int) + off = ((((pc : Int) + off).toNat : Nat) : Int) := (Int.toNat_of_nonneg h).symm
theorem vd_iinc (hx : p.tables.exec = Jvm.exec) (hb : c.code = cc) {i : Nat} {n : Int} {x : Int32} {L' : Array Slot} {rest : List Value} (hd : decode cc pc = .ok (.iinc i n, 3)) (hg : L[i]? = some (.val (.int x))) (e' : storeLocals L i (.int (x + Int32.ofInt n)) = some L')
    (k : W p l e R s m args below meth c H locs cells slots Q (F0 m (pc + 3) L' rest)) : W p l e R s m args below meth c H locs cells slots Q (F0 m pc L rest) := by
  intro T hT X
  obtain ⟨t, a, b⟩ := k T hT X
  refine ⟨t, ?_, b⟩
  jvm_step X.here [X.here.top, ↓top_set X.here.top, hx, hb, hd, hg, e']
  exact a
theorem vd_istore (hx : p.tables.exec = Jvm.exec) (hb : c.code = cc) {i : Nat} {x : Int32} {L' : Array Slot} {rest : List Value} (hd : decode cc pc = .ok (.istore i, 2)) (e' : storeLocals L i (.int x) = some L')
    (k : W p l e R s m args below meth c H locs cells slots Q (F0 m (pc + 2) L' rest)) : W p l e R s m args below meth c H locs cells slots Q (F0 m pc L (.int x :: rest)) := by
  intro T hT X
  obtain ⟨t, a, b⟩ := k T hT X
  refine ⟨t, ?_, b⟩
  jvm_step X.here [X.here.top, ↓top_set X.here.top, hx, hb, hd, e']
  exact a
theorem vd_istore_n (hx : p.tables.exec = Jvm.exec) (hb : c.code = cc) {i : Fin 4} {x : Int32} {L' : Array Slot} {rest : List Value} (hd : decode cc pc = .ok (.istore_n i, 1)) (e' : storeLocals L i (.int x) = some L')
    (k : W p l e R s m args below meth c H locs cells slots Q (F0 m (pc + 1) L' rest)) : W p l e R s m args below meth c H locs cells slots Q (F0 m pc L (.int x :: rest)) := by
  intro T hT X
  obtain ⟨t, a, b⟩ := k T hT X
  refine ⟨t, ?_, b⟩
  jvm_step X.here [X.here.top, ↓top_set X.here.top, hx, hb, hd, e']
  exact a
theorem vd_lstore (hx : p.tables.exec = Jvm.exec) (hb : c.code = cc) {i : Nat} {x : Int64} {L' : Array Slot} {rest : List Value} (hd : decode cc pc = .ok (.lstore i, 2)) (e' : storeLocals L i (.long x) = some L')
    (k : W p l e R s m args below meth c H locs cells slots Q (F0 m (pc + 2) L' rest)) : W p l e R s m args below meth c H locs cells slots Q (F0 m pc L (.long x :: rest)) := by
  intro T hT X
  obtain ⟨t, a, b⟩ := k T hT X
  refine ⟨t, ?_, b⟩
  jvm_step X.here [X.here.top, ↓top_set X.here.top, hx, hb, hd, e']
  exact a
theorem vd_lstore_n (hx : p.tables.exec = Jvm.exec) (hb : c.code = cc) {i : Fin 4} {x : Int64} {L' : Array Slot} {rest : List Value} (hd : decode cc pc = .ok (.lstore_n i, 1)) (e' : storeLocals L i (.long x) = some L')
    (k : W p l e R s m args below meth c H locs cells slots Q (F0 m (pc + 1) L' rest)) : W p l e R s m args below meth c H locs cells slots Q (F0 m pc L (.long x :: rest)) := by
  intro T hT X
  obtain ⟨t, a, b⟩ := k T hT X
  refine ⟨t, ?_, b⟩
  jvm_step X.here [X.here.top, ↓top_set X.here.top, hx, hb, hd, e']
  exact a
theorem vd_astore (hx : p.tables.exec = Jvm.exec) (hb : c.code = cc) {i : Nat} {x : Nat} {L' : Array Slot} {rest : List Value} (hd : decode cc pc = .ok (.astore i, 2)) (e' : storeLocals L i (.ref x) = some L')
    (k : W p l e R s m args below meth c H locs cells slots Q (F0 m (pc + 2) L' rest)) : W p l e R s m args below meth c H locs cells slots Q (F0 m pc L (.ref x :: rest)) := by
  intro T hT X
  obtain ⟨t, a, b⟩ := k T hT X
  refine ⟨t, ?_, b⟩
  jvm_step X.here [X.here.top, ↓top_set X.here.top, hx, hb, hd, e', Value.isRef]
  exact a
theorem vd_astore_n (hx : p.tables.exec = Jvm.exec) (hb : c.code = cc) {i : Fin 4} {x : Nat} {L' : Array Slot} {rest : List Value} (hd : decode cc pc = .ok (.astore_n i, 1)) (e' : storeLocals L i (.ref x) = some L')
    (k : W p l e R s m args below meth c H locs cells slots Q (F0 m (pc + 1) L' rest)) : W p l e R s m args below meth c H locs cells slots Q (F0 m pc L (.ref x :: rest)) := by
  intro T hT X
  obtain ⟨t, a, b⟩ := k T hT X
  refine ⟨t, ?_, b⟩
  jvm_step X.here [X.here.top, ↓top_set X.here.top, hx, hb, hd, e', Value.isRef]
  exact a
theorem vd_astoreN (hx : p.tables.exec = Jvm.exec) (hb : c.code = cc) {i : Nat} {L' : Array Slot} {rest : List Value} (hd : decode cc pc = .ok (.astore i, 2)) (e' : storeLocals L i .null = some L')
    (k : W p l e R s m args below meth c H locs cells slots Q (F0 m (pc + 2) L' rest)) : W p l e R s m args below meth c H locs cells slots Q (F0 m pc L (.null :: rest)) := by
  intro T hT X
  obtain ⟨t, a, b⟩ := k T hT X
  refine ⟨t, ?_, b⟩
  jvm_step X.here [X.here.top, ↓top_set X.here.top, hx, hb, hd, e', Value.isRef]
  exact a
theorem vd_astore_nN (hx : p.tables.exec = Jvm.exec) (hb : c.code = cc) {i : Fin 4} {L' : Array Slot} {rest : List Value} (hd : decode cc pc = .ok (.astore_n i, 1)) (e' : storeLocals L i .null = some L')
    (k : W p l e R s m args below meth c H locs cells slots Q (F0 m (pc + 1) L' rest)) : W p l e R s m args below meth c H locs cells slots Q (F0 m pc L (.null :: rest)) := by
  intro T hT X
  obtain ⟨t, a, b⟩ := k T hT X
  refine ⟨t, ?_, b⟩
  jvm_step X.here [X.here.top, ↓top_set X.here.top, hx, hb, hd, e', Value.isRef]
  exact a
end VDA
