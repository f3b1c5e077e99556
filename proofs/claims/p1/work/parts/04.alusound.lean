/-! ===== the instructions that touch neither cells nor methods, once and for all ===== -/
section VDB
variable {p : Program} {l : Launch} {e : Env} {R : Room} {s : State} {m : MethodId} {args : Array Value} {below : List Frame} {meth : Method} {c : Code} {H : Heap} {locs : List Loc} {cells slots : Nat} {Q : State → Prop}
variable {cc : ByteArray} {z : Nat → Nat} {B : Nat} {nL : Nat} {own : String}
theorem vd_cat1 {v : Value} (h : vd_long v = false) : v.category = 1 := by
  rcases lv_cat v with q | q
  · exact q
  · rw [vd_long_cat.mpr q] at h; cases h
theorem vd_alu_iconst (hx : p.tables.exec = Jvm.exec) (hb : c.code = cc) (hown : s.vm.findClass own = some m.cls) {n : Int} {L : Array Slot} {pc len pc' : Nat} {cv : Value} {ls st ls' st' : List Value} (hd : decode cc pc = .ok (.iconst n, len)) (ht : vd_tok (.iconst n) pc len = true) (hc : vd_cok own (.iconst n) cv args s) (hl : vd_has (vd_ad z B) L nL ls) (h : vd_alu (.iconst n) pc len cv ls st = some (pc', ls', st'))
    (kk : ∀ L' : Array Slot, vd_has (vd_ad z B) L' nL ls' → W p l e R s m args below meth c H locs cells slots Q (F0 m pc' L' (st'.map (vd_cc (vd_ad z B))))) : W p l e R s m args below meth c H locs cells slots Q (F0 m pc L (st.map (vd_cc (vd_ad z B)))) := by
  simp only [vd_tok, beq_iff_eq] at ht
  subst ht
  simp only [vd_alu] at h
  simp only [Option.some.injEq, Prod.mk.injEq] at h
  obtain ⟨rfl, rfl, rfl⟩ := h
  exact lv_iconst hx hb hd rfl (kk L hl)
theorem vd_alu_bipush (hx : p.tables.exec = Jvm.exec) (hb : c.code = cc) (hown : s.vm.findClass own = some m.cls) {n : Int} {L : Array Slot} {pc len pc' : Nat} {cv : Value} {ls st ls' st' : List Value} (hd : decode cc pc = .ok (.bipush n, len)) (ht : vd_tok (.bipush n) pc len = true) (hc : vd_cok own (.bipush n) cv args s) (hl : vd_has (vd_ad z B) L nL ls) (h : vd_alu (.bipush n) pc len cv ls st = some (pc', ls', st'))
    (kk : ∀ L' : Array Slot, vd_has (vd_ad z B) L' nL ls' → W p l e R s m args below meth c H locs cells slots Q (F0 m pc' L' (st'.map (vd_cc (vd_ad z B))))) : W p l e R s m args below meth c H locs cells slots Q (F0 m pc L (st.map (vd_cc (vd_ad z B)))) := by
  simp only [vd_tok, beq_iff_eq] at ht
  subst ht
  simp only [vd_alu] at h
  simp only [Option.some.injEq, Prod.mk.injEq] at h
  obtain ⟨rfl, rfl, rfl⟩ := h
  exact lv_bipush hx hb hd rfl (kk L hl)
theorem vd_alu_sipush (hx : p.tables.exec = Jvm.exec) (hb : c.code = cc) (hown : s.vm.findClass own = some m.cls) {n : Int} {L : Array Slot} {pc len pc' : Nat} {cv : Value} {ls st ls' st' : List Value} (hd : decode cc pc = .ok (.sipush n, len)) (ht : vd_tok (.sipush n) pc len = true) (hc : vd_cok own (.sipush n) cv args s) (hl : vd_has (vd_ad z B) L nL ls) (h : vd_alu (.sipush n) pc len cv ls st = some (pc', ls', st'))
    (kk : ∀ L' : Array Slot, vd_has (vd_ad z B) L' nL ls' → W p l e R s m args below meth c H locs cells slots Q (F0 m pc' L' (st'.map (vd_cc (vd_ad z B))))) : W p l e R s m args below meth c H locs cells slots Q (F0 m pc L (st.map (vd_cc (vd_ad z B)))) := by
  simp only [vd_tok, beq_iff_eq] at ht
  subst ht
  simp only [vd_alu] at h
  simp only [Option.some.injEq, Prod.mk.injEq] at h
  obtain ⟨rfl, rfl, rfl⟩ := h
  exact lv_sipush hx hb hd rfl (kk L hl)
theorem vd_alu_lconst (hx : p.tables.exec = Jvm.exec) (hb : c.code = cc) (hown : s.vm.findClass own = some m.cls) {n : Fin 2} {L : Array Slot} {pc len pc' : Nat} {cv : Value} {ls st ls' st' : List Value} (hd : decode cc pc = .ok (.lconst n, len)) (ht : vd_tok (.lconst n) pc len = true) (hc : vd_cok own (.lconst n) cv args s) (hl : vd_has (vd_ad z B) L nL ls) (h : vd_alu (.lconst n) pc len cv ls st = some (pc', ls', st'))
    (kk : ∀ L' : Array Slot, vd_has (vd_ad z B) L' nL ls' → W p l e R s m args below meth c H locs cells slots Q (F0 m pc' L' (st'.map (vd_cc (vd_ad z B))))) : W p l e R s m args below meth c H locs cells slots Q (F0 m pc L (st.map (vd_cc (vd_ad z B)))) := by
  simp only [vd_tok, beq_iff_eq] at ht
  subst ht
  simp only [vd_alu] at h
  simp only [Option.some.injEq, Prod.mk.injEq] at h
  obtain ⟨rfl, rfl, rfl⟩ := h
  exact lv_lconst hx hb hd rfl (kk L hl)
theorem vd_alu_null (hx : p.tables.exec = Jvm.exec) (hb : c.code = cc) (hown : s.vm.findClass own = some m.cls)  {L : Array Slot} {pc len pc' : Nat} {cv : Value} {ls st ls' st' : List Value} (hd : decode cc pc = .ok (.aconst_null, len)) (ht : vd_tok .aconst_null pc len = true) (hc : vd_cok own .aconst_null cv args s) (hl : vd_has (vd_ad z B) L nL ls) (h : vd_alu .aconst_null pc len cv ls st = some (pc', ls', st'))
    (kk : ∀ L' : Array Slot, vd_has (vd_ad z B) L' nL ls' → W p l e R s m args below meth c H locs cells slots Q (F0 m pc' L' (st'.map (vd_cc (vd_ad z B))))) : W p l e R s m args below meth c H locs cells slots Q (F0 m pc L (st.map (vd_cc (vd_ad z B)))) := by
  simp only [vd_tok, beq_iff_eq] at ht
  subst ht
  simp only [vd_alu] at h
  simp only [Option.some.injEq, Prod.mk.injEq] at h
  obtain ⟨rfl, rfl, rfl⟩ := h
  exact lv_null hx hb hd (kk L hl)
theorem vd_alu_ldc (hx : p.tables.exec = Jvm.exec) (hb : c.code = cc) (hown : s.vm.findClass own = some m.cls) {n : Nat} {L : Array Slot} {pc len pc' : Nat} {cv : Value} {ls st ls' st' : List Value} (hd : decode cc pc = .ok (.ldc n, len)) (ht : vd_tok (.ldc n) pc len = true) (hc : vd_cok own (.ldc n) cv args s) (hl : vd_has (vd_ad z B) L nL ls) (h : vd_alu (.ldc n) pc len cv ls st = some (pc', ls', st'))
    (kk : ∀ L' : Array Slot, vd_has (vd_ad z B) L' nL ls' → W p l e R s m args below meth c H locs cells slots Q (F0 m pc' L' (st'.map (vd_cc (vd_ad z B))))) : W p l e R s m args below meth c H locs cells slots Q (F0 m pc L (st.map (vd_cc (vd_ad z B)))) := by
  simp only [vd_tok, beq_iff_eq] at ht
  subst ht
  simp only [vd_alu] at h
  cases cv with
  | int v =>
    simp only [Option.some.injEq, Prod.mk.injEq] at h
    obtain ⟨rfl, rfl, rfl⟩ := h
    exact W.ldc hx hb hown (hc v rfl) rfl hd (kk L hl)
  | _ => cases h
theorem vd_alu_ldc_w (hx : p.tables.exec = Jvm.exec) (hb : c.code = cc) (hown : s.vm.findClass own = some m.cls) {n : Nat} {L : Array Slot} {pc len pc' : Nat} {cv : Value} {ls st ls' st' : List Value} (hd : decode cc pc = .ok (.ldc_w n, len)) (ht : vd_tok (.ldc_w n) pc len = true) (hc : vd_cok own (.ldc_w n) cv args s) (hl : vd_has (vd_ad z B) L nL ls) (h : vd_alu (.ldc_w n) pc len cv ls st = some (pc', ls', st'))
    (kk : ∀ L' : Array Slot, vd_has (vd_ad z B) L' nL ls' → W p l e R s m args below meth c H locs cells slots Q (F0 m pc' L' (st'.map (vd_cc (vd_ad z B))))) : W p l e R s m args below meth c H locs cells slots Q (F0 m pc L (st.map (vd_cc (vd_ad z B)))) := by
  simp only [vd_tok, beq_iff_eq] at ht
  subst ht
  simp only [vd_alu] at h
  cases cv with
  | int v =>
    simp only [Option.some.injEq, Prod.mk.injEq] at h
    obtain ⟨rfl, rfl, rfl⟩ := h
    exact lv_ldcw hx hb hown (hc v rfl) hd (kk L hl)
  | _ => cases h
theorem vd_alu_ldc2_w (hx : p.tables.exec = Jvm.exec) (hb : c.code = cc) (hown : s.vm.findClass own = some m.cls) {n : Nat} {L : Array Slot} {pc len pc' : Nat} {cv : Value} {ls st ls' st' : List Value} (hd : decode cc pc = .ok (.ldc2_w n, len)) (ht : vd_tok (.ldc2_w n) pc len = true) (hc : vd_cok own (.ldc2_w n) cv args s) (hl : vd_has (vd_ad z B) L nL ls) (h : vd_alu (.ldc2_w n) pc len cv ls st = some (pc', ls', st'))
    (kk : ∀ L' : Array Slot, vd_has (vd_ad z B) L' nL ls' → W p l e R s m args below meth c H locs cells slots Q (F0 m pc' L' (st'.map (vd_cc (vd_ad z B))))) : W p l e R s m args below meth c H locs cells slots Q (F0 m pc L (st.map (vd_cc (vd_ad z B)))) := by
  simp only [vd_tok, beq_iff_eq] at ht
  subst ht
  simp only [vd_alu] at h
  cases cv with
  | long v =>
    simp only [Option.some.injEq, Prod.mk.injEq] at h
    obtain ⟨rfl, rfl, rfl⟩ := h
    exact lv_ldc2 hx hb hown (hc v rfl) hd (kk L hl)
  | _ => cases h
theorem vd_alu_iload (hx : p.tables.exec = Jvm.exec) (hb : c.code = cc) (hown : s.vm.findClass own = some m.cls) {n : Nat} {L : Array Slot} {pc len pc' : Nat} {cv : Value} {ls st ls' st' : List Value} (hd : decode cc pc = .ok (.iload n, len)) (ht : vd_tok (.iload n) pc len = true) (hc : vd_cok own (.iload n) cv args s) (hl : vd_has (vd_ad z B) L nL ls) (h : vd_alu (.iload n) pc len cv ls st = some (pc', ls', st'))
    (kk : ∀ L' : Array Slot, vd_has (vd_ad z B) L' nL ls' → W p l e R s m args below meth c H locs cells slots Q (F0 m pc' L' (st'.map (vd_cc (vd_ad z B))))) : W p l e R s m args below meth c H locs cells slots Q (F0 m pc L (st.map (vd_cc (vd_ad z B)))) := by
  simp only [vd_tok, beq_iff_eq] at ht
  subst ht
  simp only [vd_alu] at h
  split at h
  · rename_i x hv
    simp only [Option.some.injEq, Prod.mk.injEq] at h
    obtain ⟨rfl, rfl, rfl⟩ := h
    exact lv_iload hx hb hd (hl.at hv rfl) (kk L hl)
  · cases h
theorem vd_alu_iload_n (hx : p.tables.exec = Jvm.exec) (hb : c.code = cc) (hown : s.vm.findClass own = some m.cls) {n : Fin 4} {L : Array Slot} {pc len pc' : Nat} {cv : Value} {ls st ls' st' : List Value} (hd : decode cc pc = .ok (.iload_n n, len)) (ht : vd_tok (.iload_n n) pc len = true) (hc : vd_cok own (.iload_n n) cv args s) (hl : vd_has (vd_ad z B) L nL ls) (h : vd_alu (.iload_n n) pc len cv ls st = some (pc', ls', st'))
    (kk : ∀ L' : Array Slot, vd_has (vd_ad z B) L' nL ls' → W p l e R s m args below meth c H locs cells slots Q (F0 m pc' L' (st'.map (vd_cc (vd_ad z B))))) : W p l e R s m args below meth c H locs cells slots Q (F0 m pc L (st.map (vd_cc (vd_ad z B)))) := by
  simp only [vd_tok, beq_iff_eq] at ht
  subst ht
  simp only [vd_alu] at h
  split at h
  · rename_i x hv
    simp only [Option.some.injEq, Prod.mk.injEq] at h
    obtain ⟨rfl, rfl, rfl⟩ := h
    exact lv_iload_n hx hb hd rfl (hl.at hv rfl) (kk L hl)
  · cases h
theorem vd_alu_lload (hx : p.tables.exec = Jvm.exec) (hb : c.code = cc) (hown : s.vm.findClass own = some m.cls) {n : Nat} {L : Array Slot} {pc len pc' : Nat} {cv : Value} {ls st ls' st' : List Value} (hd : decode cc pc = .ok (.lload n, len)) (ht : vd_tok (.lload n) pc len = true) (hc : vd_cok own (.lload n) cv args s) (hl : vd_has (vd_ad z B) L nL ls) (h : vd_alu (.lload n) pc len cv ls st = some (pc', ls', st'))
    (kk : ∀ L' : Array Slot, vd_has (vd_ad z B) L' nL ls' → W p l e R s m args below meth c H locs cells slots Q (F0 m pc' L' (st'.map (vd_cc (vd_ad z B))))) : W p l e R s m args below meth c H locs cells slots Q (F0 m pc L (st.map (vd_cc (vd_ad z B)))) := by
  simp only [vd_tok, beq_iff_eq] at ht
  subst ht
  simp only [vd_alu] at h
  split at h
  · rename_i x hv
    simp only [Option.some.injEq, Prod.mk.injEq] at h
    obtain ⟨rfl, rfl, rfl⟩ := h
    exact lv_lload hx hb hd (hl.at hv rfl) (kk L hl)
  · cases h
theorem vd_alu_lload_n (hx : p.tables.exec = Jvm.exec) (hb : c.code = cc) (hown : s.vm.findClass own = some m.cls) {n : Fin 4} {L : Array Slot} {pc len pc' : Nat} {cv : Value} {ls st ls' st' : List Value} (hd : decode cc pc = .ok (.lload_n n, len)) (ht : vd_tok (.lload_n n) pc len = true) (hc : vd_cok own (.lload_n n) cv args s) (hl : vd_has (vd_ad z B) L nL ls) (h : vd_alu (.lload_n n) pc len cv ls st = some (pc', ls', st'))
    (kk : ∀ L' : Array Slot, vd_has (vd_ad z B) L' nL ls' → W p l e R s m args below meth c H locs cells slots Q (F0 m pc' L' (st'.map (vd_cc (vd_ad z B))))) : W p l e R s m args below meth c H locs cells slots Q (F0 m pc L (st.map (vd_cc (vd_ad z B)))) := by
  simp only [vd_tok, beq_iff_eq] at ht
  subst ht
  simp only [vd_alu] at h
  split at h
  · rename_i x hv
    simp only [Option.some.injEq, Prod.mk.injEq] at h
    obtain ⟨rfl, rfl, rfl⟩ := h
    exact lv_lload_n hx hb hd rfl (hl.at hv rfl) (kk L hl)
  · cases h
theorem vd_alu_aload (hx : p.tables.exec = Jvm.exec) (hb : c.code = cc) (hown : s.vm.findClass own = some m.cls) {n : Nat} {L : Array Slot} {pc len pc' : Nat} {cv : Value} {ls st ls' st' : List Value} (hd : decode cc pc = .ok (.aload n, len)) (ht : vd_tok (.aload n) pc len = true) (hc : vd_cok own (.aload n) cv args s) (hl : vd_has (vd_ad z B) L nL ls) (h : vd_alu (.aload n) pc len cv ls st = some (pc', ls', st'))
    (kk : ∀ L' : Array Slot, vd_has (vd_ad z B) L' nL ls' → W p l e R s m args below meth c H locs cells slots Q (F0 m pc' L' (st'.map (vd_cc (vd_ad z B))))) : W p l e R s m args below meth c H locs cells slots Q (F0 m pc L (st.map (vd_cc (vd_ad z B)))) := by
  simp only [vd_tok, beq_iff_eq] at ht
  subst ht
  simp only [vd_alu] at h
  split at h
  · rename_i x hv
    simp only [Option.some.injEq, Prod.mk.injEq] at h
    obtain ⟨rfl, rfl, rfl⟩ := h
    exact lv_aload hx hb hd (hl.at hv rfl) (kk L hl)
  · rename_i hv
    simp only [Option.some.injEq, Prod.mk.injEq] at h
    obtain ⟨rfl, rfl, rfl⟩ := h
    exact lv_aloadN hx hb hd (hl.at hv rfl) (kk L hl)
  · cases h
theorem vd_alu_aload_n (hx : p.tables.exec = Jvm.exec) (hb : c.code = cc) (hown : s.vm.findClass own = some m.cls) {n : Fin 4} {L : Array Slot} {pc len pc' : Nat} {cv : Value} {ls st ls' st' : List Value} (hd : decode cc pc = .ok (.aload_n n, len)) (ht : vd_tok (.aload_n n) pc len = true) (hc : vd_cok own (.aload_n n) cv args s) (hl : vd_has (vd_ad z B) L nL ls) (h : vd_alu (.aload_n n) pc len cv ls st = some (pc', ls', st'))
    (kk : ∀ L' : Array Slot, vd_has (vd_ad z B) L' nL ls' → W p l e R s m args below meth c H locs cells slots Q (F0 m pc' L' (st'.map (vd_cc (vd_ad z B))))) : W p l e R s m args below meth c H locs cells slots Q (F0 m pc L (st.map (vd_cc (vd_ad z B)))) := by
  simp only [vd_tok, beq_iff_eq] at ht
  subst ht
  simp only [vd_alu] at h
  split at h
  · rename_i x hv
    simp only [Option.some.injEq, Prod.mk.injEq] at h
    obtain ⟨rfl, rfl, rfl⟩ := h
    exact lv_aload_n hx hb hd rfl (hl.at hv rfl) (kk L hl)
  · rename_i hv
    simp only [Option.some.injEq, Prod.mk.injEq] at h
    obtain ⟨rfl, rfl, rfl⟩ := h
    exact lv_aload_nN hx hb hd rfl (hl.at hv rfl) (kk L hl)
  · cases h
theorem vd_alu_istore (hx : p.tables.exec = Jvm.exec) (hb : c.code = cc) (hown : s.vm.findClass own = some m.cls) {n : Nat} {L : Array Slot} {pc len pc' : Nat} {cv : Value} {ls st ls' st' : List Value} (hd : decode cc pc = .ok (.istore n, len)) (ht : vd_tok (.istore n) pc len = true) (hc : vd_cok own (.istore n) cv args s) (hl : vd_has (vd_ad z B) L nL ls) (h : vd_alu (.istore n) pc len cv ls st = some (pc', ls', st'))
    (kk : ∀ L' : Array Slot, vd_has (vd_ad z B) L' nL ls' → W p l e R s m args below meth c H locs cells slots Q (F0 m pc' L' (st'.map (vd_cc (vd_ad z B))))) : W p l e R s m args below meth c H locs cells slots Q (F0 m pc L (st.map (vd_cc (vd_ad z B)))) := by
  simp only [vd_tok, beq_iff_eq] at ht
  subst ht
  simp only [vd_alu] at h
  split at h
  · rename_i x st
    obtain ⟨ls2, hs, he⟩ := Option.map_eq_some_iff.mp h
    simp only [Prod.mk.injEq] at he
    obtain ⟨rfl, rfl, rfl⟩ := he
    obtain ⟨L', e', hl'⟩ := hl.store1 hs rfl
    exact vd_istore hx hb hd e' (kk L' hl')
  · cases h
theorem vd_alu_istore_n (hx : p.tables.exec = Jvm.exec) (hb : c.code = cc) (hown : s.vm.findClass own = some m.cls) {n : Fin 4} {L : Array Slot} {pc len pc' : Nat} {cv : Value} {ls st ls' st' : List Value} (hd : decode cc pc = .ok (.istore_n n, len)) (ht : vd_tok (.istore_n n) pc len = true) (hc : vd_cok own (.istore_n n) cv args s) (hl : vd_has (vd_ad z B) L nL ls) (h : vd_alu (.istore_n n) pc len cv ls st = some (pc', ls', st'))
    (kk : ∀ L' : Array Slot, vd_has (vd_ad z B) L' nL ls' → W p l e R s m args below meth c H locs cells slots Q (F0 m pc' L' (st'.map (vd_cc (vd_ad z B))))) : W p l e R s m args below meth c H locs cells slots Q (F0 m pc L (st.map (vd_cc (vd_ad z B)))) := by
  simp only [vd_tok, beq_iff_eq] at ht
  subst ht
  simp only [vd_alu] at h
  split at h
  · rename_i x st
    obtain ⟨ls2, hs, he⟩ := Option.map_eq_some_iff.mp h
    simp only [Prod.mk.injEq] at he
    obtain ⟨rfl, rfl, rfl⟩ := he
    obtain ⟨L', e', hl'⟩ := hl.store1 hs rfl
    exact vd_istore_n hx hb hd e' (kk L' hl')
  · cases h
theorem vd_alu_lstore (hx : p.tables.exec = Jvm.exec) (hb : c.code = cc) (hown : s.vm.findClass own = some m.cls) {n : Nat} {L : Array Slot} {pc len pc' : Nat} {cv : Value} {ls st ls' st' : List Value} (hd : decode cc pc = .ok (.lstore n, len)) (ht : vd_tok (.lstore n) pc len = true) (hc : vd_cok own (.lstore n) cv args s) (hl : vd_has (vd_ad z B) L nL ls) (h : vd_alu (.lstore n) pc len cv ls st = some (pc', ls', st'))
    (kk : ∀ L' : Array Slot, vd_has (vd_ad z B) L' nL ls' → W p l e R s m args below meth c H locs cells slots Q (F0 m pc' L' (st'.map (vd_cc (vd_ad z B))))) : W p l e R s m args below meth c H locs cells slots Q (F0 m pc L (st.map (vd_cc (vd_ad z B)))) := by
  simp only [vd_tok, beq_iff_eq] at ht
  subst ht
  simp only [vd_alu] at h
  split at h
  · rename_i x st
    obtain ⟨ls2, hs, he⟩ := Option.map_eq_some_iff.mp h
    simp only [Prod.mk.injEq] at he
    obtain ⟨rfl, rfl, rfl⟩ := he
    obtain ⟨L', e', hl'⟩ := hl.store2 hs rfl
    exact vd_lstore hx hb hd e' (kk L' hl')
  · cases h
theorem vd_alu_lstore_n (hx : p.tables.exec = Jvm.exec) (hb : c.code = cc) (hown : s.vm.findClass own = some m.cls) {n : Fin 4} {L : Array Slot} {pc len pc' : Nat} {cv : Value} {ls st ls' st' : List Value} (hd : decode cc pc = .ok (.lstore_n n, len)) (ht : vd_tok (.lstore_n n) pc len = true) (hc : vd_cok own (.lstore_n n) cv args s) (hl : vd_has (vd_ad z B) L nL ls) (h : vd_alu (.lstore_n n) pc len cv ls st = some (pc', ls', st'))
    (kk : ∀ L' : Array Slot, vd_has (vd_ad z B) L' nL ls' → W p l e R s m args below meth c H locs cells slots Q (F0 m pc' L' (st'.map (vd_cc (vd_ad z B))))) : W p l e R s m args below meth c H locs cells slots Q (F0 m pc L (st.map (vd_cc (vd_ad z B)))) := by
  simp only [vd_tok, beq_iff_eq] at ht
  subst ht
  simp only [vd_alu] at h
  split at h
  · rename_i x st
    obtain ⟨ls2, hs, he⟩ := Option.map_eq_some_iff.mp h
    simp only [Prod.mk.injEq] at he
    obtain ⟨rfl, rfl, rfl⟩ := he
    obtain ⟨L', e', hl'⟩ := hl.store2 hs rfl
    exact vd_lstore_n hx hb hd e' (kk L' hl')
  · cases h
theorem vd_alu_astore (hx : p.tables.exec = Jvm.exec) (hb : c.code = cc) (hown : s.vm.findClass own = some m.cls) {n : Nat} {L : Array Slot} {pc len pc' : Nat} {cv : Value} {ls st ls' st' : List Value} (hd : decode cc pc = .ok (.astore n, len)) (ht : vd_tok (.astore n) pc len = true) (hc : vd_cok own (.astore n) cv args s) (hl : vd_has (vd_ad z B) L nL ls) (h : vd_alu (.astore n) pc len cv ls st = some (pc', ls', st'))
    (kk : ∀ L' : Array Slot, vd_has (vd_ad z B) L' nL ls' → W p l e R s m args below meth c H locs cells slots Q (F0 m pc' L' (st'.map (vd_cc (vd_ad z B))))) : W p l e R s m args below meth c H locs cells slots Q (F0 m pc L (st.map (vd_cc (vd_ad z B)))) := by
  simp only [vd_tok, beq_iff_eq] at ht
  subst ht
  simp only [vd_alu] at h
  split at h
  · rename_i x st
    obtain ⟨ls2, hs, he⟩ := Option.map_eq_some_iff.mp h
    simp only [Prod.mk.injEq] at he
    obtain ⟨rfl, rfl, rfl⟩ := he
    obtain ⟨L', e', hl'⟩ := hl.store1 hs rfl
    exact vd_astore hx hb hd e' (kk L' hl')
  · rename_i st
    obtain ⟨ls2, hs, he⟩ := Option.map_eq_some_iff.mp h
    simp only [Prod.mk.injEq] at he
    obtain ⟨rfl, rfl, rfl⟩ := he
    obtain ⟨L', e', hl'⟩ := hl.store1 hs rfl
    exact vd_astoreN hx hb hd e' (kk L' hl')
  · cases h
theorem vd_alu_astore_n (hx : p.tables.exec = Jvm.exec) (hb : c.code = cc) (hown : s.vm.findClass own = some m.cls) {n : Fin 4} {L : Array Slot} {pc len pc' : Nat} {cv : Value} {ls st ls' st' : List Value} (hd : decode cc pc = .ok (.astore_n n, len)) (ht : vd_tok (.astore_n n) pc len = true) (hc : vd_cok own (.astore_n n) cv args s) (hl : vd_has (vd_ad z B) L nL ls) (h : vd_alu (.astore_n n) pc len cv ls st = some (pc', ls', st'))
    (kk : ∀ L' : Array Slot, vd_has (vd_ad z B) L' nL ls' → W p l e R s m args below meth c H locs cells slots Q (F0 m pc' L' (st'.map (vd_cc (vd_ad z B))))) : W p l e R s m args below meth c H locs cells slots Q (F0 m pc L (st.map (vd_cc (vd_ad z B)))) := by
  simp only [vd_tok, beq_iff_eq] at ht
  subst ht
  simp only [vd_alu] at h
  split at h
  · rename_i x st
    obtain ⟨ls2, hs, he⟩ := Option.map_eq_some_iff.mp h
    simp only [Prod.mk.injEq] at he
    obtain ⟨rfl, rfl, rfl⟩ := he
    obtain ⟨L', e', hl'⟩ := hl.store1 hs rfl
    exact vd_astore_n hx hb hd e' (kk L' hl')
  · rename_i st
    obtain ⟨ls2, hs, he⟩ := Option.map_eq_some_iff.mp h
    simp only [Prod.mk.injEq] at he
    obtain ⟨rfl, rfl, rfl⟩ := he
    obtain ⟨L', e', hl'⟩ := hl.store1 hs rfl
    exact vd_astore_nN hx hb hd e' (kk L' hl')
  · cases h
theorem vd_alu_iinc (hx : p.tables.exec = Jvm.exec) (hb : c.code = cc) (hown : s.vm.findClass own = some m.cls) {n : Nat} {k : Int} {L : Array Slot} {pc len pc' : Nat} {cv : Value} {ls st ls' st' : List Value} (hd : decode cc pc = .ok (.iinc n k, len)) (ht : vd_tok (.iinc n k) pc len = true) (hc : vd_cok own (.iinc n k) cv args s) (hl : vd_has (vd_ad z B) L nL ls) (h : vd_alu (.iinc n k) pc len cv ls st = some (pc', ls', st'))
    (kk : ∀ L' : Array Slot, vd_has (vd_ad z B) L' nL ls' → W p l e R s m args below meth c H locs cells slots Q (F0 m pc' L' (st'.map (vd_cc (vd_ad z B))))) : W p l e R s m args below meth c H locs cells slots Q (F0 m pc L (st.map (vd_cc (vd_ad z B)))) := by
  simp only [vd_tok, beq_iff_eq] at ht
  subst ht
  simp only [vd_alu] at h
  split at h
  · rename_i x hv
    obtain ⟨ls2, hs, he⟩ := Option.map_eq_some_iff.mp h
    simp only [Prod.mk.injEq] at he
    obtain ⟨rfl, rfl, rfl⟩ := he
    obtain ⟨L', e', hl'⟩ := hl.store1 hs rfl
    exact vd_iinc hx hb hd (hl.at hv rfl) e' (kk L' hl')
  · cases h
theorem vd_alu_iadd (hx : p.tables.exec = Jvm.exec) (hb : c.code = cc) (hown : s.vm.findClass own = some m.cls)  {L : Array Slot} {pc len pc' : Nat} {cv : Value} {ls st ls' st' : List Value} (hd : decode cc pc = .ok (.iadd, len)) (ht : vd_tok .iadd pc len = true) (hc : vd_cok own .iadd cv args s) (hl : vd_has (vd_ad z B) L nL ls) (h : vd_alu .iadd pc len cv ls st = some (pc', ls', st'))
    (kk : ∀ L' : Array Slot, vd_has (vd_ad z B) L' nL ls' → W p l e R s m args below meth c H locs cells slots Q (F0 m pc' L' (st'.map (vd_cc (vd_ad z B))))) : W p l e R s m args below meth c H locs cells slots Q (F0 m pc L (st.map (vd_cc (vd_ad z B)))) := by
  simp only [vd_tok, beq_iff_eq] at ht
  subst ht
  simp only [vd_alu] at h
  split at h
  · simp only [Option.some.injEq, Prod.mk.injEq] at h
    obtain ⟨rfl, rfl, rfl⟩ := h
    exact lv_iadd hx hb hd (kk L hl)
  · cases h
theorem vd_alu_isub (hx : p.tables.exec = Jvm.exec) (hb : c.code = cc) (hown : s.vm.findClass own = some m.cls)  {L : Array Slot} {pc len pc' : Nat} {cv : Value} {ls st ls' st' : List Value} (hd : decode cc pc = .ok (.isub, len)) (ht : vd_tok .isub pc len = true) (hc : vd_cok own .isub cv args s) (hl : vd_has (vd_ad z B) L nL ls) (h : vd_alu .isub pc len cv ls st = some (pc', ls', st'))
    (kk : ∀ L' : Array Slot, vd_has (vd_ad z B) L' nL ls' → W p l e R s m args below meth c H locs cells slots Q (F0 m pc' L' (st'.map (vd_cc (vd_ad z B))))) : W p l e R s m args below meth c H locs cells slots Q (F0 m pc L (st.map (vd_cc (vd_ad z B)))) := by
  simp only [vd_tok, beq_iff_eq] at ht
  subst ht
  simp only [vd_alu] at h
  split at h
  · simp only [Option.some.injEq, Prod.mk.injEq] at h
    obtain ⟨rfl, rfl, rfl⟩ := h
    exact lv_isub hx hb hd (kk L hl)
  · cases h
theorem vd_alu_imul (hx : p.tables.exec = Jvm.exec) (hb : c.code = cc) (hown : s.vm.findClass own = some m.cls)  {L : Array Slot} {pc len pc' : Nat} {cv : Value} {ls st ls' st' : List Value} (hd : decode cc pc = .ok (.imul, len)) (ht : vd_tok .imul pc len = true) (hc : vd_cok own .imul cv args s) (hl : vd_has (vd_ad z B) L nL ls) (h : vd_alu .imul pc len cv ls st = some (pc', ls', st'))
    (kk : ∀ L' : Array Slot, vd_has (vd_ad z B) L' nL ls' → W p l e R s m args below meth c H locs cells slots Q (F0 m pc' L' (st'.map (vd_cc (vd_ad z B))))) : W p l e R s m args below meth c H locs cells slots Q (F0 m pc L (st.map (vd_cc (vd_ad z B)))) := by
  simp only [vd_tok, beq_iff_eq] at ht
  subst ht
  simp only [vd_alu] at h
  split at h
  · simp only [Option.some.injEq, Prod.mk.injEq] at h
    obtain ⟨rfl, rfl, rfl⟩ := h
    exact lv_imul hx hb hd (kk L hl)
  · cases h
theorem vd_alu_ineg (hx : p.tables.exec = Jvm.exec) (hb : c.code = cc) (hown : s.vm.findClass own = some m.cls)  {L : Array Slot} {pc len pc' : Nat} {cv : Value} {ls st ls' st' : List Value} (hd : decode cc pc = .ok (.ineg, len)) (ht : vd_tok .ineg pc len = true) (hc : vd_cok own .ineg cv args s) (hl : vd_has (vd_ad z B) L nL ls) (h : vd_alu .ineg pc len cv ls st = some (pc', ls', st'))
    (kk : ∀ L' : Array Slot, vd_has (vd_ad z B) L' nL ls' → W p l e R s m args below meth c H locs cells slots Q (F0 m pc' L' (st'.map (vd_cc (vd_ad z B))))) : W p l e R s m args below meth c H locs cells slots Q (F0 m pc L (st.map (vd_cc (vd_ad z B)))) := by
  simp only [vd_tok, beq_iff_eq] at ht
  subst ht
  simp only [vd_alu] at h
  split at h
  · simp only [Option.some.injEq, Prod.mk.injEq] at h
    obtain ⟨rfl, rfl, rfl⟩ := h
    exact lv_ineg hx hb hd (kk L hl)
  · cases h
theorem vd_alu_iand (hx : p.tables.exec = Jvm.exec) (hb : c.code = cc) (hown : s.vm.findClass own = some m.cls)  {L : Array Slot} {pc len pc' : Nat} {cv : Value} {ls st ls' st' : List Value} (hd : decode cc pc = .ok (.iand, len)) (ht : vd_tok .iand pc len = true) (hc : vd_cok own .iand cv args s) (hl : vd_has (vd_ad z B) L nL ls) (h : vd_alu .iand pc len cv ls st = some (pc', ls', st'))
    (kk : ∀ L' : Array Slot, vd_has (vd_ad z B) L' nL ls' → W p l e R s m args below meth c H locs cells slots Q (F0 m pc' L' (st'.map (vd_cc (vd_ad z B))))) : W p l e R s m args below meth c H locs cells slots Q (F0 m pc L (st.map (vd_cc (vd_ad z B)))) := by
  simp only [vd_tok, beq_iff_eq] at ht
  subst ht
  simp only [vd_alu] at h
  split at h
  · simp only [Option.some.injEq, Prod.mk.injEq] at h
    obtain ⟨rfl, rfl, rfl⟩ := h
    exact lv_iand hx hb hd (kk L hl)
  · cases h
theorem vd_alu_ixor (hx : p.tables.exec = Jvm.exec) (hb : c.code = cc) (hown : s.vm.findClass own = some m.cls)  {L : Array Slot} {pc len pc' : Nat} {cv : Value} {ls st ls' st' : List Value} (hd : decode cc pc = .ok (.ixor, len)) (ht : vd_tok .ixor pc len = true) (hc : vd_cok own .ixor cv args s) (hl : vd_has (vd_ad z B) L nL ls) (h : vd_alu .ixor pc len cv ls st = some (pc', ls', st'))
    (kk : ∀ L' : Array Slot, vd_has (vd_ad z B) L' nL ls' → W p l e R s m args below meth c H locs cells slots Q (F0 m pc' L' (st'.map (vd_cc (vd_ad z B))))) : W p l e R s m args below meth c H locs cells slots Q (F0 m pc L (st.map (vd_cc (vd_ad z B)))) := by
  simp only [vd_tok, beq_iff_eq] at ht
  subst ht
  simp only [vd_alu] at h
  split at h
  · simp only [Option.some.injEq, Prod.mk.injEq] at h
    obtain ⟨rfl, rfl, rfl⟩ := h
    exact lv_ixor hx hb hd (kk L hl)
  · cases h
theorem vd_alu_ishl (hx : p.tables.exec = Jvm.exec) (hb : c.code = cc) (hown : s.vm.findClass own = some m.cls)  {L : Array Slot} {pc len pc' : Nat} {cv : Value} {ls st ls' st' : List Value} (hd : decode cc pc = .ok (.ishl, len)) (ht : vd_tok .ishl pc len = true) (hc : vd_cok own .ishl cv args s) (hl : vd_has (vd_ad z B) L nL ls) (h : vd_alu .ishl pc len cv ls st = some (pc', ls', st'))
    (kk : ∀ L' : Array Slot, vd_has (vd_ad z B) L' nL ls' → W p l e R s m args below meth c H locs cells slots Q (F0 m pc' L' (st'.map (vd_cc (vd_ad z B))))) : W p l e R s m args below meth c H locs cells slots Q (F0 m pc L (st.map (vd_cc (vd_ad z B)))) := by
  simp only [vd_tok, beq_iff_eq] at ht
  subst ht
  simp only [vd_alu] at h
  split at h
  · simp only [Option.some.injEq, Prod.mk.injEq] at h
    obtain ⟨rfl, rfl, rfl⟩ := h
    exact lv_ishl hx hb hd (kk L hl)
  · cases h
theorem vd_alu_ishr (hx : p.tables.exec = Jvm.exec) (hb : c.code = cc) (hown : s.vm.findClass own = some m.cls)  {L : Array Slot} {pc len pc' : Nat} {cv : Value} {ls st ls' st' : List Value} (hd : decode cc pc = .ok (.ishr, len)) (ht : vd_tok .ishr pc len = true) (hc : vd_cok own .ishr cv args s) (hl : vd_has (vd_ad z B) L nL ls) (h : vd_alu .ishr pc len cv ls st = some (pc', ls', st'))
    (kk : ∀ L' : Array Slot, vd_has (vd_ad z B) L' nL ls' → W p l e R s m args below meth c H locs cells slots Q (F0 m pc' L' (st'.map (vd_cc (vd_ad z B))))) : W p l e R s m args below meth c H locs cells slots Q (F0 m pc L (st.map (vd_cc (vd_ad z B)))) := by
  simp only [vd_tok, beq_iff_eq] at ht
  subst ht
  simp only [vd_alu] at h
  split at h
  · simp only [Option.some.injEq, Prod.mk.injEq] at h
    obtain ⟨rfl, rfl, rfl⟩ := h
    exact lv_ishr hx hb hd (kk L hl)
  · cases h
theorem vd_alu_ladd (hx : p.tables.exec = Jvm.exec) (hb : c.code = cc) (hown : s.vm.findClass own = some m.cls)  {L : Array Slot} {pc len pc' : Nat} {cv : Value} {ls st ls' st' : List Value} (hd : decode cc pc = .ok (.ladd, len)) (ht : vd_tok .ladd pc len = true) (hc : vd_cok own .ladd cv args s) (hl : vd_has (vd_ad z B) L nL ls) (h : vd_alu .ladd pc len cv ls st = some (pc', ls', st'))
    (kk : ∀ L' : Array Slot, vd_has (vd_ad z B) L' nL ls' → W p l e R s m args below meth c H locs cells slots Q (F0 m pc' L' (st'.map (vd_cc (vd_ad z B))))) : W p l e R s m args below meth c H locs cells slots Q (F0 m pc L (st.map (vd_cc (vd_ad z B)))) := by
  simp only [vd_tok, beq_iff_eq] at ht
  subst ht
  simp only [vd_alu] at h
  split at h
  · simp only [Option.some.injEq, Prod.mk.injEq] at h
    obtain ⟨rfl, rfl, rfl⟩ := h
    exact lv_ladd hx hb hd (kk L hl)
  · cases h
theorem vd_alu_lmul (hx : p.tables.exec = Jvm.exec) (hb : c.code = cc) (hown : s.vm.findClass own = some m.cls)  {L : Array Slot} {pc len pc' : Nat} {cv : Value} {ls st ls' st' : List Value} (hd : decode cc pc = .ok (.lmul, len)) (ht : vd_tok .lmul pc len = true) (hc : vd_cok own .lmul cv args s) (hl : vd_has (vd_ad z B) L nL ls) (h : vd_alu .lmul pc len cv ls st = some (pc', ls', st'))
    (kk : ∀ L' : Array Slot, vd_has (vd_ad z B) L' nL ls' → W p l e R s m args below meth c H locs cells slots Q (F0 m pc' L' (st'.map (vd_cc (vd_ad z B))))) : W p l e R s m args below meth c H locs cells slots Q (F0 m pc L (st.map (vd_cc (vd_ad z B)))) := by
  simp only [vd_tok, beq_iff_eq] at ht
  subst ht
  simp only [vd_alu] at h
  split at h
  · simp only [Option.some.injEq, Prod.mk.injEq] at h
    obtain ⟨rfl, rfl, rfl⟩ := h
    exact lv_lmul hx hb hd (kk L hl)
  · cases h
theorem vd_alu_lor (hx : p.tables.exec = Jvm.exec) (hb : c.code = cc) (hown : s.vm.findClass own = some m.cls)  {L : Array Slot} {pc len pc' : Nat} {cv : Value} {ls st ls' st' : List Value} (hd : decode cc pc = .ok (.lor, len)) (ht : vd_tok .lor pc len = true) (hc : vd_cok own .lor cv args s) (hl : vd_has (vd_ad z B) L nL ls) (h : vd_alu .lor pc len cv ls st = some (pc', ls', st'))
    (kk : ∀ L' : Array Slot, vd_has (vd_ad z B) L' nL ls' → W p l e R s m args below meth c H locs cells slots Q (F0 m pc' L' (st'.map (vd_cc (vd_ad z B))))) : W p l e R s m args below meth c H locs cells slots Q (F0 m pc L (st.map (vd_cc (vd_ad z B)))) := by
  simp only [vd_tok, beq_iff_eq] at ht
  subst ht
  simp only [vd_alu] at h
  split at h
  · simp only [Option.some.injEq, Prod.mk.injEq] at h
    obtain ⟨rfl, rfl, rfl⟩ := h
    exact lv_lor hx hb hd (kk L hl)
  · cases h
theorem vd_alu_iushr (hx : p.tables.exec = Jvm.exec) (hb : c.code = cc) (hown : s.vm.findClass own = some m.cls)  {L : Array Slot} {pc len pc' : Nat} {cv : Value} {ls st ls' st' : List Value} (hd : decode cc pc = .ok (.iushr, len)) (ht : vd_tok .iushr pc len = true) (hc : vd_cok own .iushr cv args s) (hl : vd_has (vd_ad z B) L nL ls) (h : vd_alu .iushr pc len cv ls st = some (pc', ls', st'))
    (kk : ∀ L' : Array Slot, vd_has (vd_ad z B) L' nL ls' → W p l e R s m args below meth c H locs cells slots Q (F0 m pc' L' (st'.map (vd_cc (vd_ad z B))))) : W p l e R s m args below meth c H locs cells slots Q (F0 m pc L (st.map (vd_cc (vd_ad z B)))) := by
  simp only [vd_tok, beq_iff_eq] at ht
  subst ht
  simp only [vd_alu] at h
  split at h
  · simp only [Option.some.injEq, Prod.mk.injEq] at h
    obtain ⟨rfl, rfl, rfl⟩ := h
    exact lv_iushr hx hb hd rfl (kk L hl)
  · cases h
theorem vd_alu_lshl (hx : p.tables.exec = Jvm.exec) (hb : c.code = cc) (hown : s.vm.findClass own = some m.cls)  {L : Array Slot} {pc len pc' : Nat} {cv : Value} {ls st ls' st' : List Value} (hd : decode cc pc = .ok (.lshl, len)) (ht : vd_tok .lshl pc len = true) (hc : vd_cok own .lshl cv args s) (hl : vd_has (vd_ad z B) L nL ls) (h : vd_alu .lshl pc len cv ls st = some (pc', ls', st'))
    (kk : ∀ L' : Array Slot, vd_has (vd_ad z B) L' nL ls' → W p l e R s m args below meth c H locs cells slots Q (F0 m pc' L' (st'.map (vd_cc (vd_ad z B))))) : W p l e R s m args below meth c H locs cells slots Q (F0 m pc L (st.map (vd_cc (vd_ad z B)))) := by
  simp only [vd_tok, beq_iff_eq] at ht
  subst ht
  simp only [vd_alu] at h
  split at h
  · simp only [Option.some.injEq, Prod.mk.injEq] at h
    obtain ⟨rfl, rfl, rfl⟩ := h
    exact lv_lshl hx hb hd rfl (kk L hl)
  · cases h
theorem vd_alu_i2l (hx : p.tables.exec = Jvm.exec) (hb : c.code = cc) (hown : s.vm.findClass own = some m.cls)  {L : Array Slot} {pc len pc' : Nat} {cv : Value} {ls st ls' st' : List Value} (hd : decode cc pc = .ok (.i2l, len)) (ht : vd_tok .i2l pc len = true) (hc : vd_cok own .i2l cv args s) (hl : vd_has (vd_ad z B) L nL ls) (h : vd_alu .i2l pc len cv ls st = some (pc', ls', st'))
    (kk : ∀ L' : Array Slot, vd_has (vd_ad z B) L' nL ls' → W p l e R s m args below meth c H locs cells slots Q (F0 m pc' L' (st'.map (vd_cc (vd_ad z B))))) : W p l e R s m args below meth c H locs cells slots Q (F0 m pc L (st.map (vd_cc (vd_ad z B)))) := by
  simp only [vd_tok, beq_iff_eq] at ht
  subst ht
  simp only [vd_alu] at h
  split at h
  · simp only [Option.some.injEq, Prod.mk.injEq] at h
    obtain ⟨rfl, rfl, rfl⟩ := h
    exact lv_i2l hx hb hd rfl (kk L hl)
  · cases h
theorem vd_alu_l2i (hx : p.tables.exec = Jvm.exec) (hb : c.code = cc) (hown : s.vm.findClass own = some m.cls)  {L : Array Slot} {pc len pc' : Nat} {cv : Value} {ls st ls' st' : List Value} (hd : decode cc pc = .ok (.l2i, len)) (ht : vd_tok .l2i pc len = true) (hc : vd_cok own .l2i cv args s) (hl : vd_has (vd_ad z B) L nL ls) (h : vd_alu .l2i pc len cv ls st = some (pc', ls', st'))
    (kk : ∀ L' : Array Slot, vd_has (vd_ad z B) L' nL ls' → W p l e R s m args below meth c H locs cells slots Q (F0 m pc' L' (st'.map (vd_cc (vd_ad z B))))) : W p l e R s m args below meth c H locs cells slots Q (F0 m pc L (st.map (vd_cc (vd_ad z B)))) := by
  simp only [vd_tok, beq_iff_eq] at ht
  subst ht
  simp only [vd_alu] at h
  split at h
  · simp only [Option.some.injEq, Prod.mk.injEq] at h
    obtain ⟨rfl, rfl, rfl⟩ := h
    exact lv_l2i hx hb hd rfl (kk L hl)
  · cases h
theorem vd_alu_i2b (hx : p.tables.exec = Jvm.exec) (hb : c.code = cc) (hown : s.vm.findClass own = some m.cls)  {L : Array Slot} {pc len pc' : Nat} {cv : Value} {ls st ls' st' : List Value} (hd : decode cc pc = .ok (.i2b, len)) (ht : vd_tok .i2b pc len = true) (hc : vd_cok own .i2b cv args s) (hl : vd_has (vd_ad z B) L nL ls) (h : vd_alu .i2b pc len cv ls st = some (pc', ls', st'))
    (kk : ∀ L' : Array Slot, vd_has (vd_ad z B) L' nL ls' → W p l e R s m args below meth c H locs cells slots Q (F0 m pc' L' (st'.map (vd_cc (vd_ad z B))))) : W p l e R s m args below meth c H locs cells slots Q (F0 m pc L (st.map (vd_cc (vd_ad z B)))) := by
  simp only [vd_tok, beq_iff_eq] at ht
  subst ht
  simp only [vd_alu] at h
  split at h
  · simp only [Option.some.injEq, Prod.mk.injEq] at h
    obtain ⟨rfl, rfl, rfl⟩ := h
    exact lv_i2b hx hb hd rfl (kk L hl)
  · cases h
theorem vd_alu_lcmp (hx : p.tables.exec = Jvm.exec) (hb : c.code = cc) (hown : s.vm.findClass own = some m.cls)  {L : Array Slot} {pc len pc' : Nat} {cv : Value} {ls st ls' st' : List Value} (hd : decode cc pc = .ok (.lcmp, len)) (ht : vd_tok .lcmp pc len = true) (hc : vd_cok own .lcmp cv args s) (hl : vd_has (vd_ad z B) L nL ls) (h : vd_alu .lcmp pc len cv ls st = some (pc', ls', st'))
    (kk : ∀ L' : Array Slot, vd_has (vd_ad z B) L' nL ls' → W p l e R s m args below meth c H locs cells slots Q (F0 m pc' L' (st'.map (vd_cc (vd_ad z B))))) : W p l e R s m args below meth c H locs cells slots Q (F0 m pc L (st.map (vd_cc (vd_ad z B)))) := by
  simp only [vd_tok, beq_iff_eq] at ht
  subst ht
  simp only [vd_alu] at h
  split at h
  · simp only [Option.some.injEq, Prod.mk.injEq] at h
    obtain ⟨rfl, rfl, rfl⟩ := h
    exact W.lcmp hx hb hd (kk L hl)
  · cases h
theorem vd_alu_idiv (hx : p.tables.exec = Jvm.exec) (hb : c.code = cc) (hown : s.vm.findClass own = some m.cls)  {L : Array Slot} {pc len pc' : Nat} {cv : Value} {ls st ls' st' : List Value} (hd : decode cc pc = .ok (.idiv, len)) (ht : vd_tok .idiv pc len = true) (hc : vd_cok own .idiv cv args s) (hl : vd_has (vd_ad z B) L nL ls) (h : vd_alu .idiv pc len cv ls st = some (pc', ls', st'))
    (kk : ∀ L' : Array Slot, vd_has (vd_ad z B) L' nL ls' → W p l e R s m args below meth c H locs cells slots Q (F0 m pc' L' (st'.map (vd_cc (vd_ad z B))))) : W p l e R s m args below meth c H locs cells slots Q (F0 m pc L (st.map (vd_cc (vd_ad z B)))) := by
  simp only [vd_tok, beq_iff_eq] at ht
  subst ht
  simp only [vd_alu] at h
  split at h
  · rename_i y x st
    split at h
    · cases h
    · rename_i hne
      simp only [Option.some.injEq, Prod.mk.injEq] at h
      obtain ⟨rfl, rfl, rfl⟩ := h
      exact lv_idiv hx hb hd hne (kk L hl)
  · cases h
theorem vd_alu_irem (hx : p.tables.exec = Jvm.exec) (hb : c.code = cc) (hown : s.vm.findClass own = some m.cls)  {L : Array Slot} {pc len pc' : Nat} {cv : Value} {ls st ls' st' : List Value} (hd : decode cc pc = .ok (.irem, len)) (ht : vd_tok .irem pc len = true) (hc : vd_cok own .irem cv args s) (hl : vd_has (vd_ad z B) L nL ls) (h : vd_alu .irem pc len cv ls st = some (pc', ls', st'))
    (kk : ∀ L' : Array Slot, vd_has (vd_ad z B) L' nL ls' → W p l e R s m args below meth c H locs cells slots Q (F0 m pc' L' (st'.map (vd_cc (vd_ad z B))))) : W p l e R s m args below meth c H locs cells slots Q (F0 m pc L (st.map (vd_cc (vd_ad z B)))) := by
  simp only [vd_tok, beq_iff_eq] at ht
  subst ht
  simp only [vd_alu] at h
  split at h
  · rename_i y x st
    split at h
    · cases h
    · rename_i hne
      simp only [Option.some.injEq, Prod.mk.injEq] at h
      obtain ⟨rfl, rfl, rfl⟩ := h
      exact lv_irem hx hb hd hne (kk L hl)
  · cases h
theorem vd_alu_ldiv (hx : p.tables.exec = Jvm.exec) (hb : c.code = cc) (hown : s.vm.findClass own = some m.cls)  {L : Array Slot} {pc len pc' : Nat} {cv : Value} {ls st ls' st' : List Value} (hd : decode cc pc = .ok (.ldiv, len)) (ht : vd_tok .ldiv pc len = true) (hc : vd_cok own .ldiv cv args s) (hl : vd_has (vd_ad z B) L nL ls) (h : vd_alu .ldiv pc len cv ls st = some (pc', ls', st'))
    (kk : ∀ L' : Array Slot, vd_has (vd_ad z B) L' nL ls' → W p l e R s m args below meth c H locs cells slots Q (F0 m pc' L' (st'.map (vd_cc (vd_ad z B))))) : W p l e R s m args below meth c H locs cells slots Q (F0 m pc L (st.map (vd_cc (vd_ad z B)))) := by
  simp only [vd_tok, beq_iff_eq] at ht
  subst ht
  simp only [vd_alu] at h
  split at h
  · rename_i y x st
    split at h
    · cases h
    · rename_i hne
      simp only [Option.some.injEq, Prod.mk.injEq] at h
      obtain ⟨rfl, rfl, rfl⟩ := h
      exact lv_ldiv hx hb hd hne (kk L hl)
  · cases h
theorem vd_alu_dup (hx : p.tables.exec = Jvm.exec) (hb : c.code = cc) (hown : s.vm.findClass own = some m.cls)  {L : Array Slot} {pc len pc' : Nat} {cv : Value} {ls st ls' st' : List Value} (hd : decode cc pc = .ok (.dup, len)) (ht : vd_tok .dup pc len = true) (hc : vd_cok own .dup cv args s) (hl : vd_has (vd_ad z B) L nL ls) (h : vd_alu .dup pc len cv ls st = some (pc', ls', st'))
    (kk : ∀ L' : Array Slot, vd_has (vd_ad z B) L' nL ls' → W p l e R s m args below meth c H locs cells slots Q (F0 m pc' L' (st'.map (vd_cc (vd_ad z B))))) : W p l e R s m args below meth c H locs cells slots Q (F0 m pc L (st.map (vd_cc (vd_ad z B)))) := by
  simp only [vd_tok, beq_iff_eq] at ht
  subst ht
  simp only [vd_alu] at h
  split at h
  · rename_i v st
    split at h
    · cases h
    · rename_i hn
      simp only [Option.some.injEq, Prod.mk.injEq] at h
      obtain ⟨rfl, rfl, rfl⟩ := h
      have c1 : (vd_cc (vd_ad z B) v).category = 1 := by rw [vd_cc_cat]; exact vd_cat1 (by simpa using hn)
      exact lv_dup hx hb hd c1 (kk L hl)
  · cases h
theorem vd_alu_pop (hx : p.tables.exec = Jvm.exec) (hb : c.code = cc) (hown : s.vm.findClass own = some m.cls)  {L : Array Slot} {pc len pc' : Nat} {cv : Value} {ls st ls' st' : List Value} (hd : decode cc pc = .ok (.pop, len)) (ht : vd_tok .pop pc len = true) (hc : vd_cok own .pop cv args s) (hl : vd_has (vd_ad z B) L nL ls) (h : vd_alu .pop pc len cv ls st = some (pc', ls', st'))
    (kk : ∀ L' : Array Slot, vd_has (vd_ad z B) L' nL ls' → W p l e R s m args below meth c H locs cells slots Q (F0 m pc' L' (st'.map (vd_cc (vd_ad z B))))) : W p l e R s m args below meth c H locs cells slots Q (F0 m pc L (st.map (vd_cc (vd_ad z B)))) := by
  simp only [vd_tok, beq_iff_eq] at ht
  subst ht
  simp only [vd_alu] at h
  split at h
  · rename_i v st
    split at h
    · cases h
    · rename_i hn
      simp only [Option.some.injEq, Prod.mk.injEq] at h
      obtain ⟨rfl, rfl, rfl⟩ := h
      have c1 : (vd_cc (vd_ad z B) v).category = 1 := by rw [vd_cc_cat]; exact vd_cat1 (by simpa using hn)
      exact lv_pop hx hb hd c1 (kk L hl)
  · cases h
theorem vd_alu_dup_x1 (hx : p.tables.exec = Jvm.exec) (hb : c.code = cc) (hown : s.vm.findClass own = some m.cls)  {L : Array Slot} {pc len pc' : Nat} {cv : Value} {ls st ls' st' : List Value} (hd : decode cc pc = .ok (.dup_x1, len)) (ht : vd_tok .dup_x1 pc len = true) (hc : vd_cok own .dup_x1 cv args s) (hl : vd_has (vd_ad z B) L nL ls) (h : vd_alu .dup_x1 pc len cv ls st = some (pc', ls', st'))
    (kk : ∀ L' : Array Slot, vd_has (vd_ad z B) L' nL ls' → W p l e R s m args below meth c H locs cells slots Q (F0 m pc' L' (st'.map (vd_cc (vd_ad z B))))) : W p l e R s m args below meth c H locs cells slots Q (F0 m pc L (st.map (vd_cc (vd_ad z B)))) := by
  simp only [vd_tok, beq_iff_eq] at ht
  subst ht
  simp only [vd_alu] at h
  split at h
  · rename_i v w st
    split at h
    · cases h
    · rename_i hn
      simp only [Option.some.injEq, Prod.mk.injEq] at h
      obtain ⟨rfl, rfl, rfl⟩ := h
      have hn2 : vd_long v = false ∧ vd_long w = false := by simpa using hn
      have c1 : (vd_cc (vd_ad z B) v).category = 1 := by rw [vd_cc_cat]; exact vd_cat1 hn2.1
      have c2 : (vd_cc (vd_ad z B) w).category = 1 := by rw [vd_cc_cat]; exact vd_cat1 hn2.2
      exact lv_dup_x1 hx hb hd c1 c2 (kk L hl)
  · cases h
theorem vd_alu_dup2 (hx : p.tables.exec = Jvm.exec) (hb : c.code = cc) (hown : s.vm.findClass own = some m.cls)  {L : Array Slot} {pc len pc' : Nat} {cv : Value} {ls st ls' st' : List Value} (hd : decode cc pc = .ok (.dup2, len)) (ht : vd_tok .dup2 pc len = true) (hc : vd_cok own .dup2 cv args s) (hl : vd_has (vd_ad z B) L nL ls) (h : vd_alu .dup2 pc len cv ls st = some (pc', ls', st'))
    (kk : ∀ L' : Array Slot, vd_has (vd_ad z B) L' nL ls' → W p l e R s m args below meth c H locs cells slots Q (F0 m pc' L' (st'.map (vd_cc (vd_ad z B))))) : W p l e R s m args below meth c H locs cells slots Q (F0 m pc L (st.map (vd_cc (vd_ad z B)))) := by
  simp only [vd_tok, beq_iff_eq] at ht
  subst ht
  simp only [vd_alu] at h
  split at h
  · rename_i v w st
    split at h
    · cases h
    · rename_i hn
      simp only [Option.some.injEq, Prod.mk.injEq] at h
      obtain ⟨rfl, rfl, rfl⟩ := h
      have hn2 : vd_long v = false ∧ vd_long w = false := by simpa using hn
      have c1 : (vd_cc (vd_ad z B) v).category = 1 := by rw [vd_cc_cat]; exact vd_cat1 hn2.1
      have c2 : (vd_cc (vd_ad z B) w).category = 1 := by rw [vd_cc_cat]; exact vd_cat1 hn2.2
      exact lv_dup2_11 hx hb hd c1 c2 (kk L hl)
  · cases h
theorem vd_alu_goto (hx : p.tables.exec = Jvm.exec) (hb : c.code = cc) (hown : s.vm.findClass own = some m.cls) {off : Int} {L : Array Slot} {pc len pc' : Nat} {cv : Value} {ls st ls' st' : List Value} (hd : decode cc pc = .ok (.goto off, len)) (ht : vd_tok (.goto off) pc len = true) (hc : vd_cok own (.goto off) cv args s) (hl : vd_has (vd_ad z B) L nL ls) (h : vd_alu (.goto off) pc len cv ls st = some (pc', ls', st'))
    (kk : ∀ L' : Array Slot, vd_has (vd_ad z B) L' nL ls' → W p l e R s m args below meth c H locs cells slots Q (F0 m pc' L' (st'.map (vd_cc (vd_ad z B))))) : W p l e R s m args below meth c H locs cells slots Q (F0 m pc L (st.map (vd_cc (vd_ad z B)))) := by
  simp only [vd_tok, Bool.and_eq_true, beq_iff_eq, decide_eq_true_eq] at ht
  obtain ⟨rfl, ht⟩ := ht
  simp only [vd_alu] at h
  simp only [Option.some.injEq, Prod.mk.injEq] at h
  obtain ⟨rfl, rfl, rfl⟩ := h
  exact lv_goto hx hb hd (vd_tgt ht) (kk L hl)
theorem vd_alu_ifCond (hx : p.tables.exec = Jvm.exec) (hb : c.code = cc) (hown : s.vm.findClass own = some m.cls) {cd : Jvm.ClassFile.Cond} {off : Int} {L : Array Slot} {pc len pc' : Nat} {cv : Value} {ls st ls' st' : List Value} (hd : decode cc pc = .ok (.ifCond cd off, len)) (ht : vd_tok (.ifCond cd off) pc len = true) (hc : vd_cok own (.ifCond cd off) cv args s) (hl : vd_has (vd_ad z B) L nL ls) (h : vd_alu (.ifCond cd off) pc len cv ls st = some (pc', ls', st'))
    (kk : ∀ L' : Array Slot, vd_has (vd_ad z B) L' nL ls' → W p l e R s m args below meth c H locs cells slots Q (F0 m pc' L' (st'.map (vd_cc (vd_ad z B))))) : W p l e R s m args below meth c H locs cells slots Q (F0 m pc L (st.map (vd_cc (vd_ad z B)))) := by
  simp only [vd_tok, Bool.and_eq_true, beq_iff_eq, decide_eq_true_eq] at ht
  obtain ⟨rfl, ht⟩ := ht
  simp only [vd_alu] at h
  split at h
  · rename_i x st
    cases cd with
    | eq =>
      simp only [Option.some.injEq, Prod.mk.injEq] at h
      obtain ⟨rfl, rfl, rfl⟩ := h
      refine lv_if_eq hx hb hd (vd_tgt ht) (fun q => ?_) (fun q => ?_)
      · have k1 := kk L hl
        rw [if_pos q] at k1
        exact k1
      · have k1 := kk L hl
        rw [if_neg q] at k1
        exact k1
    | ne =>
      simp only [Option.some.injEq, Prod.mk.injEq] at h
      obtain ⟨rfl, rfl, rfl⟩ := h
      refine lv_if_ne hx hb hd (vd_tgt ht) (fun q => ?_) (fun q => ?_)
      · have k1 := kk L hl
        rw [if_pos q] at k1
        exact k1
      · have k1 := kk L hl
        rw [if_neg (fun w => w q)] at k1
        exact k1
    | lt =>
      simp only [Option.some.injEq, Prod.mk.injEq] at h
      obtain ⟨rfl, rfl, rfl⟩ := h
      refine lv_if_lt hx hb hd (vd_tgt ht) (fun q => ?_) (fun q => ?_)
      · have k1 := kk L hl
        rw [if_pos q] at k1
        exact k1
      · have k1 := kk L hl
        rw [if_neg q] at k1
        exact k1
    | ge =>
      simp only [Option.some.injEq, Prod.mk.injEq] at h
      obtain ⟨rfl, rfl, rfl⟩ := h
      refine lv_if_ge hx hb hd (vd_tgt ht) (fun q => ?_) (fun q => ?_)
      · have k1 := kk L hl
        rw [if_pos q] at k1
        exact k1
      · have k1 := kk L hl
        rw [if_neg q] at k1
        exact k1
    | gt =>
      simp only [Option.some.injEq, Prod.mk.injEq] at h
      obtain ⟨rfl, rfl, rfl⟩ := h
      refine lv_if_gt hx hb hd (vd_tgt ht) (fun q => ?_) (fun q => ?_)
      · have k1 := kk L hl
        rw [if_pos q] at k1
        exact k1
      · have k1 := kk L hl
        rw [if_neg q] at k1
        exact k1
    | le =>
      simp only [Option.some.injEq, Prod.mk.injEq] at h
      obtain ⟨rfl, rfl, rfl⟩ := h
      refine lv_if_le hx hb hd (vd_tgt ht) (fun q => ?_) (fun q => ?_)
      · have k1 := kk L hl
        rw [if_pos q] at k1
        exact k1
      · have k1 := kk L hl
        rw [if_neg q] at k1
        exact k1
  · cases h
theorem vd_alu_if_icmp (hx : p.tables.exec = Jvm.exec) (hb : c.code = cc) (hown : s.vm.findClass own = some m.cls) {cd : Jvm.ClassFile.Cond} {off : Int} {L : Array Slot} {pc len pc' : Nat} {cv : Value} {ls st ls' st' : List Value} (hd : decode cc pc = .ok (.if_icmp cd off, len)) (ht : vd_tok (.if_icmp cd off) pc len = true) (hc : vd_cok own (.if_icmp cd off) cv args s) (hl : vd_has (vd_ad z B) L nL ls) (h : vd_alu (.if_icmp cd off) pc len cv ls st = some (pc', ls', st'))
    (kk : ∀ L' : Array Slot, vd_has (vd_ad z B) L' nL ls' → W p l e R s m args below meth c H locs cells slots Q (F0 m pc' L' (st'.map (vd_cc (vd_ad z B))))) : W p l e R s m args below meth c H locs cells slots Q (F0 m pc L (st.map (vd_cc (vd_ad z B)))) := by
  simp only [vd_tok, Bool.and_eq_true, beq_iff_eq, decide_eq_true_eq] at ht
  obtain ⟨rfl, ht⟩ := ht
  simp only [vd_alu] at h
  split at h
  · rename_i y x st
    cases cd with
    | eq =>
      simp only [Option.some.injEq, Prod.mk.injEq] at h
      obtain ⟨rfl, rfl, rfl⟩ := h
      refine lv_icmp_eq hx hb hd (vd_tgt ht) (fun q => ?_) (fun q => ?_)
      · have k1 := kk L hl
        rw [if_pos q] at k1
        exact k1
      · have k1 := kk L hl
        rw [if_neg q] at k1
        exact k1
    | ne =>
      simp only [Option.some.injEq, Prod.mk.injEq] at h
      obtain ⟨rfl, rfl, rfl⟩ := h
      refine lv_icmp_ne hx hb hd (vd_tgt ht) (fun q => ?_) (fun q => ?_)
      · have k1 := kk L hl
        rw [if_pos q] at k1
        exact k1
      · have k1 := kk L hl
        rw [if_neg (fun w => w q)] at k1
        exact k1
    | lt =>
      simp only [Option.some.injEq, Prod.mk.injEq] at h
      obtain ⟨rfl, rfl, rfl⟩ := h
      refine lv_icmp_lt hx hb hd (vd_tgt ht) (fun q => ?_) (fun q => ?_)
      · have k1 := kk L hl
        rw [if_pos q] at k1
        exact k1
      · have k1 := kk L hl
        rw [if_neg q] at k1
        exact k1
    | ge =>
      simp only [Option.some.injEq, Prod.mk.injEq] at h
      obtain ⟨rfl, rfl, rfl⟩ := h
      refine lv_icmp_ge hx hb hd (vd_tgt ht) (fun q => ?_) (fun q => ?_)
      · have k1 := kk L hl
        rw [if_pos q] at k1
        exact k1
      · have k1 := kk L hl
        rw [if_neg q] at k1
        exact k1
    | gt =>
      simp only [Option.some.injEq, Prod.mk.injEq] at h
      obtain ⟨rfl, rfl, rfl⟩ := h
      refine lv_icmp_gt hx hb hd (vd_tgt ht) (fun q => ?_) (fun q => ?_)
      · have k1 := kk L hl
        rw [if_pos q] at k1
        exact k1
      · have k1 := kk L hl
        rw [if_neg q] at k1
        exact k1
    | le =>
      simp only [Option.some.injEq, Prod.mk.injEq] at h
      obtain ⟨rfl, rfl, rfl⟩ := h
      refine lv_icmp_le hx hb hd (vd_tgt ht) (fun q => ?_) (fun q => ?_)
      · have k1 := kk L hl
        rw [if_pos q] at k1
        exact k1
      · have k1 := kk L hl
        rw [if_neg q] at k1
        exact k1
  · cases h
theorem vd_alu_ifnull (hx : p.tables.exec = Jvm.exec) (hb : c.code = cc) (hown : s.vm.findClass own = some m.cls) {off : Int} {L : Array Slot} {pc len pc' : Nat} {cv : Value} {ls st ls' st' : List Value} (hd : decode cc pc = .ok (.ifnull off, len)) (ht : vd_tok (.ifnull off) pc len = true) (hc : vd_cok own (.ifnull off) cv args s) (hl : vd_has (vd_ad z B) L nL ls) (h : vd_alu (.ifnull off) pc len cv ls st = some (pc', ls', st'))
    (kk : ∀ L' : Array Slot, vd_has (vd_ad z B) L' nL ls' → W p l e R s m args below meth c H locs cells slots Q (F0 m pc' L' (st'.map (vd_cc (vd_ad z B))))) : W p l e R s m args below meth c H locs cells slots Q (F0 m pc L (st.map (vd_cc (vd_ad z B)))) := by
  simp only [vd_tok, Bool.and_eq_true, beq_iff_eq, decide_eq_true_eq] at ht
  obtain ⟨rfl, ht⟩ := ht
  simp only [vd_alu] at h
  split at h
  · simp only [Option.some.injEq, Prod.mk.injEq] at h
    obtain ⟨rfl, rfl, rfl⟩ := h
    exact lv_ifnullN hx hb hd (vd_tgt ht) (kk L hl)
  · simp only [Option.some.injEq, Prod.mk.injEq] at h
    obtain ⟨rfl, rfl, rfl⟩ := h
    exact lv_ifnull hx hb hd (kk L hl)
  · cases h
theorem vd_alu_ifnonnull (hx : p.tables.exec = Jvm.exec) (hb : c.code = cc) (hown : s.vm.findClass own = some m.cls) {off : Int} {L : Array Slot} {pc len pc' : Nat} {cv : Value} {ls st ls' st' : List Value} (hd : decode cc pc = .ok (.ifnonnull off, len)) (ht : vd_tok (.ifnonnull off) pc len = true) (hc : vd_cok own (.ifnonnull off) cv args s) (hl : vd_has (vd_ad z B) L nL ls) (h : vd_alu (.ifnonnull off) pc len cv ls st = some (pc', ls', st'))
    (kk : ∀ L' : Array Slot, vd_has (vd_ad z B) L' nL ls' → W p l e R s m args below meth c H locs cells slots Q (F0 m pc' L' (st'.map (vd_cc (vd_ad z B))))) : W p l e R s m args below meth c H locs cells slots Q (F0 m pc L (st.map (vd_cc (vd_ad z B)))) := by
  simp only [vd_tok, Bool.and_eq_true, beq_iff_eq, decide_eq_true_eq] at ht
  obtain ⟨rfl, ht⟩ := ht
  simp only [vd_alu] at h
  split at h
  · simp only [Option.some.injEq, Prod.mk.injEq] at h
    obtain ⟨rfl, rfl, rfl⟩ := h
    exact lv_ifnonnull hx hb hd (vd_tgt ht) (kk L hl)
  · simp only [Option.some.injEq, Prod.mk.injEq] at h
    obtain ⟨rfl, rfl, rfl⟩ := h
    exact lv_ifnonnullN hx hb hd (kk L hl)
  · cases h
theorem vd_alu_if_acmp (hx : p.tables.exec = Jvm.exec) (hb : c.code = cc) (hown : s.vm.findClass own = some m.cls) {cd : Jvm.ClassFile.ACond} {off : Int} {L : Array Slot} {pc len pc' : Nat} {cv : Value} {ls st ls' st' : List Value} (hd : decode cc pc = .ok (.if_acmp cd off, len)) (ht : vd_tok (.if_acmp cd off) pc len = true) (hc : vd_cok own (.if_acmp cd off) cv args s) (hl : vd_has (vd_ad z B) L nL ls) (h : vd_alu (.if_acmp cd off) pc len cv ls st = some (pc', ls', st'))
    (kk : ∀ L' : Array Slot, vd_has (vd_ad z B) L' nL ls' → W p l e R s m args below meth c H locs cells slots Q (F0 m pc' L' (st'.map (vd_cc (vd_ad z B))))) : W p l e R s m args below meth c H locs cells slots Q (F0 m pc L (st.map (vd_cc (vd_ad z B)))) := by
  simp only [vd_tok, Bool.and_eq_true, beq_iff_eq, decide_eq_true_eq] at ht
  obtain ⟨rfl, ht⟩ := ht
  simp only [vd_alu] at h
  split at h
  · rename_i y x st
    split at h
    · rename_i rx ry ex ey
      obtain ⟨e1, g1⟩ := vd_or_spec (ad := vd_ad z B) ex
      obtain ⟨e2, g2⟩ := vd_or_spec (ad := vd_ad z B) ey
      have hiff : rx.map (vd_ad z B) = ry.map (vd_ad z B) ↔ rx = ry := by
        cases rx with
        | none => cases ry <;> simp
        | some a => cases ry with
          | none => simp
          | some b => simp only [Option.map_some, Option.some.injEq]; exact vd_ad_inj (g1 a rfl) (g2 b rfl)
      simp only [List.map_cons, e1, e2]
      cases cd with
      | eq =>
        simp only [Option.some.injEq, Prod.mk.injEq] at h
        obtain ⟨rfl, rfl, rfl⟩ := h
        refine lv_acmp_eq hx hb hd (vd_tgt ht) (fun q => ?_) (fun q => ?_)
        · have k1 := kk L hl
          rw [if_pos (hiff.mp q)] at k1
          exact k1
        · have k1 := kk L hl
          rw [if_neg (fun w => q (hiff.mpr w))] at k1
          exact k1
      | ne =>
        simp only [Option.some.injEq, Prod.mk.injEq] at h
        obtain ⟨rfl, rfl, rfl⟩ := h
        refine lv_acmp_ne hx hb hd (vd_tgt ht) (fun q => ?_) (fun q => ?_)
        · have k1 := kk L hl
          rw [if_neg (fun w => q (hiff.mpr w))] at k1
          exact k1
        · have k1 := kk L hl
          rw [if_pos (hiff.mp q)] at k1
          exact k1
    · cases h
  · cases h
theorem vd_alu_tableswitch (hx : p.tables.exec = Jvm.exec) (hb : c.code = cc) (hown : s.vm.findClass own = some m.cls) {d lo hi : Int} {offs : Array Int} {L : Array Slot} {pc len pc' : Nat} {cv : Value} {ls st ls' st' : List Value} (hd : decode cc pc = .ok (.tableswitch d lo hi offs, len)) (ht : vd_tok (.tableswitch d lo hi offs) pc len = true) (hc : vd_cok own (.tableswitch d lo hi offs) cv args s) (hl : vd_has (vd_ad z B) L nL ls) (h : vd_alu (.tableswitch d lo hi offs) pc len cv ls st = some (pc', ls', st'))
    (kk : ∀ L' : Array Slot, vd_has (vd_ad z B) L' nL ls' → W p l e R s m args below meth c H locs cells slots Q (F0 m pc' L' (st'.map (vd_cc (vd_ad z B))))) : W p l e R s m args below meth c H locs cells slots Q (F0 m pc L (st.map (vd_cc (vd_ad z B)))) := by
  simp only [vd_tok, Bool.and_eq_true, decide_eq_true_eq, List.all_eq_true] at ht
  obtain ⟨⟨t1, t2⟩, t3⟩ := ht
  simp only [vd_alu] at h
  split at h
  · rename_i x st
    simp only [Option.some.injEq, Prod.mk.injEq] at h
    obtain ⟨rfl, rfl, rfl⟩ := h
    have k1 := kk L hl
    unfold vd_tsw at k1
    by_cases q : x.toInt < lo ∨ hi < x.toInt
    · rw [if_pos q] at k1
      exact lv_tableOut hx hb hd q (vd_tgt t1) k1
    · rw [if_neg q] at k1
      have q1 : ¬ x.toInt < lo := fun w => q (Or.inl w)
      have q2 : ¬ hi < x.toInt := fun w => q (Or.inr w)
      have hlt : (x.toInt - lo).toNat < offs.size := by omega
      have ho : offs[(x.toInt - lo).toNat]? = some offs[(x.toInt - lo).toNat] := Array.getElem?_eq_getElem hlt
      have hg : offs.getD (x.toInt - lo).toNat 0 = offs[(x.toInt - lo).toNat] := by simp [Array.getD, hlt]
      rw [hg] at k1
      exact lv_tableIn hx hb hd q1 q2 ho (vd_tgt (t3 _ (by simp))) k1
  · cases h
theorem vd_alu_sound (hx : p.tables.exec = Jvm.exec) (hb : c.code = cc) (hown : s.vm.findClass own = some m.cls) (i : Instr) {L : Array Slot} {pc len pc' : Nat} {cv : Value} {ls st ls' st' : List Value} (hd : decode cc pc = .ok (i, len)) (ht : vd_tok i pc len = true) (hc : vd_cok own i cv args s) (hl : vd_has (vd_ad z B) L nL ls) (h : vd_alu i pc len cv ls st = some (pc', ls', st'))
    (kk : ∀ L' : Array Slot, vd_has (vd_ad z B) L' nL ls' → W p l e R s m args below meth c H locs cells slots Q (F0 m pc' L' (st'.map (vd_cc (vd_ad z B))))) : W p l e R s m args below meth c H locs cells slots Q (F0 m pc L (st.map (vd_cc (vd_ad z B)))) := by
  cases i with
  | iconst n => exact vd_alu_iconst hx hb hown hd ht hc hl h kk
  | bipush n => exact vd_alu_bipush hx hb hown hd ht hc hl h kk
  | sipush n => exact vd_alu_sipush hx hb hown hd ht hc hl h kk
  | lconst n => exact vd_alu_lconst hx hb hown hd ht hc hl h kk
  | ldc n => exact vd_alu_ldc hx hb hown hd ht hc hl h kk
  | ldc_w n => exact vd_alu_ldc_w hx hb hown hd ht hc hl h kk
  | ldc2_w n => exact vd_alu_ldc2_w hx hb hown hd ht hc hl h kk
  | iload n => exact vd_alu_iload hx hb hown hd ht hc hl h kk
  | iload_n n => exact vd_alu_iload_n hx hb hown hd ht hc hl h kk
  | lload n => exact vd_alu_lload hx hb hown hd ht hc hl h kk
  | lload_n n => exact vd_alu_lload_n hx hb hown hd ht hc hl h kk
  | aload n => exact vd_alu_aload hx hb hown hd ht hc hl h kk
  | aload_n n => exact vd_alu_aload_n hx hb hown hd ht hc hl h kk
  | istore n => exact vd_alu_istore hx hb hown hd ht hc hl h kk
  | istore_n n => exact vd_alu_istore_n hx hb hown hd ht hc hl h kk
  | lstore n => exact vd_alu_lstore hx hb hown hd ht hc hl h kk
  | lstore_n n => exact vd_alu_lstore_n hx hb hown hd ht hc hl h kk
  | astore n => exact vd_alu_astore hx hb hown hd ht hc hl h kk
  | astore_n n => exact vd_alu_astore_n hx hb hown hd ht hc hl h kk
  | iinc n k => exact vd_alu_iinc hx hb hown hd ht hc hl h kk
  | iadd => exact vd_alu_iadd hx hb hown hd ht hc hl h kk
  | isub => exact vd_alu_isub hx hb hown hd ht hc hl h kk
  | imul => exact vd_alu_imul hx hb hown hd ht hc hl h kk
  | ineg => exact vd_alu_ineg hx hb hown hd ht hc hl h kk
  | iand => exact vd_alu_iand hx hb hown hd ht hc hl h kk
  | ixor => exact vd_alu_ixor hx hb hown hd ht hc hl h kk
  | ishl => exact vd_alu_ishl hx hb hown hd ht hc hl h kk
  | ishr => exact vd_alu_ishr hx hb hown hd ht hc hl h kk
  | ladd => exact vd_alu_ladd hx hb hown hd ht hc hl h kk
  | lmul => exact vd_alu_lmul hx hb hown hd ht hc hl h kk
  | lor => exact vd_alu_lor hx hb hown hd ht hc hl h kk
  | iushr => exact vd_alu_iushr hx hb hown hd ht hc hl h kk
  | lshl => exact vd_alu_lshl hx hb hown hd ht hc hl h kk
  | i2l => exact vd_alu_i2l hx hb hown hd ht hc hl h kk
  | l2i => exact vd_alu_l2i hx hb hown hd ht hc hl h kk
  | i2b => exact vd_alu_i2b hx hb hown hd ht hc hl h kk
  | lcmp => exact vd_alu_lcmp hx hb hown hd ht hc hl h kk
  | idiv => exact vd_alu_idiv hx hb hown hd ht hc hl h kk
  | irem => exact vd_alu_irem hx hb hown hd ht hc hl h kk
  | ldiv => exact vd_alu_ldiv hx hb hown hd ht hc hl h kk
  | dup => exact vd_alu_dup hx hb hown hd ht hc hl h kk
  | pop => exact vd_alu_pop hx hb hown hd ht hc hl h kk
  | dup_x1 => exact vd_alu_dup_x1 hx hb hown hd ht hc hl h kk
  | dup2 => exact vd_alu_dup2 hx hb hown hd ht hc hl h kk
  | goto n => exact vd_alu_goto hx hb hown hd ht hc hl h kk
  | ifCond n k => exact vd_alu_ifCond hx hb hown hd ht hc hl h kk
  | if_icmp n k => exact vd_alu_if_icmp hx hb hown hd ht hc hl h kk
  | if_acmp n k => exact vd_alu_if_acmp hx hb hown hd ht hc hl h kk
  | ifnull n => exact vd_alu_ifnull hx hb hown hd ht hc hl h kk
  | ifnonnull n => exact vd_alu_ifnonnull hx hb hown hd ht hc hl h kk
  | tableswitch d lo hi offs => exact vd_alu_tableswitch hx hb hown hd ht hc hl h kk
  | aconst_null => exact vd_alu_null hx hb hown hd ht hc hl h kk
  | _ => simp only [vd_alu] at h; cases h
end VDB
