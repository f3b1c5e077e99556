/-! ===== new cells ===== -/
def vd_ak (t : ArrayType) : Nat := match t with
  | .int => 32
  | .byte => 33
  | .boolean => 34
  | .long => 35
  | _ => 99
def vd_al (i : Instr) (a b : Nat) (st : List Value) (M : vd_M) : Option (List Value × vd_M) := match i with
  | .new _ => if a < 14 then some (.ref (vd_n M) :: st, vd_new M a 0 b) else none
  | .newarray t => (match st with
    | .int n :: st => if n < 0 ∨ 65536 < n.toNatClampNeg ∨ vd_ak t = 99 then none else some (.ref (vd_n M) :: st, vd_new M (vd_ak t) n.toNatClampNeg n.toNatClampNeg)
    | _ => none)
  | .anewarray _ => (match st with
    | .int n :: st => if n < 0 ∨ 65536 < n.toNatClampNeg ∨ ¬ (36 ≤ a ∧ a < 41) then none else some (.ref (vd_n M) :: st, vd_new M a n.toNatClampNeg n.toNatClampNeg)
    | _ => none)
  | _ => none
/-- the words that they ask for -/
def vd_wok (own : String) (i : Instr) (a b : Nat) : Prop := match i with
  | .new idx => ∃ r : vw_C, vd_cls[a]? = some r ∧ Cond.classLink own idx r.1 ∈ vd_tb ∧ Cond.instantiable r.1 b ∈ vd_tb ∧ Cond.initialized r.1 ∈ vd_tb ∧ ∀ k, k < r.2.2 → (vd_fty a k = .int ∨ vd_fty a k = .boolean ∨ vd_isr (vd_fty a k) = true)
  | .newarray t => Cond.arrayClass (newarray.typeOf t) ∈ vd_tb
  | .anewarray idx => Cond.classLink own idx (vd_tn (vd_aty a)) ∈ vd_tb ∧ Cond.arrayOver (vd_aty a) ∈ vd_tb
  | _ => True
section VDL
variable {p : Program} {l : Launch} {e : Env} {R : Room} {s : State} {m : MethodId} {args : Array Value} {below : List Frame} {meth : Method} {c : Code} {H : Heap} {locs : List Loc} {cells slots : Nat} {Q : State → Prop}
variable {cc : ByteArray} {D : va_G} {z : Nat → Nat} {H0 : Heap} {M : vd_M} {own : String} {pc : Nat} {L : Array Slot} {a b len : Nat} {st st' : List Value} {M' : vd_M} {fin : Bool}
theorem vd_ad_n (hR : vd_Rep D z H0 M s H) : vd_ad z H0.size (vd_n M) = H.size := by
  have h2 := hR.2.1
  rw [hR.1]
  unfold vd_ad
  rw [if_neg (by omega)]
theorem vd_cell_lt {o : Nat} (h : vd_cell D (vd_ad z H0.size) M o s H) (hk : vd_k M o ≠ 99) : vd_ad z H0.size o < H.size := by
  rcases h with g | ⟨-, r, -, cell, g, -⟩ | ⟨-, -, cell, g, -⟩
  · exact absurd g hk
  · exact (Array.getElem?_eq_some_iff.mp g).1
  · exact (Array.getElem?_eq_some_iff.mp g).1
theorem vd_new_k (k len sl o : Nat) : vd_k (vd_new M k len sl) o = if o = vd_n M then k else vd_k M o := rfl
theorem vd_new_l (k len sl o : Nat) : vd_l (vd_new M k len sl) o = if o = vd_n M then len else vd_l M o := rfl
theorem vd_new_i (k len sl o j : Nat) : vd_i (vd_new M k len sl) o j = if o = vd_n M then 0 else vd_i M o j := rfl
theorem vd_new_r (k len sl o j : Nat) : vd_r (vd_new M k len sl) o j = if o = vd_n M then none else vd_r M o j := rfl
theorem vd_new_j (k len sl o j : Nat) : vd_j (vd_new M k len sl) o j = if o = vd_n M then 0 else vd_j M o j := rfl
theorem vd_Rep.push {k len sl : Nat} {H' : Heap} (hR : vd_Rep D z H0 M s H) (hz : H'.size = H.size + 1) (hq : ∀ q, q < H.size → H'[q]? = H[q]?) (hk : k < 99) (hc : vd_cell D (vd_ad z H0.size) (vd_new M k len sl) (vd_n M) s H') : vd_Rep D z H0 (vd_new M k len sl) s H' := by
  obtain ⟨h1, h2, h3, h4, h5, h6, h7⟩ := hR
  have hn : vd_n (vd_new M k len sl) = vd_n M + 1 := rfl
  refine ⟨by rw [hz, h1, hn]; omega, by rw [hn]; omega, fun q hq1 => by rw [hq q (by omega)]; exact h3 q hq1, h4, fun o ho hk1 => ?_, fun o ho => ?_, fun o => ?_⟩
  · rw [vd_new_k, if_neg (by omega)] at hk1
    exact h5 o ho hk1
  · rw [hn] at ho
    rw [vd_new_k, if_neg (by omega)]
    exact h6 o (by omega)
  · by_cases eo : o = vd_n M
    · rw [eo]; exact hc
    · have ek : vd_k (vd_new M k len sl) o = vd_k M o := by rw [vd_new_k, if_neg eo]
      have el : vd_l (vd_new M k len sl) o = vd_l M o := by rw [vd_new_l, if_neg eo]
      by_cases h99 : vd_k M o = 99
      · exact Or.inl (by rw [ek]; exact h99)
      · have hlt := vd_cell_lt (h7 o) h99
        rcases h7 o with g | ⟨g1, r, g2, g3⟩ | ⟨g1, g2, g3⟩
        · exact absurd g h99
        · refine Or.inr (Or.inl ⟨by rw [ek]; exact g1, r, by rw [ek]; exact g2, ?_⟩)
          rw [ek]
          refine (g3.kept (hq _ hlt)).to fun j _ => ?_
          unfold vd_fv
          rw [ek, vd_new_i, vd_new_r, if_neg eo, if_neg eo]
        · refine Or.inr (Or.inr ⟨by rw [ek]; exact g1, by rw [ek]; exact g2, ?_⟩)
          rw [ek, el]
          refine g3.kept (hq _ hlt) fun j _ => ?_
          unfold vd_ev
          rw [ek, vd_new_i, vd_new_r, vd_new_j, if_neg eo, if_neg eo, if_neg eo]
theorem vd_classOf {C : String} {cC : ClassId} (h : s.vm.findClass C = some cC) : ∃ k, s.vm.classes[cC]? = some k := by
  have h1 : cC < s.vm.classes.size := by
    unfold Vm.findClass at h
    have h2 := Array.findIdx?_eq_some_iff_findIdx_eq.mp h
    exact h2.1
  exact ⟨_, Array.getElem?_eq_getElem h1⟩
theorem vd_al_new (hx : p.tables.exec = Jvm.exec) (hb : c.code = cc) (hown : s.vm.findClass own = some m.cls) (hts : ∀ w ∈ vd_tb, w.before args s = true) (hK : vd_KW D z H0 s) (hR : vd_Rep D z H0 M s H) {idx : Nat} (hd : decode cc pc = .ok (.new idx, len)) (ht : vd_tok (.new idx) pc len = true) (hw : vd_wok own (.new idx) a b) (h : vd_al (.new idx) a b st M = some (st', M')) {c0 s0 : Nat} (hc0 : c0 ≤ vd_c M) (hs0 : s0 ≤ vd_s M) (hcc : cells = vd_c M - c0) (hss : slots = vd_s M - s0) (hrc : vd_c M' - c0 ≤ R.cells) (hrs : vd_s M' - s0 ≤ R.slots)
    (kk : ∀ (H' : Heap), vd_Rep D z H0 M' s H' → W p l e R s m args below meth c H' locs (vd_c M' - c0) (vd_s M' - s0) Q (F0 m (pc + len) L (st'.map (vd_cc (vd_ad z H0.size))))) : W p l e R s m args below meth c H locs cells slots Q (F0 m pc L (st.map (vd_cc (vd_ad z H0.size)))) := by
  simp only [vd_tok, beq_iff_eq] at ht
  subst ht
  simp only [vd_al] at h
  split at h
  · rename_i ha
    simp only [Option.some.injEq, Prod.mk.injEq] at h
    obtain ⟨rfl, rfl⟩ := h
    obtain ⟨r, hr, w1, w2, w3, w4⟩ := hw
    obtain ⟨hin, hty, hnm⟩ := vd_cls_ok a r hr
    have hKn := hK.1.1 a _ hr
    have e1 : vd_c (vd_new M a 0 b) = vd_c M + 1 := rfl
    have e2 : vd_s (vd_new M a 0 b) = vd_s M + b := rfl
    rw [e1] at hrc
    rw [e2] at hrs
    refine W.newcK hx hb hown (hts _ w1) (hts _ w2) (hts _ w3) rfl hd (by omega) (by omega) hKn.2.1 rfl fun H1 kC hkC g1 z1 o1 => ?_
    have k1 := kk H1 (hR.push z1 o1 (by omega) (Or.inr (Or.inl ⟨by rw [vd_new_k, if_pos rfl]; omega, r, by rw [vd_new_k, if_pos rfl]; exact hr, ?_⟩)))
    · rw [e1, e2, show vd_c M + 1 - c0 = cells + 1 by omega, show vd_s M + b - s0 = slots + b by omega] at k1
      simp only [List.map_cons, vd_cc, vd_ad_n hR] at k1
      exact k1
    · rw [vd_new_k, if_pos rfl, vd_ad_n hR]
      refine (u_born (vd_fty a) hts hin hKn hkC g1 hty).to fun k hk => ?_
      unfold vd_fv
      rw [vd_new_k, if_pos rfl, vd_new_i, vd_new_r, if_pos rfl, if_pos rfl]
      rcases w4 k hk with q | q | q
      · rw [q]; rfl
      · rw [q]; rfl
      · rw [if_pos q]
        revert q
        cases vd_fty a k <;> intro q <;> first | rfl | cases q
  · cases h
theorem vd_al_newarray (hx : p.tables.exec = Jvm.exec) (hb : c.code = cc) (hown : s.vm.findClass own = some m.cls) (hts : ∀ w ∈ vd_tb, w.before args s = true) (hK : vd_KW D z H0 s) (hR : vd_Rep D z H0 M s H) {t : ArrayType} (hd : decode cc pc = .ok (.newarray t, len)) (ht : vd_tok (.newarray t) pc len = true) (hw : vd_wok own (.newarray t) a b) (h : vd_al (.newarray t) a b st M = some (st', M')) {c0 s0 : Nat} (hc0 : c0 ≤ vd_c M) (hs0 : s0 ≤ vd_s M) (hcc : cells = vd_c M - c0) (hss : slots = vd_s M - s0) (hrc : vd_c M' - c0 ≤ R.cells) (hrs : vd_s M' - s0 ≤ R.slots)
    (kk : ∀ (H' : Heap), vd_Rep D z H0 M' s H' → W p l e R s m args below meth c H' locs (vd_c M' - c0) (vd_s M' - s0) Q (F0 m (pc + len) L (st'.map (vd_cc (vd_ad z H0.size))))) : W p l e R s m args below meth c H locs cells slots Q (F0 m pc L (st.map (vd_cc (vd_ad z H0.size)))) := by
  simp only [vd_tok, beq_iff_eq] at ht
  subst ht
  simp only [vd_al] at h
  split at h
  · rename_i n st
    split at h
    · cases h
    · rename_i hn
      simp only [Option.some.injEq, Prod.mk.injEq] at h
      obtain ⟨rfl, rfl⟩ := h
      have n1 : ¬ n < 0 := fun q => hn (Or.inl q)
      have n2 : n.toNatClampNeg ≤ 65536 := Nat.not_lt.mp fun q => hn (Or.inr (Or.inl q))
      have n3 : ¬ vd_ak t = 99 := fun q => hn (Or.inr (Or.inr q))
      generalize hN : n.toNatClampNeg = N at *
      have e1 : vd_c (vd_new M (vd_ak t) N N) = vd_c M + 1 := rfl
      have e2 : vd_s (vd_new M (vd_ak t) N N) = vd_s M + N := rfl
      rw [e1] at hrc
      rw [e2] at hrs
      have hbytes : N * componentBytes (newarray.typeOf t) ≤ 536870912 := by
        have : componentBytes (newarray.typeOf t) ≤ 8 := by cases t <;> decide
        calc N * componentBytes (newarray.typeOf t) ≤ 65536 * 8 := Nat.mul_le_mul n2 this
          _ ≤ 536870912 := by decide
      have hk : 32 ≤ vd_ak t ∧ vd_ak t < 36 ∧ vd_aty (vd_ak t) = newarray.typeOf t := by
        cases t <;> first | exact absurd rfl n3 | exact ⟨by decide, by decide, rfl⟩
      refine va_newaK hx hb (hts _ hw) rfl hd rfl n1 hN hbytes (by omega) (by omega) rfl fun H1 cA g1 z1 o1 a1 f1 => ?_
      have k1 := kk H1 (hR.push z1 o1 (by omega) (Or.inr (Or.inr ⟨by rw [vd_new_k, if_pos rfl]; exact hk.1, by rw [vd_new_k, if_pos rfl]; omega, ?_⟩)))
      · rw [e1, e2, show vd_c M + 1 - c0 = cells + 1 by omega, show vd_s M + N - s0 = slots + N by omega] at k1
        simp only [List.map_cons, vd_cc, vd_ad_n hR] at k1
        exact k1
      · rw [vd_new_k, if_pos rfl, vd_new_l, if_pos rfl, vd_ad_n hR, hk.2.2]
        refine ⟨_, g1, a1 _ _, (fun q => by cases q), by rw [arrV_size]; exact Nat.le_refl _, fun _ => arrV_size _ _ _, fun j hj => ?_, fun _ => ⟨f1, fun q => ?_⟩⟩
        · rw [arrV_read _ _ hj]
          unfold vd_ev
          rw [vd_new_k, if_pos rfl, vd_new_i, vd_new_j, vd_new_r, if_pos rfl, if_pos rfl, if_pos rfl]
          cases t <;> first | rfl | exact absurd rfl n3
        · cases t <;> first | cases q | exact absurd rfl n3
  · cases h
theorem vd_al_anewarray (hx : p.tables.exec = Jvm.exec) (hb : c.code = cc) (hown : s.vm.findClass own = some m.cls) (hts : ∀ w ∈ vd_tb, w.before args s = true) (hK : vd_KW D z H0 s) (hR : vd_Rep D z H0 M s H) {idx : Nat} (hd : decode cc pc = .ok (.anewarray idx, len)) (ht : vd_tok (.anewarray idx) pc len = true) (hw : vd_wok own (.anewarray idx) a b) (h : vd_al (.anewarray idx) a b st M = some (st', M')) {c0 s0 : Nat} (hc0 : c0 ≤ vd_c M) (hs0 : s0 ≤ vd_s M) (hcc : cells = vd_c M - c0) (hss : slots = vd_s M - s0) (hrc : vd_c M' - c0 ≤ R.cells) (hrs : vd_s M' - s0 ≤ R.slots)
    (kk : ∀ (H' : Heap), vd_Rep D z H0 M' s H' → W p l e R s m args below meth c H' locs (vd_c M' - c0) (vd_s M' - s0) Q (F0 m (pc + len) L (st'.map (vd_cc (vd_ad z H0.size))))) : W p l e R s m args below meth c H locs cells slots Q (F0 m pc L (st.map (vd_cc (vd_ad z H0.size)))) := by
  simp only [vd_tok, beq_iff_eq] at ht
  subst ht
  simp only [vd_al] at h
  split at h
  · rename_i n st
    split at h
    · cases h
    · rename_i hn
      simp only [Option.some.injEq, Prod.mk.injEq] at h
      obtain ⟨rfl, rfl⟩ := h
      have n1 : ¬ n < 0 := fun q => hn (Or.inl q)
      have n2 : n.toNatClampNeg ≤ 65536 := Nat.not_lt.mp fun q => hn (Or.inr (Or.inl q))
      have n3 : 36 ≤ a ∧ a < 41 := Classical.byContradiction fun q => hn (Or.inr (Or.inr q))
      have hbytes : n.toNatClampNeg * 4 ≤ 536870912 := by omega
      have e1 : vd_c (vd_new M a n.toNatClampNeg n.toNatClampNeg) = vd_c M + 1 := rfl
      have e2 : vd_s (vd_new M a n.toNatClampNeg n.toNatClampNeg) = vd_s M + n.toNatClampNeg := rfl
      rw [e1] at hrc
      rw [e2] at hrs
      have fin : ∀ (cA : ClassId) (kA : Class) (comp : ClassId), s.vm.findClass ("[" ++ (vd_aty a).toString) = some cA → s.vm.classes[cA]? = some kA → kA.kind = .array comp (vd_aty a) → s.vm.findClass (vd_tn (vd_aty a)) = some comp →
          W p l e R s m args below meth c (H.push { cls := cA, slots := Array.replicate n.toNatClampNeg .null, vm := .none }) locs (cells + 1) (slots + n.toNatClampNeg) Q (F0 m (pc + 3) L (.ref H.size :: st.map (vd_cc (vd_ad z H0.size)))) := by
        intro cA kA comp f1 f2 f3 f4
        have hkc : ∃ kc, s.vm.classes[comp]? = some kc := vd_classOf f4
        obtain ⟨kc, hkc⟩ := hkc
        generalize hH1 : H.push ({ cls := cA, slots := Array.replicate n.toNatClampNeg .null, vm := .none } : Cell) = H1
        have z1 : H1.size = H.size + 1 := by rw [← hH1, Array.size_push]
        have g1 : H1[H.size]? = some (arrV cA n.toNatClampNeg (fun _ => .null)) := by rw [← hH1, Array.getElem?_push_size, ← arrV_new]
        have o1 : ∀ q : Nat, q < H.size → H1[q]? = H[q]? := fun q hq => by rw [← hH1, Array.getElem?_push, if_neg (Nat.ne_of_lt hq)]
        have k1 := kk H1 (hR.push z1 o1 (by omega) (Or.inr (Or.inr ⟨by rw [vd_new_k, if_pos rfl]; omega, by rw [vd_new_k, if_pos rfl]; omega, ?_⟩)))
        · rw [e1, e2, show vd_c M + 1 - c0 = cells + 1 by omega, show vd_s M + n.toNatClampNeg - s0 = slots + n.toNatClampNeg by omega] at k1
          simp only [List.map_cons, vd_cc, vd_ad_n hR] at k1
          exact k1
        · rw [vd_new_k, if_pos rfl, vd_new_l, if_pos rfl, vd_ad_n hR]
          refine ⟨_, g1, ⟨(fun k w => by cases w), kA, f2, comp, f3⟩, (fun q => by cases q), by rw [arrV_size]; exact Nat.le_refl _, fun _ => arrV_size _ _ _, fun j hj => ?_, fun _ => ⟨f1, fun _ => ⟨kA, comp, kc, f2, f3, f4, hkc⟩⟩⟩
          rw [arrV_read _ _ hj]
          unfold vd_ev
          rw [vd_new_k, if_pos rfl, vd_new_r, if_pos rfl, if_neg (by omega), if_neg (by omega)]
          rfl
      obtain ⟨w1, w2⟩ := hw
      have ha : a = 36 ∨ a = 37 ∨ a = 38 ∨ a = 39 ∨ a = 40 := by omega
      rcases ha with rfl | rfl | rfl | rfl | rfl
      · exact W.anew hx hb hown (hts _ w1) (hts _ w2) rfl hd rfl n1 hbytes (by omega) (by omega) fin
      · exact W.anew hx hb hown (hts _ w1) (hts _ w2) rfl hd rfl n1 hbytes (by omega) (by omega) fin
      · exact W.anewA hx hb hown (hts _ w1) (hts _ w2) rfl hd rfl n1 hbytes (by omega) (by omega) fin
      · exact W.anewA hx hb hown (hts _ w1) (hts _ w2) rfl hd rfl n1 hbytes (by omega) (by omega) fin
      · exact W.anewA hx hb hown (hts _ w1) (hts _ w2) rfl hd rfl n1 hbytes (by omega) (by omega) fin
  · cases h
theorem vd_al_sound (hx : p.tables.exec = Jvm.exec) (hb : c.code = cc) (hown : s.vm.findClass own = some m.cls) (hts : ∀ w ∈ vd_tb, w.before args s = true) (hK : vd_KW D z H0 s) (hR : vd_Rep D z H0 M s H) (i : Instr) (hd : decode cc pc = .ok (i, len)) (ht : vd_tok (i) pc len = true) (hw : vd_wok own (i) a b) (h : vd_al (i) a b st M = some (st', M')) {c0 s0 : Nat} (hc0 : c0 ≤ vd_c M) (hs0 : s0 ≤ vd_s M) (hcc : cells = vd_c M - c0) (hss : slots = vd_s M - s0) (hrc : vd_c M' - c0 ≤ R.cells) (hrs : vd_s M' - s0 ≤ R.slots)
    (kk : ∀ (H' : Heap), vd_Rep D z H0 M' s H' → W p l e R s m args below meth c H' locs (vd_c M' - c0) (vd_s M' - s0) Q (F0 m (pc + len) L (st'.map (vd_cc (vd_ad z H0.size))))) : W p l e R s m args below meth c H locs cells slots Q (F0 m pc L (st.map (vd_cc (vd_ad z H0.size)))) := by
  cases i with
  | new n => exact vd_al_new hx hb hown hts hK hR hd ht hw h hc0 hs0 hcc hss hrc hrs kk
  | newarray n => exact vd_al_newarray hx hb hown hts hK hR hd ht hw h hc0 hs0 hcc hss hrc hrs kk
  | anewarray n => exact vd_al_anewarray hx hb hown hts hK hR hd ht hw h hc0 hs0 hcc hss hrc hrs kk
  | _ => simp only [vd_al] at h; cases h
end VDL
