/-! ===== stores of references; memory's instructions together ===== -/
section VDN
variable {p : Program} {l : Launch} {e : Env} {R : Room} {s : State} {m : MethodId} {args : Array Value} {below : List Frame} {meth : Method} {c : Code} {H : Heap} {locs : List Loc} {cells slots : Nat} {Q : State → Prop}
variable {cc : ByteArray} {D : va_G} {z : Nat → Nat} {H0 : Heap} {M : vd_M} {own : String} {pc : Nat} {L : Array Slot} {a b len : Nat} {st st' : List Value} {M' : vd_M} {fin : Bool}
theorem vd_aty_isr {k : Nat} (h : 36 ≤ k) : vd_isr (vd_aty k) = true := by
  unfold vd_aty
  split <;> first | rfl | omega
/-- the class of a value that may be stored into an array of references -/
theorem vd_comp (hK : vd_KW D z H0 s) (hR : vd_Rep D z H0 M s H) {o v : Nat} (hv : 10 ≤ v) (hk : (vd_k M o = 36 ∧ vd_k M v = 7) ∨ (vd_k M o = 37 ∧ vd_k M v = 13) ∨ (vd_k M o = 38 ∧ vd_k M v = 32) ∨ (vd_k M o = 39 ∧ vd_k M v = 33) ∨ (vd_k M o = 40 ∧ vd_k M v = 34)) :
    ∃ cv : Cell, H[vd_ad z H0.size v]? = some cv ∧ (∀ q, cv.vm ≠ .statics q) ∧ s.vm.findClass (vd_tn (vd_aty (vd_k M o))) = some cv.cls := by
  have obj : ∀ {C : String} {n : Nat} {T : u_T} {N : Nat}, vd_cls[n]? = some (C, T, N) → vd_k M v = n → ∃ cv : Cell, H[vd_ad z H0.size v]? = some cv ∧ (∀ q, cv.vm ≠ .statics q) ∧ s.vm.findClass C = some cv.cls := by
    intro C n T N hr hn
    obtain ⟨⟨cell, q1, q2, q3, -⟩, -⟩ := vd_obj hR hn hr
    obtain ⟨-, hfc, -⟩ := hK.1.1 n _ hr
    exact ⟨cell, q1, (fun q => by rw [q3]; exact fun w => by cases w), by rw [q2]; exact hfc⟩
  have arr : ∀ {n : Nat}, 32 ≤ n → n < 41 → vd_k M v = n → ∃ cv : Cell, H[vd_ad z H0.size v]? = some cv ∧ (∀ q, cv.vm ≠ .statics q) ∧ s.vm.findClass ("[" ++ (vd_aty n).toString) = some cv.cls := by
    intro n h1 h2 hn
    obtain ⟨cell, g1, g2, g3, g4, g5, g6, g7⟩ := vd_arrAt hR hn h1 h2
    exact ⟨cell, g1, g2.1, (g7 hv).1⟩
  rcases hk with ⟨ho, hv1⟩ | ⟨ho, hv1⟩ | ⟨ho, hv1⟩ | ⟨ho, hv1⟩ | ⟨ho, hv1⟩
  · rw [ho]; exact obj (n := 7) rfl hv1
  · rw [ho]; exact obj (n := 13) rfl hv1
  · rw [ho]; exact arr (n := 32) (by decide) (by decide) hv1
  · rw [ho]; exact arr (n := 33) (by decide) (by decide) hv1
  · rw [ho]; exact arr (n := 34) (by decide) (by decide) hv1
theorem vd_mm_aastore (hx : p.tables.exec = Jvm.exec) (hb : c.code = cc) (hown : s.vm.findClass own = some m.cls) (hts : ∀ w ∈ vd_tb, w.before args s = true) (hK : vd_KW D z H0 s) (hR : vd_Rep D z H0 M s H) (hfin : fin = true → meth.name = "<init>") (hlo : ∀ q ∈ locs, H0.size ≤ q.base) (hd : decode cc pc = .ok (.aastore, len)) (ht : vd_tok (.aastore) pc len = true) (hw : vd_lok own (.aastore) a b fin) (h : vd_mm (.aastore) a b st M = some (st', M'))
    (kk : ∀ (H' : Heap) (locs' : List Loc), vd_Rep D z H0 M' s H' → (∀ q ∈ locs', H0.size ≤ q.base) → W p l e R s m args below meth c H' locs' cells slots Q (F0 m (pc + len) L (st'.map (vd_cc (vd_ad z H0.size))))) : W p l e R s m args below meth c H locs cells slots Q (F0 m pc L (st.map (vd_cc (vd_ad z H0.size)))) := by
  simp only [vd_tok, beq_iff_eq] at ht
  subst ht
  simp only [vd_mm] at h
  split at h
  · rename_i v j o st
    split at h
    · rename_i hk
      obtain ⟨⟨ho, hv, hk⟩, hj⟩ := hk
      simp only [Option.some.injEq, Prod.mk.injEq] at h
      obtain ⟨rfl, rfl⟩ := h
      have hlt : j.toNatClampNeg < vd_l M o := Nat.not_le.mp fun q => hj (Or.inr q)
      have k1 : 36 ≤ vd_k M o := by omega
      have k2 : vd_k M o < 41 := by omega
      obtain ⟨cell, h1, h2, h3, h4, h5, h6, h7⟩ := vd_arrAt hR rfl (by omega) k2
      obtain ⟨cv, v1, v2, v3⟩ := vd_comp hK hR hv hk
      obtain ⟨kA, comp, kc, c1, c2, c3, c4⟩ := (h7 ho).2 (vd_aty_isr k1)
      have hc : comp = cv.cls := Option.some.inj (c3.symm.trans v3)
      refine W.aast hx hb h1 h2.1 h3 c1 c2 (vd_aty_ref k1) c4 ⟨fun q => hj (Or.inl q), Nat.lt_of_lt_of_le hlt h4⟩ v1 v2 (by rw [← hc]; exact c4) (by rw [hc]; exact va_asg _ _) rfl rfl hd fun H' g1 g2 g3 => ?_
      refine kk H' _ (hR.put (M' := vd_sr M o j.toNatClampNeg (some v)) ho rfl (by omega) k2 h1 h2 h3 h4 h5 h6 h7 hlt rfl (fun _ => rfl) (fun _ => rfl) (fun _ _ _ => rfl) (fun q hq j => by rw [vd_sr_r, if_neg (fun w => hq w.1)]) (fun _ _ _ => rfl) ?_ (fun j' hj' => ?_) g1 g2 g3) (vd_lo1 hlo (vd_base ho))
      · rw [vd_ev_ref (by show 36 ≤ vd_k M o; exact k1), vd_sr_r, if_pos ⟨rfl, rfl⟩]; rfl
      · unfold vd_ev
        rw [vd_sr_ne (fun w => hj' w.2)]
        rfl
    · cases h
  · rename_i j o st
    split at h
    · rename_i hk
      obtain ⟨⟨ho, hk⟩, hj⟩ := hk
      simp only [Option.some.injEq, Prod.mk.injEq] at h
      obtain ⟨rfl, rfl⟩ := h
      have hlt : j.toNatClampNeg < vd_l M o := Nat.not_le.mp fun q => hj (Or.inr q)
      have k1 : 36 ≤ vd_k M o := by omega
      have k2 : vd_k M o < 41 := by omega
      obtain ⟨cell, h1, h2, h3, h4, h5, h6, h7⟩ := vd_arrAt hR rfl (by omega) k2
      have hC : ∃ C, vd_aty (vd_k M o) = .object C := by
        rcases hk with hk | hk <;> rw [hk] <;> exact ⟨_, rfl⟩
      obtain ⟨C, hC⟩ := hC
      refine va_WaastN (C := C) hx hb h1 (by rw [← hC]; exact h2) h3 (fun q => hj (q.imp id (fun w => Nat.le_trans h4 w))) rfl rfl hd fun H' g1 g2 g3 => ?_
      refine kk H' _ (hR.put (M' := vd_sr M o j.toNatClampNeg none) ho rfl (by omega) k2 h1 h2 h3 h4 h5 h6 h7 hlt rfl (fun _ => rfl) (fun _ => rfl) (fun _ _ _ => rfl) (fun q hq j => by rw [vd_sr_r, if_neg (fun w => hq w.1)]) (fun _ _ _ => rfl) ?_ (fun j' hj' => ?_) g1 g2 g3) (vd_lo1 hlo (vd_base ho))
      · rw [vd_ev_ref (by show 36 ≤ vd_k M o; exact k1), vd_sr_r, if_pos ⟨rfl, rfl⟩]; rfl
      · unfold vd_ev
        rw [vd_sr_ne (fun w => hj' w.2)]
        rfl
    · cases h
  · cases h
theorem vd_mm_sound (hx : p.tables.exec = Jvm.exec) (hb : c.code = cc) (hown : s.vm.findClass own = some m.cls) (hts : ∀ w ∈ vd_tb, w.before args s = true) (hK : vd_KW D z H0 s) (hR : vd_Rep D z H0 M s H) (hfin : fin = true → meth.name = "<init>") (hlo : ∀ q ∈ locs, H0.size ≤ q.base) (i : Instr) (hd : decode cc pc = .ok (i, len)) (ht : vd_tok (i) pc len = true) (hw : vd_lok own (i) a b fin) (h : vd_mm (i) a b st M = some (st', M'))
    (kk : ∀ (H' : Heap) (locs' : List Loc), vd_Rep D z H0 M' s H' → (∀ q ∈ locs', H0.size ≤ q.base) → W p l e R s m args below meth c H' locs' cells slots Q (F0 m (pc + len) L (st'.map (vd_cc (vd_ad z H0.size))))) : W p l e R s m args below meth c H locs cells slots Q (F0 m pc L (st.map (vd_cc (vd_ad z H0.size)))) := by
  cases i with
  | getfield n => exact vd_mm_getfield hx hb hown hts hK hR hfin hlo hd ht hw h kk
  | putfield n => exact vd_mm_putfield hx hb hown hts hK hR hfin hlo hd ht hw h kk
  | getstatic n => exact vd_mm_getstatic hx hb hown hts hK hR hfin hlo hd ht hw h kk
  | arraylength => exact vd_mm_arraylength hx hb hown hts hK hR hfin hlo hd ht hw h kk
  | iaload => exact vd_mm_iaload hx hb hown hts hK hR hfin hlo hd ht hw h kk
  | laload => exact vd_mm_laload hx hb hown hts hK hR hfin hlo hd ht hw h kk
  | baload => exact vd_mm_baload hx hb hown hts hK hR hfin hlo hd ht hw h kk
  | aaload => exact vd_mm_aaload hx hb hown hts hK hR hfin hlo hd ht hw h kk
  | iastore => exact vd_mm_iastore hx hb hown hts hK hR hfin hlo hd ht hw h kk
  | lastore => exact vd_mm_lastore hx hb hown hts hK hR hfin hlo hd ht hw h kk
  | bastore => exact vd_mm_bastore hx hb hown hts hK hR hfin hlo hd ht hw h kk
  | aastore => exact vd_mm_aastore hx hb hown hts hK hR hfin hlo hd ht hw h kk
  | _ => simp only [vd_mm] at h; cases h
end VDN
