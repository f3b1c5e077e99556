/-! ===== a walk begun anew at a point; a throw ===== -/
section VDT
variable {p : Program} {l : Launch} {e : Env} {R : Room} {s : State} {m : MethodId} {args : Array Value} {below : List Frame} {meth : Method} {c : Code} {H : Heap} {locs : List Loc} {cells slots : Nat} {Q : State → Prop}
variable {D : va_G} {z : Nat → Nat} {H0 : Heap} {M M' : vd_M} {own : String} {pc : Nat} {L : Array Slot} {T : State} {P : vd_P} {st : List Value}
/-- the state at a point of a walk, as if the method were invoked there -/
theorem vd_rebase (X : Stand p l e R s m args below meth c T locs cells slots) (hc : cells ≤ R.cells) (hs : slots ≤ R.slots) :
    Stand p l e { frames := R.frames, cells := R.cells - cells, slots := R.slots - slots, locals := R.locals } (T.setFrames (.invoking m args :: below)) m args below meth c T [] 0 0 ∧
      ∀ (V : State) (L : List Loc) (k n : Nat), (T.setFrames (.invoking m args :: below)).sameButNew ({ V with vm := (T.setFrames (.invoking m args :: below)).vm } : State) L k n → s.sameButNew ({ V with vm := s.vm } : State) (locs ++ L) (cells + k) (slots + n) := by
  obtain ⟨g₀, hfr⟩ := X.frames_eq
  obtain ⟨th, hth, -⟩ := State.frames_cons hfr
  have hcur : T.cur < T.threads.size := (Array.getElem?_eq_some_iff.mp hth).1
  have hf2 : (T.setFrames (.invoking m args :: below)).frames = .invoking m args :: below := State.frames_setFrames _ hcur
  have hm2 : (T.setFrames (.invoking m args :: below)).vm.method? m = some meth := X.method'
  have hback : (T.setFrames (.invoking m args :: below)).setFrames T.frames = T := by rw [State.setFrames_setFrames, State.setFrames_self hth]
  have hcur2 : (T.setFrames (.invoking m args :: below)).cur < (T.setFrames (.invoking m args :: below)).threads.size := State.cur_lt_of_frames hf2
  obtain ⟨th2, hth2, -⟩ := State.frames_cons hf2
  have hsame : (T.setFrames (.invoking m args :: below)).sameButNew T [] 0 0 := by
    have h := (State.sameButNew.refl (T.setFrames (.invoking m args :: below)) hth2).setFrames T.frames hcur2
    rw [hback] at h
    exact h
  have hr := X.room
  simp only [State.hasRoom, Bool.and_eq_true, decide_eq_true_eq] at hr
  obtain ⟨⟨⟨⟨r0, r1, r2, r3, r4, r5⟩, r6⟩, r7⟩, r8⟩ := hr
  have hl1 := State.localsInUse_invoking X.frames X.method X.code
  have hl2 := State.localsInUse_invoking hf2 hm2 X.code
  have hlen : (T.setFrames (.invoking m args :: below)).frames.length = s.frames.length := by rw [hf2, X.frames]
  have hlim : e.platform.stackLimits (T.setFrames (.invoking m args :: below)).me = e.platform.stackLimits s.me := by rw [State.stackLimits_setFrames]; exact X.limits
  have hby : (T.setFrames (.invoking m args :: below)).me.stackBytes = s.me.stackBytes := by rw [State.stackBytes_setFrames]; exact X.bytes
  have hz := X.heapSize
  have hu := X.used
  refine ⟨⟨X.admits, X.cas, X.clock, hf2, ?_, ?_, hm2, X.code, X.here, X.tail, State.WarmedH.refl _, ?_, ?_, hsame⟩, fun V L k n h => ?_⟩
  · simp only [State.hasRoom, Bool.and_eq_true, decide_eq_true_eq]
    rw [hlen, hlim, hby, hl2, ← hl1]
    refine ⟨⟨⟨⟨r0, r1, r2, r3, r4, r5⟩, ?_⟩, ?_⟩, ?_⟩
    · show T.heap.size + (R.cells - cells) ≤ _
      omega
    · show T.slotsUsed + (R.slots - slots) ≤ _
      omega
    · exact X.book
  · have h := X.hears
    have hcd : ∀ mm, (T.setFrames (.invoking m args :: below)).code? mm = s.code? mm := fun mm => by
      rw [State.code?_eq, State.code?_eq]
      show (T.vm.method? mm).bind _ = _
      rw [X.warmed.alike.method?]
    unfold State.hears at h ⊢
    cases below with
    | nil => simp only [hm2]; simpa [X.method] using h
    | cons f r =>
      cases f with
      | java g => simp only [hcd]; exact h
      | native _ => rfl
      | proc _ => rfl
      | _ => simp only [hm2]; simpa [X.method] using h
  · rw [State.stackLimits_setFrames]
  · rw [State.stackBytes_setFrames]
  · have h2 : T.sameButNew ({ V with vm := T.vm } : State) L k n := by
      obtain ⟨e1, e2⟩ := h
      refine ⟨?_, e2⟩
      rw [State.setFrames_setFrames] at e1
      exact e1
    exact X.same.trans (h2.setVm s.vm)
theorem vd_laysS {u U : State} {O f d : String} {A A' : Array Value} (hvm : u.vm.Alike U.vm) (hh : ∀ q, q < u.heap.size → U.heap[q]? = u.heap[q]?) (h : (Cond.laysStatic O f d).before A u = true) : (Cond.laysStatic O f d).before A' U = true := by
  obtain ⟨c, k, i, f, a, cell, hc, hi, hst, ha, hcell, hs, hcls, hlt, hty⟩ := Cond.laysStatic_spec h
  obtain ⟨k', hi', hek⟩ := State.fieldFound?_setVm hvm hi
  exact Cond.laysStatic_of (s := U) (by rw [hvm.findClass]; exact hc) hi' hst (by rw [hek]; exact ha) (by rw [hh a (Array.getElem?_eq_some_iff.mp hcell).1]; exact hcell) hs hcls hlt (by rw [hek]; exact hty)
theorem vd_isRefS {u U : State} {O f d : String} {A A' : Array Value} (hvm : u.vm.Alike U.vm) (hh : ∀ q, q < u.heap.size → U.heap[q]? = u.heap[q]?) (hl : (Cond.laysStatic O f d).before A u = true) (hini : (Cond.initialized O).before A u = true) (h : (Cond.isRef (.static O f d)).before A u = true) : (Cond.isRef (.static O f d)).before A' U = true := by
  have hq := va_Zqof (A := fun q => u.heap.size ≤ q) hl hini h (fun a ha => Nat.not_le.mpr ha)
  have key : ∀ v, va_Z O f d v (fun q => u.heap.size ≤ q) u u.heap → (Term.static O f d).eval A' U none [] U = some v := by
    intro v hz
    obtain ⟨cf, kf, fi, fd, a, cell, h1, h2, h3, h4, h5, h6, h7, h8⟩ := hz
    obtain ⟨k', hi', he⟩ := State.fieldFound?_setVm hvm h1
    have h5' : U.heap[a]? = some cell := by rw [hh a (Nat.not_le.mp h8)]; exact h5
    have h4' : k'.statics = some a := by rw [he]; exact h4
    have hi2 : U.fieldFound? O f d = some (cf, k', fi, fd) := hi'
    simp [Term.eval, State.fieldNamed?, hi2, h2, h4', h5', h6, h7]
  rcases hq with hz | ⟨t, hz⟩
  · simp [Cond.before, Cond.holds, Cond.value, key _ hz]
  · simp [Cond.before, Cond.holds, Cond.value, key _ hz]
theorem vd_TWok (hK : vd_KW D z H0 s) {U : State} (hvm : s.vm.Alike U.vm) (hh : ∀ q, q < H0.size → U.heap[q]? = H0[q]?) (hini : (Cond.initialized Bundle.tN).before args U = true) : ∀ w ∈ vd_TW, w.before args U = true := by
  obtain ⟨-, -, ⟨u, hu, ha, h5⟩, -⟩ := hK
  have hvm2 := ha.trans hvm
  have hh2 : ∀ q, q < u.heap.size → U.heap[q]? = u.heap[q]? := fun q hq => by rw [hu] at hq ⊢; exact hh q hq
  have i0 := h5 (.initialized Bundle.tN) (by simp [vd_TW])
  intro w hw
  simp only [vd_TW, List.mem_cons, List.not_mem_nil, or_false] at hw
  rcases hw with rfl | rfl | rfl | rfl | rfl
  · exact vd_laysS hvm2 hh2 (h5 _ (by simp [vd_TW]))
  · exact vd_laysS hvm2 hh2 (h5 _ (by simp [vd_TW]))
  · exact vd_isRefS hvm2 hh2 (h5 _ (by simp [vd_TW])) i0 (h5 _ (by simp [vd_TW]))
  · exact vd_isRefS hvm2 hh2 (h5 _ (by simp [vd_TW])) i0 (h5 _ (by simp [vd_TW]))
  · exact hini
end VDT
/-- what the tables must say of a throw -/
def vd_TOK (P : vd_P) : Prop := ∀ (k pc : Nat) (i : Instr) (len a b : Nat) (cv : Value), P.1 k pc = some (i, len, 7, a, b, cv) → P.2.2.2 k = [] ∧ Cond.initialized Bundle.tN ∈ vd_tb ∧ ∃ (idx : Nat) (X : String) (T : u_T) (names : List String), i = .new idx ∧ len = 3 ∧ vd_cls[a]? = some (X, T, 0) ∧ a < 32 ∧ Cond.classLink (P.2.1 k).1.cls idx X ∈ vd_tb ∧ Cond.instantiable X 6 ∈ vd_tb ∧ Cond.initialized X ∈ vd_tb ∧ Bundle.fit X = true ∧ (∀ n ∈ names, Bundle.fit n = true) ∧ names.length = 2 ∧ (∀ w ∈ Bundle.ownAtoms0 (P.2.1 k).1.cls b X names, w ∈ vd_tb ∨ w ∈ vd_TW) ∧ decode (P.2.1 k).2.1 (pc + 3) = .ok (.dup, 1) ∧ decode (P.2.1 k).2.1 (pc + 4) = .ok (.invokespecial b, 3) ∧ decode (P.2.1 k).2.1 (pc + 7) = .ok (.athrow, 1)
set_option maxHeartbeats 2000000 in
theorem vd_throwOK {P : vd_P} (hOK : vd_OK P) (hTK : vd_TOK P) : vd_ThrowOK P := by
  intro k pc i len a b cv he p l e R s m args below meth c H locs D z H0 L c0 s0 M st htr hFx hK hR hsz hlo hH0 hc0 hs0 hrc hrs hrf hrl hcs
  obtain ⟨hx, hb, hml, hret, hown, hts, hlk, hnm, hxt⟩ := hFx
  obtain ⟨hd0, -⟩ := hOK k pc _ he
  obtain ⟨hraw, hiT, idx, X, TT, names, rfl, rfl, hcl, ha, w1, w2, w3, f1, f2, f3, hat, d3, d4, d7⟩ := hTK k pc i len a b cv he
  simp only at hd0
  have hempty : c.exceptionTable.toList = [] := by
    rw [hraw] at hxt
    exact List.map_eq_nil_iff.mp hxt
  intro T hT XX
  have hcb : vd_c M - c0 ≤ R.cells := by omega
  have hsb : vd_s M - s0 ≤ R.slots := by omega
  obtain ⟨X2, hbk⟩ := vd_rebase XX hcb hsb
  have hW2 : s.WarmedH (T.setFrames (.invoking m args :: below)).vm := XX.warmed
  have hts2 : ∀ w ∈ vd_tb, w.before args (T.setFrames (.invoking m args :: below)) = true := vd_hts hts hW2 args
  have hh2 : (T.setFrames (.invoking m args :: below)).heap = H := hT
  have hK2 : vd_KW D z H0 (T.setFrames (.invoking m args :: below)) := hK.moved hW2.alike
  have hown2 : (T.setFrames (.invoking m args :: below)).vm.findClass (P.2.1 k).1.cls = some m.cls := by rw [hW2.alike.findClass]; exact hown
  have hTW := vd_TWok (args := args) hK (U := T.setFrames (.invoking m args :: below)) hW2.alike (fun q hq => by rw [hh2]; exact hR.2.2.1 q hq) (hts2 _ hiT)
  have hatoms : ∀ w ∈ Bundle.ownAtoms0 (P.2.1 k).1.cls b X names, w.before args (T.setFrames (.invoking m args :: below)) = true := fun w hw => (hat w hw).elim (hts2 w) (hTW w)
  have hKn := hK2.1.1 a _ hcl
  generalize hs2 : T.setFrames (.invoking m args :: below) = s2 at *
  have hW : W p l e { frames := R.frames, cells := R.cells - (vd_c M - c0), slots := R.slots - (vd_s M - s0), locals := R.locals } s2 m args below meth c H [] 0 0 (vd_Z below D z H0 (.inr (vd_n M)) (vd_new M a 0 6) s (vd_c M + 1 - c0) (vd_s M + 6 - s0)) (F0 m pc L (st.map (vd_cc (vd_ad z H0.size)))) := by
    refine W.newcK hx hb hown2 (hts2 _ w1) (hts2 _ w2) (hts2 _ w3) rfl hd0 (by show 0 + 1 ≤ R.cells - (vd_c M - c0); omega) (by show 0 + 6 ≤ R.slots - (vd_s M - s0); omega) hKn.2.1 rfl fun H1 kC hkC g1 z1 o1 => ?_
    refine lv_dup hx hb d3 rfl ?_
    intro T1 hT1 X1
    obtain ⟨U, u1, u2, u3, u4, u5, ce, u6, u7⟩ := X1.ctorThrow0 hx htr (own := (P.2.1 k).1.cls) (cls := X) (names := names) (ic := b) hown2 f1 f2 hatoms (fun x hx => by cases hx) (a := H.size) hKn.2.1 hkC (by rw [hT1]; exact g1) (by rw [hh2]; exact Nat.le_refl _)
      (g := F0 m (pc + 3 + 1) L (.ref H.size :: .ref H.size :: st.map (vd_cc (vd_ad z H0.size)))) rfl hsz rfl rfl rfl (by rw [hb]; exact d4) (by rw [hb]; exact d7) (fun x hx => by rw [hempty] at hx; cases hx) (by rw [f3]; show 2 + 3 < R.frames; omega) (by
        rw [f3]
        show 2 * 0 + (Value.category (.ref H.size) + ((st.map (vd_cc (vd_ad z H0.size))).map fun v => v.category).sum) + (13 * (2 + 1) + 41) ≤ R.locals
        rw [vd_cs_map]
        show 2 * 0 + (1 + vd_cs st) + (13 * (2 + 1) + 41) ≤ R.locals
        omega) hlk
    refine ⟨U, u1, .threw H.size, u2, u3, ?_, ?_, ?_, ?_⟩
    · show Outcome.threw H.size = .threw (vd_ad z H0.size (vd_n M))
      rw [vd_ad_n hR]
    · have hlt : H.size < U.heap.size := (Array.getElem?_eq_some_iff.mp u6).1
      have hle : U.heap.size ≤ s2.heap.size + (0 + 1) := u5.2.2.1
      have hold : ∀ q, q < H.size → U.heap[q]? = H[q]? := by
        intro q hq
        obtain ⟨cq, hcq⟩ : ∃ cq, H[q]? = some cq := ⟨_, Array.getElem?_eq_getElem hq⟩
        rw [hcq]
        exact State.sameButNew.old_cell u5 (by rw [hh2]; exact hcq)
      have hRs : vd_Rep D z H0 (vd_new M a 0 6) s U.heap := by
        refine hR.push (by rw [hh2] at hle; omega) hold (by omega) (Or.inr (Or.inl ⟨by rw [vd_new_k, if_pos rfl]; exact ha, _, by rw [vd_new_k, if_pos rfl]; exact hcl, ?_⟩))
        rw [vd_new_k, if_pos rfl, vd_ad_n hR]
        exact ⟨ce, u6, Option.some.inj (u7.cls.symm.trans hKn.2.1), u7.vm, fun j hj => absurd hj (Nat.not_lt_zero _)⟩
      exact hRs.moved (hW2.alike.trans u4.alike)
    · exact State.WarmedH.trans hW2 u4
    · have := hbk U [] (0 + 1) (0 + 6) u5
      rw [List.append_nil] at this
      refine ⟨locs, ?_, hlo⟩
      rw [show vd_c M + 1 - c0 = vd_c M - c0 + (0 + 1) by omega, show vd_s M + 6 - s0 = vd_s M - s0 + (0 + 6) by omega]
      exact this
  exact hW T hT X2
