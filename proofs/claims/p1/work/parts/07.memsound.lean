/-! ===== memory's instructions are sound ===== -/
/-- the rows of statics: class and name -/
def vd_zn (k : Nat) : String × String := match k with
  | 0 => ("VideoDecoder$Residue", "WAVE")
  | 1 => ("VideoDecoder$Residue", "SLOPES")
  | 2 => ("VideoDecoder$Residue", "BANDS")
  | 3 => ("VideoDecoder$Residue", "GRADES")
  | 4 => ("VideoDecoder$Motion", "SHARP_TAPS")
  | 5 => ("VideoDecoderModel", "G")
  | 6 => ("VideoDecoderModel", "SINES")
  | _ => ("VideoDecoderModel", "TAPS")
/-- what the tables say of classes, and where the rows of statics lie -/
def vd_TW : List Cond := [.laysStatic Bundle.tN "UNASSIGNED_STACK" Bundle.steD, .laysStatic Bundle.tN "SUPPRESSED_SENTINEL" Bundle.listD, .isRef (.static Bundle.tN "UNASSIGNED_STACK" Bundle.steD), .isRef (.static Bundle.tN "SUPPRESSED_SENTINEL" Bundle.listD), .initialized Bundle.tN]
/-- exceptions that are not of a class -/
def vd_NC (U : State) : Prop := ∀ q ∈ [("java/lang/IndexOutOfBoundsException", "java/util/NoSuchElementException"), ("java/lang/IllegalArgumentException", "java/util/NoSuchElementException"), ("java/lang/IllegalArgumentException", "java/lang/IndexOutOfBoundsException")], ∀ a b : ClassId, U.vm.findClass q.1 = some a → U.vm.findClass q.2 = some b → U.vm.assignable a b = false
theorem vd_NC.moved {u U : State} (hvm : u.vm.Alike U.vm) (h : vd_NC u) : vd_NC U := fun q hq a b h1 h2 => by
  rw [hvm.assignable]
  rw [hvm.findClass] at h1 h2
  exact h q hq a b h1 h2
def vd_KW (D : va_G) (z : Nat → Nat) (H0 : Heap) (U : State) : Prop := va_K D vd_cls [] U ∧ (∀ k, k < 8 → va_Z (vd_zn k).1 (vd_zn k).2 "[I" (.ref (z k)) (fun q : Nat => H0.size ≤ q) U H0) ∧ (∃ u : State, u.heap = H0 ∧ u.vm.Alike U.vm ∧ ∀ w ∈ vd_TW, w.before #[] u = true) ∧ vd_NC U
theorem vd_KW.moved {D : va_G} {z : Nat → Nat} {H0 : Heap} {u U : State} (hvm : u.vm.Alike U.vm) (h : vd_KW D z H0 u) : vd_KW D z H0 U := by
  obtain ⟨h1, h2, ⟨u0, h3, h4, h5⟩, h6⟩ := h
  exact ⟨h1.moved hvm, fun k hk => (h2 k hk).moved hvm, ⟨u0, h3, h4.trans hvm, h5⟩, h6.moved hvm⟩
/-- the words that memory's instructions ask for. fin: the method is the class's own constructor -/
def vd_lok (own : String) (i : Instr) (a b : Nat) (fin : Bool) : Prop := match i with
  | .getfield idx => ∃ r : vw_C, vd_cls[a]? = some r ∧ b < r.2.2 ∧ Cond.fieldLink own idx (r.2.1 b).1 (r.2.1 b).2.1 (r.2.1 b).2.2.1 ∈ vd_tb
  | .putfield idx => ∃ r : vw_C, vd_cls[a]? = some r ∧ b < r.2.2 ∧ Cond.fieldLink own idx (r.2.1 b).1 (r.2.1 b).2.1 (r.2.1 b).2.2.1 ∈ vd_tb ∧ ((r.2.1 b).2.2.2 = true → fin = true ∧ own = (r.2.1 b).1)
  | .getstatic idx => b < 8 ∧ Cond.fieldLink own idx (vd_zn b).1 (vd_zn b).2 "[I" ∈ vd_tb
  | _ => True
section VDM
variable {p : Program} {l : Launch} {e : Env} {R : Room} {s : State} {m : MethodId} {args : Array Value} {below : List Frame} {meth : Method} {c : Code} {H : Heap} {locs : List Loc} {cells slots : Nat} {Q : State → Prop}
variable {cc : ByteArray} {D : va_G} {z : Nat → Nat} {H0 : Heap} {M : vd_M} {own : String} {pc : Nat} {L : Array Slot}
theorem vd_new_lt {o : Nat} (hR : vd_Rep D z H0 M s H) (hk : vd_k M o ≠ 99) : o < vd_n M := by
  rcases Nat.lt_or_ge o (vd_n M) with h | h
  · exact h
  · exact absurd (hR.2.2.2.2.2.1 o h) hk
theorem vd_obj {o a : Nat} {r : vw_C} (hR : vd_Rep D z H0 M s H) (hk : vd_k M o = a) (hr : vd_cls[a]? = some r) : t_OB (vd_ad z H0.size o) (D.1 a) r.2.2 (D.2 a) H (vd_fv (vd_ad z H0.size) M o) ∧ 10 ≤ o := by
  have ha : a < 19 := by
    have := (List.getElem?_eq_some_iff.mp hr).1
    exact this
  rcases hR.2.2.2.2.2.2 o with g | ⟨g1, r', g2, g3⟩ | ⟨g1, -⟩
  · omega
  · rw [hk] at g2 g3
    cases g2.symm.trans hr
    refine ⟨g3, ?_⟩
    rcases Nat.lt_or_ge o 10 with h | h
    · exact (hR.2.2.2.2.1 o h g1).elim
    · exact h
  · omega
theorem vd_arrAt {o k : Nat} (hR : vd_Rep D z H0 M s H) (hk : vd_k M o = k) (h1 : 32 ≤ k) (h2 : k < 41) : vd_arr s H (vd_ad z H0.size o) (vd_aty k) (vd_l M o) (vd_ev (vd_ad z H0.size) M o) (9 ≤ o) (10 ≤ o) := by
  rcases hR.2.2.2.2.2.2 o with g | ⟨g1, -⟩ | ⟨-, -, g3⟩
  · omega
  · omega
  · rw [hk] at g3; exact g3
theorem vd_getfield (hx : p.tables.exec = Jvm.exec) (hb : c.code = cc) (hown : s.vm.findClass own = some m.cls) (hts : ∀ w ∈ vd_tb, w.before args s = true) (hK : va_K D vd_cls [] s) (hR : vd_Rep D z H0 M s H) {fin : Bool} {idx a b o : Nat} {rest : List Value} (hd : decode cc pc = .ok (.getfield idx, 3)) (hw : vd_lok own (.getfield idx) a b fin) (hk : vd_k M o = a)
    (kk : W p l e R s m args below meth c H locs cells slots Q (F0 m (pc + 3) L (vd_fv (vd_ad z H0.size) M o b :: rest))) : W p l e R s m args below meth c H locs cells slots Q (F0 m pc L (.ref (vd_ad z H0.size o) :: rest)) := by
  obtain ⟨r, hr, hbN, hlink⟩ := hw
  obtain ⟨hin, hty, hnm⟩ := vd_cls_ok a r hr
  obtain ⟨⟨cell, q1, q2, q3, q4⟩, -⟩ := vd_obj hR hk hr
  obtain ⟨hS, hfc, kC, hkC, hkind⟩ := hK.1 a _ hr
  obtain ⟨cf, kf, fi, f, hi, hsl⟩ := hS b hbN
  refine W.getf hx hb hown (hts _ hlink) hi (u_facts hfc hkC (u_lays hts hin hbN) hi).1 q1 (by rw [q3]; exact fun h => by cases h) (v := vd_fv (vd_ad z H0.size) M o b) ?_ rfl rfl hd kk
  rw [hsl, q4 b hbN]
theorem vd_apartC (hts : ∀ w ∈ vd_tb, w.before args s = true) (hK : va_K D vd_cls [] s) {a : Nat} {r : vw_C} (hr : vd_cls[a]? = some r) : ∀ x y, x < r.2.2 → y < r.2.2 → x ≠ y → D.2 a x ≠ D.2 a y := by
  obtain ⟨hin, hty, hnm⟩ := vd_cls_ok a r hr
  exact va_apart (own := "") hts hin (vd_fty a) hty hnm hK hr
theorem vd_putfield (hx : p.tables.exec = Jvm.exec) (hb : c.code = cc) (hown : s.vm.findClass own = some m.cls) (hts : ∀ w ∈ vd_tb, w.before args s = true) (hK : va_K D vd_cls [] s) (hR : vd_Rep D z H0 M s H) {fin : Bool} (hfin : fin = true → meth.name = "<init>") (hlo : ∀ q ∈ locs, H0.size ≤ q.base) {idx a b o : Nat} {v : Value} {rest : List Value} (hd : decode cc pc = .ok (.putfield idx, 3)) (hw : vd_lok own (.putfield idx) a b fin) (hk : vd_k M o = a) (hn : narrow (vd_fty a b) v = v) (hfit : fits (vd_fty a b) v = true)
    {M' : vd_M} (e1 : vd_n M' = vd_n M) (e2 : ∀ q, vd_k M' q = vd_k M q) (e3 : ∀ q, vd_l M' q = vd_l M q) (e4 : ∀ q, q ≠ o → ∀ j, vd_i M' q j = vd_i M q j) (e5 : ∀ q, q ≠ o → ∀ j, vd_r M' q j = vd_r M q j) (e6 : ∀ q, q ≠ o → ∀ j, vd_j M' q j = vd_j M q j) (e7 : vd_fv (vd_ad z H0.size) M' o b = v) (e8 : ∀ j, j ≠ b → vd_fv (vd_ad z H0.size) M' o j = vd_fv (vd_ad z H0.size) M o j)
    (kk : ∀ (H' : Heap) (locs' : List Loc), vd_Rep D z H0 M' s H' → (∀ q ∈ locs', H0.size ≤ q.base) → W p l e R s m args below meth c H' locs' cells slots Q (F0 m (pc + 3) L rest)) : W p l e R s m args below meth c H locs cells slots Q (F0 m pc L (v :: .ref (vd_ad z H0.size o) :: rest)) := by
  obtain ⟨r, hr, hbN, hlink, hf⟩ := hw
  obtain ⟨hin, hty, hnm⟩ := vd_cls_ok a r hr
  obtain ⟨⟨cell, q1, q2, q3, q4⟩, h10⟩ := vd_obj hR hk hr
  obtain ⟨hS, hfc, kC, hkC, hkind⟩ := hK.1 a _ hr
  obtain ⟨cf, kf, fi, f, hi, hsl⟩ := hS b hbN
  have hap := vd_apartC hts hK hr
  have hst := (u_facts hfc hkC (u_lays hts hin hbN) hi).1
  have hlay := hts _ (hin _ (u_in_lay hbN))
  have hd2 := hty b hbN
  have hbase : H0.size ≤ vd_ad z H0.size o := by unfold vd_ad; rw [if_neg (by omega)]; omega
  have hfinish : ∀ (H' : Heap), H'[vd_ad z H0.size o]? = some (cell.setSlot (D.2 a b) v) → H'.size = H.size → (∀ q, q ≠ vd_ad z H0.size o → H'[q]? = H[q]?) → W p l e R s m args below meth c H' (locs ++ [⟨vd_ad z H0.size o, D.2 a b⟩]) cells slots Q (F0 m (pc + 3) L rest) := by
    intro H' g1 g2 g3
    refine kk H' _ (hR.write h10 e1 e2 e3 e4 e5 e6 g2 g3 (Or.inr (Or.inl ⟨?_, r, ?_, ?_⟩))) (fun q hq => ?_)
    · rw [e2, hk]; have := (List.getElem?_eq_some_iff.mp hr).1; exact Nat.lt_trans this (by decide)
    · rw [e2, hk]; exact hr
    · rw [e2, hk]
      refine t_OB.to (V := updV (vd_fv (vd_ad z H0.size) M o) b v) ⟨_, g1, q2, q3, t_set q4 hap hbN v⟩ (fun j _ => ?_)
      unfold updV
      by_cases ej : j = b
      · rw [if_pos ej, ej, e7]
      · rw [if_neg ej, e8 j ej]
    · rcases List.mem_append.mp hq with h | h
      · exact hlo q h
      · rw [List.mem_singleton.mp h]; exact hbase
  by_cases hF : (r.2.1 b).2.2.2 = true
  · obtain ⟨ff, fo⟩ := hf hF
    unfold u_lay at hlay
    rw [if_pos hF] at hlay
    have hcf : m.cls = cf := by
      obtain ⟨_, _, c', _, _, _, -, -, hf', -, -, -, hown2, -⟩ := Cond.laysFinal_spec hlay
      have e1 : c' = cf := by have := hi.symm.trans hf'; simp at this; exact this.1.symm
      rw [← fo] at hown2
      rw [← e1]; exact Option.some.inj (hown.symm.trans hown2)
    have h6 := u_fits hfc hkC hkind (Or.inr hlay) hi hd2 hn hfit
    refine W.putFinK hx hb hown (hts _ hlink) hi hst hcf (hfin ff) (by rw [q2]; exact h6) q1 q3 (by rw [hsl]; exact k2_hasslot (q4 b hbN)) rfl rfl hd fun H' g1 g2 g3 => ?_
    rw [hsl] at g1 ⊢
    exact hfinish H' g1 g2 g3
  · unfold u_lay at hlay
    rw [if_neg hF] at hlay
    have h6 := u_store hfc hkC hkind hlay hi hd2 hn hfit
    refine W.putK hx hb (f := f) ⟨hown, hts _ hlink, ⟨_, _, _, hi⟩, hst⟩ (by rw [q2]; exact h6) q1 q3 (by rw [hsl]; exact k2_hasslot (q4 b hbN)) rfl rfl hd fun H' g1 g2 g3 => ?_
    rw [hsl] at g1 ⊢
    exact hfinish H' g1 g2 g3
theorem vd_getstatic (hx : p.tables.exec = Jvm.exec) (hb : c.code = cc) (hown : s.vm.findClass own = some m.cls) (hts : ∀ w ∈ vd_tb, w.before args s = true) (hK : vd_KW D z H0 s) (hR : vd_Rep D z H0 M s H) {fin : Bool} {idx a b : Nat} {rest : List Value} (hd : decode cc pc = .ok (.getstatic idx, 3)) (hw : vd_lok own (.getstatic idx) a b fin)
    (kk : W p l e R s m args below meth c H locs cells slots Q (F0 m (pc + 3) L (.ref (vd_ad z H0.size b) :: rest))) : W p l e R s m args below meth c H locs cells slots Q (F0 m pc L rest) := by
  obtain ⟨hb8, hlink⟩ := hw
  obtain ⟨cf, kf, fi, f, a, cell, h1, h2, h3, h4, h5, h6, h7, h8⟩ := hK.2.1 b hb8
  have e : vd_ad z H0.size b = z b := by unfold vd_ad; rw [if_pos (by omega)]
  rw [e] at kk
  exact W.gets hx hb hown (hts _ hlink) h1 h2 h3 h4 (by rw [hR.2.2.1 a (Nat.not_le.mp h8)]; exact h5) (fun e => by rw [e] at h6; cases h6) h7 rfl hd kk
theorem vd_si_ne {M : vd_M} {o i : Nat} {v : Int32} {a b : Nat} (h : ¬ (a = o ∧ b = i)) : vd_i (vd_si M o i v) a b = vd_i M a b := by rw [vd_si_i, if_neg h]
theorem vd_sr_ne {M : vd_M} {o i : Nat} {v : Option Nat} {a b : Nat} (h : ¬ (a = o ∧ b = i)) : vd_r (vd_sr M o i v) a b = vd_r M a b := by rw [vd_sr_r, if_neg h]
theorem vd_sj_ne {M : vd_M} {o i : Nat} {v : Int64} {a b : Nat} (h : ¬ (a = o ∧ b = i)) : vd_j (vd_sj M o i v) a b = vd_j M a b := by rw [vd_sj_j, if_neg h]
theorem vd_base {o : Nat} (h : 10 ≤ o) : H0.size ≤ vd_ad z H0.size o := by unfold vd_ad; rw [if_neg (by omega)]; omega
theorem vd_lo1 {a k : Nat} (hlo : ∀ q ∈ locs, H0.size ≤ q.base) (h : H0.size ≤ a) : ∀ q ∈ locs ++ [(⟨a, k⟩ : Loc)], H0.size ≤ q.base := by
  intro q hq
  rcases List.mem_append.mp hq with g | g
  · exact hlo q g
  · rw [List.mem_singleton.mp g]; exact h
/-- behind a store into an array -/
theorem vd_Rep.put {o k : Nat} {M' : vd_M} {H' : Heap} {cell : Cell} {v : Value} {n : Nat} (hR : vd_Rep D z H0 M s H) (ho : 10 ≤ o) (hk : vd_k M o = n) (hn1 : 32 ≤ n) (hn2 : n < 41) (h1 : H[vd_ad z H0.size o]? = some cell) (h2 : s.isArrayOf cell (vd_aty n)) (h3 : cell.vm ≠ .unknown) (h4 : vd_l M o ≤ cell.slots.size) (h5 : 9 ≤ o → cell.slots.size = vd_l M o) (h6 : ∀ j : Nat, j < vd_l M o → cell.slots[j]? = some (vd_ev (vd_ad z H0.size) M o j)) (h7 : 10 ≤ o → vd_RA s cell.cls (vd_aty n))
    (hkl : k < vd_l M o) (e1 : vd_n M' = vd_n M) (e2 : ∀ q, vd_k M' q = vd_k M q) (e3 : ∀ q, vd_l M' q = vd_l M q) (e4 : ∀ q, q ≠ o → ∀ j, vd_i M' q j = vd_i M q j) (e5 : ∀ q, q ≠ o → ∀ j, vd_r M' q j = vd_r M q j) (e6 : ∀ q, q ≠ o → ∀ j, vd_j M' q j = vd_j M q j)
    (e7 : vd_ev (vd_ad z H0.size) M' o k = v) (e8 : ∀ j, j ≠ k → vd_ev (vd_ad z H0.size) M' o j = vd_ev (vd_ad z H0.size) M o j) (g1 : H'[vd_ad z H0.size o]? = some (cell.setSlot k v)) (g2 : H'.size = H.size) (g3 : ∀ q, q ≠ vd_ad z H0.size o → H'[q]? = H[q]?) : vd_Rep D z H0 M' s H' := by
  refine hR.write ho e1 e2 e3 e4 e5 e6 g2 g3 (Or.inr (Or.inr ⟨by rw [e2, hk]; exact hn1, by rw [e2, hk]; exact hn2, ?_⟩))
  rw [e2, hk, e3]
  exact vd_arr.put h1 h2 h3 h4 h5 h6 h7 hkl g1 e7 (fun j _ hj => e8 j hj)
theorem vd_ev_int {ad : Nat → Nat} {o j : Nat} (h : vd_k M o < 35) : vd_ev ad M o j = .int (vd_i M o j) := by
  unfold vd_ev
  rw [if_neg (by omega), if_pos h]
theorem vd_ev_ref {ad : Nat → Nat} {o j : Nat} (h : 36 ≤ vd_k M o) : vd_ev ad M o j = vd_cc ad (vd_vr (vd_r M o j)) := by
  unfold vd_ev
  rw [if_neg (by omega), if_neg (by omega)]
theorem vd_ev_long {ad : Nat → Nat} {o j : Nat} (h : vd_k M o = 35) : vd_ev ad M o j = .long (vd_j M o j) := by
  unfold vd_ev
  rw [if_pos h]
theorem vd_fv_int {ad : Nat → Nat} {o b : Nat} (h : vd_isr (vd_fty (vd_k M o) b) = false) : vd_fv ad M o b = .int (vd_i M o b) := by
  unfold vd_fv
  rw [h]; rfl
theorem vd_fv_ref {ad : Nat → Nat} {o b : Nat} (h : vd_isr (vd_fty (vd_k M o) b) = true) : vd_fv ad M o b = vd_cc ad (vd_vr (vd_r M o b)) := by
  unfold vd_fv
  rw [if_pos h]
theorem vd_fok_spec {ty : FieldType} {x : Int32} (h : vd_fok ty x = true) : narrow ty (.int x) = .int x ∧ fits ty (.int x) = true ∧ vd_isr ty = false := by
  cases ty with
  | int => exact ⟨rfl, rfl, rfl⟩
  | boolean =>
    simp only [vd_fok, Bool.or_eq_true, beq_iff_eq] at h
    rcases h with rfl | rfl
    · exact ⟨rfl, rfl, rfl⟩
    · exact ⟨rfl, rfl, rfl⟩
  | _ => cases h
theorem vd_isr_spec {ty : FieldType} (h : vd_isr ty = true) : (∀ a, narrow ty (.ref a) = .ref a ∧ fits ty (.ref a) = true) ∧ narrow ty .null = .null ∧ fits ty .null = true := by
  cases ty with
  | object C => exact ⟨fun a => ⟨rfl, rfl⟩, rfl, rfl⟩
  | array t => exact ⟨fun a => ⟨rfl, rfl⟩, rfl, rfl⟩
  | _ => cases h
variable {a b len : Nat} {st st' : List Value} {M' : vd_M} {fin : Bool}
theorem vd_aty_ref {k : Nat} (h : 36 ≤ k) : (vd_aty k).isReference = true := by
  unfold vd_aty
  split <;> first | rfl | omega
theorem vd_mm_getfield (hx : p.tables.exec = Jvm.exec) (hb : c.code = cc) (hown : s.vm.findClass own = some m.cls) (hts : ∀ w ∈ vd_tb, w.before args s = true) (hK : vd_KW D z H0 s) (hR : vd_Rep D z H0 M s H) (hfin : fin = true → meth.name = "<init>") (hlo : ∀ q ∈ locs, H0.size ≤ q.base) {idx : Nat} (hd : decode cc pc = .ok (.getfield idx, len)) (ht : vd_tok (.getfield idx) pc len = true) (hw : vd_lok own (.getfield idx) a b fin) (h : vd_mm (.getfield idx) a b st M = some (st', M'))
    (kk : ∀ (H' : Heap) (locs' : List Loc), vd_Rep D z H0 M' s H' → (∀ q ∈ locs', H0.size ≤ q.base) → W p l e R s m args below meth c H' locs' cells slots Q (F0 m (pc + len) L (st'.map (vd_cc (vd_ad z H0.size))))) : W p l e R s m args below meth c H locs cells slots Q (F0 m pc L (st.map (vd_cc (vd_ad z H0.size)))) := by
  simp only [vd_tok, beq_iff_eq] at ht
  subst ht
  simp only [vd_mm] at h
  split at h
  · rename_i o st
    split at h
    · rename_i hk
      have e : vd_fv (vd_ad z H0.size) M o b :: st.map (vd_cc (vd_ad z H0.size)) = st'.map (vd_cc (vd_ad z H0.size)) ∧ M' = M := by
        split at h
        · rename_i hr
          simp only [Option.some.injEq, Prod.mk.injEq] at h
          obtain ⟨rfl, rfl⟩ := h
          exact ⟨by rw [vd_fv_ref (by rw [hk]; exact hr)]; rfl, rfl⟩
        · rename_i hr
          simp only [Option.some.injEq, Prod.mk.injEq] at h
          obtain ⟨rfl, rfl⟩ := h
          exact ⟨by rw [vd_fv_int (by rw [hk]; simpa using hr)]; rfl, rfl⟩
      obtain ⟨e1, rfl⟩ := e
      have k1 := kk H locs hR hlo
      rw [← e1] at k1
      exact vd_getfield hx hb hown hts hK.1 hR hd hw hk k1
    · cases h
  · cases h
theorem vd_mm_putfield (hx : p.tables.exec = Jvm.exec) (hb : c.code = cc) (hown : s.vm.findClass own = some m.cls) (hts : ∀ w ∈ vd_tb, w.before args s = true) (hK : vd_KW D z H0 s) (hR : vd_Rep D z H0 M s H) (hfin : fin = true → meth.name = "<init>") (hlo : ∀ q ∈ locs, H0.size ≤ q.base) {idx : Nat} (hd : decode cc pc = .ok (.putfield idx, len)) (ht : vd_tok (.putfield idx) pc len = true) (hw : vd_lok own (.putfield idx) a b fin) (h : vd_mm (.putfield idx) a b st M = some (st', M'))
    (kk : ∀ (H' : Heap) (locs' : List Loc), vd_Rep D z H0 M' s H' → (∀ q ∈ locs', H0.size ≤ q.base) → W p l e R s m args below meth c H' locs' cells slots Q (F0 m (pc + len) L (st'.map (vd_cc (vd_ad z H0.size))))) : W p l e R s m args below meth c H locs cells slots Q (F0 m pc L (st.map (vd_cc (vd_ad z H0.size)))) := by
  simp only [vd_tok, beq_iff_eq] at ht
  subst ht
  simp only [vd_mm] at h
  split at h
  · rename_i x o st
    split at h
    · rename_i hk
      obtain ⟨hk, hf⟩ := hk
      obtain ⟨f1, f2, f3⟩ := vd_fok_spec hf
      simp only [Option.some.injEq, Prod.mk.injEq] at h
      obtain ⟨rfl, rfl⟩ := h
      refine vd_putfield (M' := vd_si M o b x) hx hb hown hts hK.1 hR hfin hlo hd hw hk f1 f2 rfl (fun _ => rfl) (fun _ => rfl) (fun q hq j => ?_) (fun _ _ _ => rfl) (fun _ _ _ => rfl) ?_ (fun j hj => ?_) kk
      · rw [vd_si_i, if_neg (fun w => hq w.1)]
      · rw [vd_fv_int (by show vd_isr (vd_fty (vd_k M o) b) = false; rw [hk]; exact f3), vd_si_i, if_pos ⟨rfl, rfl⟩]; rfl
      · unfold vd_fv
        rw [vd_si_ne (fun w => hj w.2)]
        rfl
    · cases h
  · rename_i v o st
    split at h
    · rename_i hk
      obtain ⟨hk, hf⟩ := hk
      obtain ⟨f1, f2⟩ := vd_isr_spec hf
      simp only [Option.some.injEq, Prod.mk.injEq] at h
      obtain ⟨rfl, rfl⟩ := h
      refine vd_putfield (M' := vd_sr M o b (some v)) hx hb hown hts hK.1 hR hfin hlo hd hw hk (f1 _).1 (f1 _).2 rfl (fun _ => rfl) (fun _ => rfl) (fun _ _ _ => rfl) (fun q hq j => ?_) (fun _ _ _ => rfl) ?_ (fun j hj => ?_) kk
      · rw [vd_sr_r, if_neg (fun w => hq w.1)]
      · rw [vd_fv_ref (by show vd_isr (vd_fty (vd_k M o) b) = true; rw [hk]; exact hf), vd_sr_r, if_pos ⟨rfl, rfl⟩]; rfl
      · unfold vd_fv
        rw [vd_sr_ne (fun w => hj w.2)]
        rfl
    · cases h
  · rename_i o st
    split at h
    · rename_i hk
      obtain ⟨hk, hf⟩ := hk
      obtain ⟨f1, f2⟩ := vd_isr_spec hf
      simp only [Option.some.injEq, Prod.mk.injEq] at h
      obtain ⟨rfl, rfl⟩ := h
      refine vd_putfield (M' := vd_sr M o b none) hx hb hown hts hK.1 hR hfin hlo hd hw hk f2.1 f2.2 rfl (fun _ => rfl) (fun _ => rfl) (fun _ _ _ => rfl) (fun q hq j => ?_) (fun _ _ _ => rfl) ?_ (fun j hj => ?_) kk
      · rw [vd_sr_r, if_neg (fun w => hq w.1)]
      · rw [vd_fv_ref (by show vd_isr (vd_fty (vd_k M o) b) = true; rw [hk]; exact hf), vd_sr_r, if_pos ⟨rfl, rfl⟩]; rfl
      · unfold vd_fv
        rw [vd_sr_ne (fun w => hj w.2)]
        rfl
    · cases h
  · cases h
theorem vd_mm_getstatic (hx : p.tables.exec = Jvm.exec) (hb : c.code = cc) (hown : s.vm.findClass own = some m.cls) (hts : ∀ w ∈ vd_tb, w.before args s = true) (hK : vd_KW D z H0 s) (hR : vd_Rep D z H0 M s H) (hfin : fin = true → meth.name = "<init>") (hlo : ∀ q ∈ locs, H0.size ≤ q.base) {idx : Nat} (hd : decode cc pc = .ok (.getstatic idx, len)) (ht : vd_tok (.getstatic idx) pc len = true) (hw : vd_lok own (.getstatic idx) a b fin) (h : vd_mm (.getstatic idx) a b st M = some (st', M'))
    (kk : ∀ (H' : Heap) (locs' : List Loc), vd_Rep D z H0 M' s H' → (∀ q ∈ locs', H0.size ≤ q.base) → W p l e R s m args below meth c H' locs' cells slots Q (F0 m (pc + len) L (st'.map (vd_cc (vd_ad z H0.size))))) : W p l e R s m args below meth c H locs cells slots Q (F0 m pc L (st.map (vd_cc (vd_ad z H0.size)))) := by
  simp only [vd_tok, beq_iff_eq] at ht
  subst ht
  simp only [vd_mm] at h
  simp only [Option.some.injEq, Prod.mk.injEq] at h
  obtain ⟨rfl, rfl⟩ := h
  exact vd_getstatic hx hb hown hts hK hR hd hw (kk H locs hR hlo)
theorem vd_mm_arraylength (hx : p.tables.exec = Jvm.exec) (hb : c.code = cc) (hown : s.vm.findClass own = some m.cls) (hts : ∀ w ∈ vd_tb, w.before args s = true) (hK : vd_KW D z H0 s) (hR : vd_Rep D z H0 M s H) (hfin : fin = true → meth.name = "<init>") (hlo : ∀ q ∈ locs, H0.size ≤ q.base) (hd : decode cc pc = .ok (.arraylength, len)) (ht : vd_tok (.arraylength) pc len = true) (hw : vd_lok own (.arraylength) a b fin) (h : vd_mm (.arraylength) a b st M = some (st', M'))
    (kk : ∀ (H' : Heap) (locs' : List Loc), vd_Rep D z H0 M' s H' → (∀ q ∈ locs', H0.size ≤ q.base) → W p l e R s m args below meth c H' locs' cells slots Q (F0 m (pc + len) L (st'.map (vd_cc (vd_ad z H0.size))))) : W p l e R s m args below meth c H locs cells slots Q (F0 m pc L (st.map (vd_cc (vd_ad z H0.size)))) := by
  simp only [vd_tok, beq_iff_eq] at ht
  subst ht
  simp only [vd_mm] at h
  split at h
  · rename_i o st
    split at h
    · rename_i hk
      obtain ⟨ho, hk1, hk2⟩ := hk
      simp only [Option.some.injEq, Prod.mk.injEq] at h
      obtain ⟨rfl, rfl⟩ := h
      obtain ⟨cell, h1, h2, h3, h4, h5, h6, h7⟩ := vd_arrAt hR rfl hk1 hk2
      exact W.alen hx hb h1 h2 (n := Int32.ofNat (vd_l M o)) (by rw [h5 ho]) rfl rfl hd (kk H locs hR hlo)
    · cases h
  · cases h
theorem vd_mm_iaload (hx : p.tables.exec = Jvm.exec) (hb : c.code = cc) (hown : s.vm.findClass own = some m.cls) (hts : ∀ w ∈ vd_tb, w.before args s = true) (hK : vd_KW D z H0 s) (hR : vd_Rep D z H0 M s H) (hfin : fin = true → meth.name = "<init>") (hlo : ∀ q ∈ locs, H0.size ≤ q.base) (hd : decode cc pc = .ok (.iaload, len)) (ht : vd_tok (.iaload) pc len = true) (hw : vd_lok own (.iaload) a b fin) (h : vd_mm (.iaload) a b st M = some (st', M'))
    (kk : ∀ (H' : Heap) (locs' : List Loc), vd_Rep D z H0 M' s H' → (∀ q ∈ locs', H0.size ≤ q.base) → W p l e R s m args below meth c H' locs' cells slots Q (F0 m (pc + len) L (st'.map (vd_cc (vd_ad z H0.size))))) : W p l e R s m args below meth c H locs cells slots Q (F0 m pc L (st.map (vd_cc (vd_ad z H0.size)))) := by
  simp only [vd_tok, beq_iff_eq] at ht
  subst ht
  simp only [vd_mm] at h
  split at h
  · rename_i j o st
    split at h
    · rename_i hk
      obtain ⟨hk, hj⟩ := hk
      simp only [Option.some.injEq, Prod.mk.injEq] at h
      obtain ⟨rfl, rfl⟩ := h
      have hlt : j.toNatClampNeg < vd_l M o := Nat.not_le.mp fun q => hj (Or.inr q)
      obtain ⟨cell, h1, h2, h3, h4, h5, h6, h7⟩ := vd_arrAt hR hk (by decide) (by decide)
      exact W.iald hx hb h1 h2 h3 (fun q => hj (q.imp id (fun w => Nat.le_trans h4 w))) ((h6 _ hlt).trans (by rw [vd_ev_int (by omega)]; rfl)) rfl rfl hd (kk H locs hR hlo)
    · cases h
  · cases h
theorem vd_mm_laload (hx : p.tables.exec = Jvm.exec) (hb : c.code = cc) (hown : s.vm.findClass own = some m.cls) (hts : ∀ w ∈ vd_tb, w.before args s = true) (hK : vd_KW D z H0 s) (hR : vd_Rep D z H0 M s H) (hfin : fin = true → meth.name = "<init>") (hlo : ∀ q ∈ locs, H0.size ≤ q.base) (hd : decode cc pc = .ok (.laload, len)) (ht : vd_tok (.laload) pc len = true) (hw : vd_lok own (.laload) a b fin) (h : vd_mm (.laload) a b st M = some (st', M'))
    (kk : ∀ (H' : Heap) (locs' : List Loc), vd_Rep D z H0 M' s H' → (∀ q ∈ locs', H0.size ≤ q.base) → W p l e R s m args below meth c H' locs' cells slots Q (F0 m (pc + len) L (st'.map (vd_cc (vd_ad z H0.size))))) : W p l e R s m args below meth c H locs cells slots Q (F0 m pc L (st.map (vd_cc (vd_ad z H0.size)))) := by
  simp only [vd_tok, beq_iff_eq] at ht
  subst ht
  simp only [vd_mm] at h
  split at h
  · rename_i j o st
    split at h
    · rename_i hk
      obtain ⟨hk, hj⟩ := hk
      simp only [Option.some.injEq, Prod.mk.injEq] at h
      obtain ⟨rfl, rfl⟩ := h
      have hlt : j.toNatClampNeg < vd_l M o := Nat.not_le.mp fun q => hj (Or.inr q)
      obtain ⟨cell, h1, h2, h3, h4, h5, h6, h7⟩ := vd_arrAt hR hk (by decide) (by decide)
      exact W.lald hx hb h1 h2 h3 (fun q => hj (q.imp id (fun w => Nat.le_trans h4 w))) ((h6 _ hlt).trans (by rw [vd_ev_long hk]; rfl)) rfl rfl hd (kk H locs hR hlo)
    · cases h
  · cases h
theorem vd_mm_baload (hx : p.tables.exec = Jvm.exec) (hb : c.code = cc) (hown : s.vm.findClass own = some m.cls) (hts : ∀ w ∈ vd_tb, w.before args s = true) (hK : vd_KW D z H0 s) (hR : vd_Rep D z H0 M s H) (hfin : fin = true → meth.name = "<init>") (hlo : ∀ q ∈ locs, H0.size ≤ q.base) (hd : decode cc pc = .ok (.baload, len)) (ht : vd_tok (.baload) pc len = true) (hw : vd_lok own (.baload) a b fin) (h : vd_mm (.baload) a b st M = some (st', M'))
    (kk : ∀ (H' : Heap) (locs' : List Loc), vd_Rep D z H0 M' s H' → (∀ q ∈ locs', H0.size ≤ q.base) → W p l e R s m args below meth c H' locs' cells slots Q (F0 m (pc + len) L (st'.map (vd_cc (vd_ad z H0.size))))) : W p l e R s m args below meth c H locs cells slots Q (F0 m pc L (st.map (vd_cc (vd_ad z H0.size)))) := by
  simp only [vd_tok, beq_iff_eq] at ht
  subst ht
  simp only [vd_mm] at h
  split at h
  · rename_i j o st
    split at h
    · rename_i hk
      obtain ⟨hk, hj⟩ := hk
      simp only [Option.some.injEq, Prod.mk.injEq] at h
      obtain ⟨rfl, rfl⟩ := h
      have hlt : j.toNatClampNeg < vd_l M o := Nat.not_le.mp fun q => hj (Or.inr q)
      rcases hk with hk | hk
      · obtain ⟨cell, h1, h2, h3, h4, h5, h6, h7⟩ := vd_arrAt hR hk (by decide) (by decide)
        exact W.bald hx hb h1 h2 h3 (fun q => hj (q.imp id (fun w => Nat.le_trans h4 w))) ((h6 _ hlt).trans (by rw [vd_ev_int (by omega)]; rfl)) rfl rfl hd (kk H locs hR hlo)
      · obtain ⟨cell, h1, h2, h3, h4, h5, h6, h7⟩ := vd_arrAt hR hk (by decide) (by decide)
        exact W.zald hx hb h1 h2 h3 (fun q => hj (q.imp id (fun w => Nat.le_trans h4 w))) ((h6 _ hlt).trans (by rw [vd_ev_int (by omega)]; rfl)) rfl rfl hd (kk H locs hR hlo)
    · cases h
  · cases h
theorem vd_mm_aaload (hx : p.tables.exec = Jvm.exec) (hb : c.code = cc) (hown : s.vm.findClass own = some m.cls) (hts : ∀ w ∈ vd_tb, w.before args s = true) (hK : vd_KW D z H0 s) (hR : vd_Rep D z H0 M s H) (hfin : fin = true → meth.name = "<init>") (hlo : ∀ q ∈ locs, H0.size ≤ q.base) (hd : decode cc pc = .ok (.aaload, len)) (ht : vd_tok (.aaload) pc len = true) (hw : vd_lok own (.aaload) a b fin) (h : vd_mm (.aaload) a b st M = some (st', M'))
    (kk : ∀ (H' : Heap) (locs' : List Loc), vd_Rep D z H0 M' s H' → (∀ q ∈ locs', H0.size ≤ q.base) → W p l e R s m args below meth c H' locs' cells slots Q (F0 m (pc + len) L (st'.map (vd_cc (vd_ad z H0.size))))) : W p l e R s m args below meth c H locs cells slots Q (F0 m pc L (st.map (vd_cc (vd_ad z H0.size)))) := by
  simp only [vd_tok, beq_iff_eq] at ht
  subst ht
  simp only [vd_mm] at h
  split at h
  · rename_i j o st
    split at h
    · rename_i hk
      obtain ⟨hk, hj⟩ := hk
      simp only [Option.some.injEq, Prod.mk.injEq] at h
      obtain ⟨rfl, rfl⟩ := h
      have hlt : j.toNatClampNeg < vd_l M o := Nat.not_le.mp fun q => hj (Or.inr q)
      obtain ⟨cell, h1, h2, h3, h4, h5, h6, h7⟩ := vd_arrAt hR rfl (by omega) hk.2
      exact W.aald hx hb h1 h2 (vd_aty_ref hk.1) h3 (fun q => hj (q.imp id (fun w => Nat.le_trans h4 w))) ((h6 _ hlt).trans (by rw [vd_ev_ref hk.1])) rfl rfl hd (kk H locs hR hlo)
    · cases h
  · cases h
theorem vd_mm_iastore (hx : p.tables.exec = Jvm.exec) (hb : c.code = cc) (hown : s.vm.findClass own = some m.cls) (hts : ∀ w ∈ vd_tb, w.before args s = true) (hK : vd_KW D z H0 s) (hR : vd_Rep D z H0 M s H) (hfin : fin = true → meth.name = "<init>") (hlo : ∀ q ∈ locs, H0.size ≤ q.base) (hd : decode cc pc = .ok (.iastore, len)) (ht : vd_tok (.iastore) pc len = true) (hw : vd_lok own (.iastore) a b fin) (h : vd_mm (.iastore) a b st M = some (st', M'))
    (kk : ∀ (H' : Heap) (locs' : List Loc), vd_Rep D z H0 M' s H' → (∀ q ∈ locs', H0.size ≤ q.base) → W p l e R s m args below meth c H' locs' cells slots Q (F0 m (pc + len) L (st'.map (vd_cc (vd_ad z H0.size))))) : W p l e R s m args below meth c H locs cells slots Q (F0 m pc L (st.map (vd_cc (vd_ad z H0.size)))) := by
  simp only [vd_tok, beq_iff_eq] at ht
  subst ht
  simp only [vd_mm] at h
  split at h
  · rename_i x j o st
    split at h
    · rename_i hk
      obtain ⟨⟨ho, hk⟩, hj⟩ := hk
      simp only [Option.some.injEq, Prod.mk.injEq] at h
      obtain ⟨rfl, rfl⟩ := h
      have hlt : j.toNatClampNeg < vd_l M o := Nat.not_le.mp fun q => hj (Or.inr q)
      obtain ⟨cell, h1, h2, h3, h4, h5, h6, h7⟩ := vd_arrAt hR hk (by decide) (by decide)
      refine W.iast hx hb h1 h2 h3 (fun q => hj (q.imp id (fun w => Nat.le_trans h4 w))) rfl rfl hd fun H' g1 g2 g3 => ?_
      refine kk H' _ (hR.put (M' := (vd_si M o j.toNatClampNeg x)) ho hk (by decide) (by decide) h1 h2 h3 h4 h5 h6 h7 hlt rfl (fun _ => rfl) (fun _ => rfl) (fun q hq j => by rw [vd_si_i, if_neg (fun w => hq w.1)]) (fun _ _ _ => rfl) (fun _ _ _ => rfl) ?_ (fun j' hj' => ?_) g1 g2 g3) (vd_lo1 hlo (vd_base ho))
      · rw [vd_ev_int (by show vd_k M o < 35; omega), vd_si_i, if_pos ⟨rfl, rfl⟩]
      · unfold vd_ev
        rw [vd_si_ne (fun w => hj' w.2)]
        rfl
    · cases h
  · cases h
theorem vd_mm_lastore (hx : p.tables.exec = Jvm.exec) (hb : c.code = cc) (hown : s.vm.findClass own = some m.cls) (hts : ∀ w ∈ vd_tb, w.before args s = true) (hK : vd_KW D z H0 s) (hR : vd_Rep D z H0 M s H) (hfin : fin = true → meth.name = "<init>") (hlo : ∀ q ∈ locs, H0.size ≤ q.base) (hd : decode cc pc = .ok (.lastore, len)) (ht : vd_tok (.lastore) pc len = true) (hw : vd_lok own (.lastore) a b fin) (h : vd_mm (.lastore) a b st M = some (st', M'))
    (kk : ∀ (H' : Heap) (locs' : List Loc), vd_Rep D z H0 M' s H' → (∀ q ∈ locs', H0.size ≤ q.base) → W p l e R s m args below meth c H' locs' cells slots Q (F0 m (pc + len) L (st'.map (vd_cc (vd_ad z H0.size))))) : W p l e R s m args below meth c H locs cells slots Q (F0 m pc L (st.map (vd_cc (vd_ad z H0.size)))) := by
  simp only [vd_tok, beq_iff_eq] at ht
  subst ht
  simp only [vd_mm] at h
  split at h
  · rename_i x j o st
    split at h
    · rename_i hk
      obtain ⟨⟨ho, hk⟩, hj⟩ := hk
      simp only [Option.some.injEq, Prod.mk.injEq] at h
      obtain ⟨rfl, rfl⟩ := h
      have hlt : j.toNatClampNeg < vd_l M o := Nat.not_le.mp fun q => hj (Or.inr q)
      obtain ⟨cell, h1, h2, h3, h4, h5, h6, h7⟩ := vd_arrAt hR hk (by decide) (by decide)
      refine W.last hx hb h1 h2 h3 (fun q => hj (q.imp id (fun w => Nat.le_trans h4 w))) rfl rfl hd fun H' g1 g2 g3 => ?_
      refine kk H' _ (hR.put (M' := (vd_sj M o j.toNatClampNeg x)) ho hk (by decide) (by decide) h1 h2 h3 h4 h5 h6 h7 hlt rfl (fun _ => rfl) (fun _ => rfl) (fun _ _ _ => rfl) (fun _ _ _ => rfl) (fun q hq j => by rw [vd_sj_j, if_neg (fun w => hq w.1)]) ?_ (fun j' hj' => ?_) g1 g2 g3) (vd_lo1 hlo (vd_base ho))
      · rw [vd_ev_long (by show vd_k M o = 35; exact hk), vd_sj_j, if_pos ⟨rfl, rfl⟩]
      · unfold vd_ev
        rw [vd_sj_ne (fun w => hj' w.2)]
        rfl
    · cases h
  · cases h
theorem vd_mm_bastore (hx : p.tables.exec = Jvm.exec) (hb : c.code = cc) (hown : s.vm.findClass own = some m.cls) (hts : ∀ w ∈ vd_tb, w.before args s = true) (hK : vd_KW D z H0 s) (hR : vd_Rep D z H0 M s H) (hfin : fin = true → meth.name = "<init>") (hlo : ∀ q ∈ locs, H0.size ≤ q.base) (hd : decode cc pc = .ok (.bastore, len)) (ht : vd_tok (.bastore) pc len = true) (hw : vd_lok own (.bastore) a b fin) (h : vd_mm (.bastore) a b st M = some (st', M'))
    (kk : ∀ (H' : Heap) (locs' : List Loc), vd_Rep D z H0 M' s H' → (∀ q ∈ locs', H0.size ≤ q.base) → W p l e R s m args below meth c H' locs' cells slots Q (F0 m (pc + len) L (st'.map (vd_cc (vd_ad z H0.size))))) : W p l e R s m args below meth c H locs cells slots Q (F0 m pc L (st.map (vd_cc (vd_ad z H0.size)))) := by
  simp only [vd_tok, beq_iff_eq] at ht
  subst ht
  simp only [vd_mm] at h
  split at h
  · rename_i x j o st
    split at h
    · rename_i hk
      obtain ⟨⟨ho, hk⟩, hj⟩ := hk
      simp only [Option.some.injEq, Prod.mk.injEq] at h
      obtain ⟨rfl, rfl⟩ := h
      have hlt : j.toNatClampNeg < vd_l M o := Nat.not_le.mp fun q => hj (Or.inr q)
      obtain ⟨cell, h1, h2, h3, h4, h5, h6, h7⟩ := vd_arrAt hR hk (by decide) (by decide)
      refine W.bast hx hb h1 h2 h3 (fun q => hj (q.imp id (fun w => Nat.le_trans h4 w))) rfl rfl hd fun H' g1 g2 g3 => ?_
      refine kk H' _ (hR.put (M' := (vd_si M o j.toNatClampNeg x.toInt8.toInt32)) ho hk (by decide) (by decide) h1 h2 h3 h4 h5 h6 h7 hlt rfl (fun _ => rfl) (fun _ => rfl) (fun q hq j => by rw [vd_si_i, if_neg (fun w => hq w.1)]) (fun _ _ _ => rfl) (fun _ _ _ => rfl) ?_ (fun j' hj' => ?_) g1 g2 g3) (vd_lo1 hlo (vd_base ho))
      · rw [vd_ev_int (by show vd_k M o < 35; omega), vd_si_i, if_pos ⟨rfl, rfl⟩]
        rfl
      · unfold vd_ev
        rw [vd_si_ne (fun w => hj' w.2)]
        rfl
    · split at h
      · rename_i hk
        obtain ⟨⟨ho, hk⟩, hj⟩ := hk
        simp only [Option.some.injEq, Prod.mk.injEq] at h
        obtain ⟨rfl, rfl⟩ := h
        have hlt : j.toNatClampNeg < vd_l M o := Nat.not_le.mp fun q => hj (Or.inr q)
        obtain ⟨cell, h1, h2, h3, h4, h5, h6, h7⟩ := vd_arrAt hR hk (by decide) (by decide)
        refine W.zast hx hb h1 h2 h3 (fun q => hj (q.imp id (fun w => Nat.le_trans h4 w))) rfl rfl hd fun H' g1 g2 g3 => ?_
        refine kk H' _ (hR.put (M' := (vd_si M o j.toNatClampNeg (x &&& 1))) ho hk (by decide) (by decide) h1 h2 h3 h4 h5 h6 h7 hlt rfl (fun _ => rfl) (fun _ => rfl) (fun q hq j => by rw [vd_si_i, if_neg (fun w => hq w.1)]) (fun _ _ _ => rfl) (fun _ _ _ => rfl) ?_ (fun j' hj' => ?_) g1 g2 g3) (vd_lo1 hlo (vd_base ho))
        · rw [vd_ev_int (by show vd_k M o < 35; omega), vd_si_i, if_pos ⟨rfl, rfl⟩]
          rfl
        · unfold vd_ev
          rw [vd_si_ne (fun w => hj' w.2)]
          rfl
      · cases h
  · cases h
end VDM
