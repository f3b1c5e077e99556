/-! ===== cells of the small machine, and the heap that holds them ===== -/
def vd_aty (k : Nat) : FieldType := match k with
  | 32 => .int
  | 33 => .byte
  | 34 => .boolean
  | 35 => .long
  | 36 => .object "VideoDecoder$Picture"
  | 37 => .object "VideoDecoderModel$Picture"
  | 38 => .array .int
  | 39 => .array .byte
  | _ => .array .boolean
def vd_isr (ty : FieldType) : Bool := match ty with
  | .object _ => true
  | .array _ => true
  | _ => false
def vd_fok (ty : FieldType) (x : Int32) : Bool := match ty with
  | .int => true
  | .boolean => x == 0 || x == 1
  | _ => false
def vd_fv (ad : Nat → Nat) (M : vd_M) (o k : Nat) : Value := if vd_isr (vd_fty (vd_k M o) k) then vd_cc ad (vd_vr (vd_r M o k)) else .int (vd_i M o k)
def vd_ev (ad : Nat → Nat) (M : vd_M) (o j : Nat) : Value := if vd_k M o = 35 then .long (vd_j M o j) else if vd_k M o < 35 then .int (vd_i M o j) else vd_cc ad (vd_vr (vd_r M o j))
def vd_tn (ty : FieldType) : String := match ty with
  | .object C => C
  | t => t.toString
def vd_RA (U : State) (cA : ClassId) (ty : FieldType) : Prop := U.vm.findClass ("[" ++ ty.toString) = some cA ∧ (vd_isr ty = true → ∃ (kA : Class) (comp : ClassId) (kc : Class), U.vm.classes[cA]? = some kA ∧ kA.kind = .array comp ty ∧ U.vm.findClass (vd_tn ty) = some comp ∧ U.vm.classes[comp]? = some kc)
/-- an array in the heap -/
def vd_arr (U : State) (H : Heap) (a : Nat) (ty : FieldType) (n : Nat) (f : Nat → Value) (x y : Prop) : Prop := ∃ cell : Cell, H[a]? = some cell ∧ U.isArrayOf cell ty ∧ cell.vm ≠ .unknown ∧ n ≤ cell.slots.size ∧ (x → cell.slots.size = n) ∧ (∀ j : Nat, j < n → cell.slots[j]? = some (f j)) ∧ (y → vd_RA U cell.cls ty)
/-- a cell: nothing, an object of a class, an array -/
def vd_cell (D : va_G) (ad : Nat → Nat) (M : vd_M) (o : Nat) (U : State) (H : Heap) : Prop :=
  vd_k M o = 99 ∨ (vd_k M o < 32 ∧ ∃ r : vw_C, vd_cls[vd_k M o]? = some r ∧ t_OB (ad o) (D.1 (vd_k M o)) r.2.2 (D.2 (vd_k M o)) H (vd_fv ad M o)) ∨ (32 ≤ vd_k M o ∧ vd_k M o < 41 ∧ vd_arr U H (ad o) (vd_aty (vd_k M o)) (vd_l M o) (vd_ev ad M o) (9 ≤ o) (10 ≤ o))
def vd_Rep (D : va_G) (z : Nat → Nat) (H0 : Heap) (M : vd_M) (U : State) (H : Heap) : Prop :=
  H.size = H0.size + (vd_n M - 10) ∧ 10 ≤ vd_n M ∧ (∀ q : Nat, q < H0.size → H[q]? = H0[q]?) ∧ (∀ k, k < 10 → z k < H0.size) ∧ (∀ o, o < 10 → vd_k M o < 32 → False) ∧ (∀ o, vd_n M ≤ o → vd_k M o = 99) ∧ ∀ o, vd_cell D (vd_ad z H0.size) M o U H
theorem vd_RA.moved {u U : State} (hvm : u.vm.Alike U.vm) {cA : ClassId} {ty : FieldType} (h : vd_RA u cA ty) : vd_RA U cA ty := by
  refine ⟨by rw [hvm.findClass]; exact h.1, fun hr => ?_⟩
  obtain ⟨kA, comp, kc, h1, h2, h3, h4⟩ := h.2 hr
  obtain ⟨k', hk', he⟩ := hvm.2.2 _ _ h1
  obtain ⟨k'', hk'', -⟩ := hvm.2.2 _ _ h4
  exact ⟨k', comp, k'', hk', by rw [he]; exact h2, by rw [hvm.findClass]; exact h3, hk''⟩
theorem vd_arr.moved {u U : State} (hvm : u.vm.Alike U.vm) {H : Heap} {a : Nat} {ty : FieldType} {n : Nat} {f : Nat → Value} {x y : Prop} (h : vd_arr u H a ty n f x y) : vd_arr U H a ty n f x y := by
  obtain ⟨cell, h1, h2, h3, h4, h5, h6, h7⟩ := h
  exact ⟨cell, h1, State.isArrayOf_alike hvm h2, h3, h4, h5, h6, fun q => (h7 q).moved hvm⟩
theorem vd_cell.moved {u U : State} (hvm : u.vm.Alike U.vm) {D : va_G} {ad : Nat → Nat} {M : vd_M} {o : Nat} {H : Heap} (h : vd_cell D ad M o u H) : vd_cell D ad M o U H := by
  rcases h with h | h | h
  · exact Or.inl h
  · exact Or.inr (Or.inl h)
  · exact Or.inr (Or.inr ⟨h.1, h.2.1, h.2.2.moved hvm⟩)
theorem vd_Rep.moved {u U : State} (hvm : u.vm.Alike U.vm) {D : va_G} {z : Nat → Nat} {H0 : Heap} {M : vd_M} {H : Heap} (h : vd_Rep D z H0 M u H) : vd_Rep D z H0 M U H := ⟨h.1, h.2.1, h.2.2.1, h.2.2.2.1, h.2.2.2.2.1, h.2.2.2.2.2.1, fun o => (h.2.2.2.2.2.2 o).moved hvm⟩
theorem vd_arr.kept {U : State} {H H1 : Heap} {a : Nat} {ty : FieldType} {n : Nat} {f f1 : Nat → Value} {x y : Prop} (h : vd_arr U H a ty n f x y) (hq : H1[a]? = H[a]?) (hf : ∀ j, j < n → f1 j = f j) : vd_arr U H1 a ty n f1 x y := by
  obtain ⟨cell, h1, h2, h3, h4, h5, h6, h7⟩ := h
  exact ⟨cell, hq.trans h1, h2, h3, h4, h5, fun j hj => by rw [hf j hj]; exact h6 j hj, h7⟩
/-- behind a store into one cell that the run has made -/
theorem vd_Rep.write {D : va_G} {z : Nat → Nat} {H0 : Heap} {M M' : vd_M} {U : State} {H H' : Heap} (h : vd_Rep D z H0 M U H) {o : Nat} (ho : 10 ≤ o) (hn : vd_n M' = vd_n M) (hk : ∀ a, vd_k M' a = vd_k M a) (hl : ∀ a, vd_l M' a = vd_l M a)
    (hi : ∀ a, a ≠ o → ∀ b, vd_i M' a b = vd_i M a b) (hr : ∀ a, a ≠ o → ∀ b, vd_r M' a b = vd_r M a b) (hj : ∀ a, a ≠ o → ∀ b, vd_j M' a b = vd_j M a b) (hs : H'.size = H.size) (hq : ∀ q, q ≠ vd_ad z H0.size o → H'[q]? = H[q]?) (hc : vd_cell D (vd_ad z H0.size) M' o U H') : vd_Rep D z H0 M' U H' := by
  obtain ⟨h1, h2, h3, h4, h5, h6, h7⟩ := h
  have hoB : vd_ad z H0.size o = H0.size + (o - 10) := by unfold vd_ad; rw [if_neg (by omega)]
  refine ⟨by rw [hs, hn]; exact h1, by rw [hn]; exact h2, fun q hq1 => by rw [hq q (by omega)]; exact h3 q hq1, h4, fun a h8 h9 => h5 a h8 (by rw [← hk]; exact h9), fun a ha => by rw [hk]; exact h6 a (by rw [← hn]; exact ha), fun a => ?_⟩
  by_cases ea : a = o
  · rw [ea]; exact hc
  · have hne : vd_ad z H0.size a ≠ vd_ad z H0.size o := by
      by_cases ha : a < 10
      · have := h4 a ha
        rw [hoB]
        unfold vd_ad
        rw [if_pos ha]
        omega
      · exact fun q => ea ((vd_ad_inj (by omega) ho).mp q)
    have hk1 := hk a
    rcases h7 a with g | ⟨g1, r, g2, g3⟩ | ⟨g1, g2, g3⟩
    · exact Or.inl (by rw [hk1]; exact g)
    · refine Or.inr (Or.inl ⟨by rw [hk1]; exact g1, r, by rw [hk1]; exact g2, ?_⟩)
      rw [hk1]
      refine (g3.kept (hq _ hne)).to fun k _ => ?_
      unfold vd_fv
      rw [hk1, hi a ea, hr a ea]
    · refine Or.inr (Or.inr ⟨by rw [hk1]; exact g1, by rw [hk1]; exact g2, ?_⟩)
      rw [hk1, hl a]
      refine g3.kept (hq _ hne) fun j _ => ?_
      unfold vd_ev
      rw [hk1, hi a ea, hr a ea, hj a ea]
/-- memory's instructions. a, b: class and field; or the row of statics -/
def vd_mm (i : Instr) (a b : Nat) (st : List Value) (M : vd_M) : Option (List Value × vd_M) := match i with
  | .getfield _ => (match st with
    | .ref o :: st => if vd_k M o = a then (if vd_isr (vd_fty a b) then some (vd_vr (vd_r M o b) :: st, M) else some (.int (vd_i M o b) :: st, M)) else none
    | _ => none)
  | .putfield _ => (match st with
    | .int x :: .ref o :: st => if vd_k M o = a ∧ vd_fok (vd_fty a b) x = true then some (st, vd_si M o b x) else none
    | .ref v :: .ref o :: st => if vd_k M o = a ∧ vd_isr (vd_fty a b) = true then some (st, vd_sr M o b (some v)) else none
    | .null :: .ref o :: st => if vd_k M o = a ∧ vd_isr (vd_fty a b) = true then some (st, vd_sr M o b none) else none
    | _ => none)
  | .getstatic _ => some (.ref b :: st, M)
  | .arraylength => (match st with
    | .ref o :: st => if 9 ≤ o ∧ 32 ≤ vd_k M o ∧ vd_k M o < 41 then some (.int (Int32.ofNat (vd_l M o)) :: st, M) else none
    | _ => none)
  | .iaload => (match st with
    | .int j :: .ref o :: st => if vd_k M o = 32 ∧ ¬ (j < 0 ∨ vd_l M o ≤ j.toNatClampNeg) then some (.int (vd_i M o j.toNatClampNeg) :: st, M) else none
    | _ => none)
  | .baload => (match st with
    | .int j :: .ref o :: st => if (vd_k M o = 33 ∨ vd_k M o = 34) ∧ ¬ (j < 0 ∨ vd_l M o ≤ j.toNatClampNeg) then some (.int (vd_i M o j.toNatClampNeg) :: st, M) else none
    | _ => none)
  | .laload => (match st with
    | .int j :: .ref o :: st => if vd_k M o = 35 ∧ ¬ (j < 0 ∨ vd_l M o ≤ j.toNatClampNeg) then some (.long (vd_j M o j.toNatClampNeg) :: st, M) else none
    | _ => none)
  | .aaload => (match st with
    | .int j :: .ref o :: st => if (36 ≤ vd_k M o ∧ vd_k M o < 41) ∧ ¬ (j < 0 ∨ vd_l M o ≤ j.toNatClampNeg) then some (vd_vr (vd_r M o j.toNatClampNeg) :: st, M) else none
    | _ => none)
  | .iastore => (match st with
    | .int x :: .int j :: .ref o :: st => if (10 ≤ o ∧ vd_k M o = 32) ∧ ¬ (j < 0 ∨ vd_l M o ≤ j.toNatClampNeg) then some (st, vd_si M o j.toNatClampNeg x) else none
    | _ => none)
  | .bastore => (match st with
    | .int x :: .int j :: .ref o :: st => if (10 ≤ o ∧ vd_k M o = 33) ∧ ¬ (j < 0 ∨ vd_l M o ≤ j.toNatClampNeg) then some (st, vd_si M o j.toNatClampNeg x.toInt8.toInt32) else if (10 ≤ o ∧ vd_k M o = 34) ∧ ¬ (j < 0 ∨ vd_l M o ≤ j.toNatClampNeg) then some (st, vd_si M o j.toNatClampNeg (x &&& 1)) else none
    | _ => none)
  | .lastore => (match st with
    | .long x :: .int j :: .ref o :: st => if (10 ≤ o ∧ vd_k M o = 35) ∧ ¬ (j < 0 ∨ vd_l M o ≤ j.toNatClampNeg) then some (st, vd_sj M o j.toNatClampNeg x) else none
    | _ => none)
  | .aastore => (match st with
    | .ref v :: .int j :: .ref o :: st => if (10 ≤ o ∧ 10 ≤ v ∧ ((vd_k M o = 36 ∧ vd_k M v = 7) ∨ (vd_k M o = 37 ∧ vd_k M v = 13) ∨ (vd_k M o = 38 ∧ vd_k M v = 32) ∨ (vd_k M o = 39 ∧ vd_k M v = 33) ∨ (vd_k M o = 40 ∧ vd_k M v = 34))) ∧ ¬ (j < 0 ∨ vd_l M o ≤ j.toNatClampNeg) then some (st, vd_sr M o j.toNatClampNeg (some v)) else none
    | .null :: .int j :: .ref o :: st => if (10 ≤ o ∧ (vd_k M o = 36 ∨ vd_k M o = 37)) ∧ ¬ (j < 0 ∨ vd_l M o ≤ j.toNatClampNeg) then some (st, vd_sr M o j.toNatClampNeg none) else none
    | _ => none)
  | _ => none
theorem vd_si_i (M : vd_M) (o i : Nat) (v : Int32) (a b : Nat) : vd_i (vd_si M o i v) a b = if a = o ∧ b = i then v else vd_i M a b := rfl
theorem vd_sr_r (M : vd_M) (o i : Nat) (v : Option Nat) (a b : Nat) : vd_r (vd_sr M o i v) a b = if a = o ∧ b = i then v else vd_r M a b := rfl
theorem vd_sj_j (M : vd_M) (o i : Nat) (v : Int64) (a b : Nat) : vd_j (vd_sj M o i v) a b = if a = o ∧ b = i then v else vd_j M a b := rfl
/-- behind a store into a cell's slot -/
theorem vd_arr.put {U : State} {H H' : Heap} {a : Nat} {ty : FieldType} {n : Nat} {f : Nat → Value} {x y : Prop} {cell : Cell} (h1 : H[a]? = some cell) (h2 : U.isArrayOf cell ty) (h3 : cell.vm ≠ .unknown) (h4 : n ≤ cell.slots.size) (h5 : x → cell.slots.size = n) (h6 : ∀ j : Nat, j < n → cell.slots[j]? = some (f j)) (h7 : y → vd_RA U cell.cls ty)
    {k : Nat} (hk : k < n) {v : Value} (e : H'[a]? = some (cell.setSlot k v)) {f' : Nat → Value} (hf : f' k = v) (ho : ∀ j, j < n → j ≠ k → f' j = f j) : vd_arr U H' a ty n f' x y := by
  have hs : (cell.setSlot k v).slots.size = cell.slots.size := by simp [Cell.setSlot]
  refine ⟨_, e, h2, h3, by rw [hs]; exact h4, fun q => by rw [hs]; exact h5 q, fun j hj => ?_, h7⟩
  by_cases ej : j = k
  · subst ej
    have hlt : j < cell.slots.size := Nat.lt_of_lt_of_le hk h4
    rw [hf]
    simp [Cell.setSlot, hlt]
  · rw [ho j hj ej, ← h6 j hj]
    simp only [Cell.setSlot]
    rw [Array.getElem?_setIfInBounds_ne (fun q => ej q.symm)]
