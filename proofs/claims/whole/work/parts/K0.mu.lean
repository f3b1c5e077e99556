/-! ===== a row of four rows: the instruction ===== -/
section VDMU
variable {E : CtlPost} {e : Env} {d : Bool} {acts : List Action}
def vd_inC (comp : ClassId) (K : Nat) : Cell := { cls := comp, slots := Array.replicate K (.int 0) }
def vd_ouC (cA : ClassId) : Cell := { cls := cA, slots := Array.replicate 4 .null }
theorem vd_mq1 {u : State} {comp cc : ClassId} {kC : Class} {K : Int32} {Q : Addr → Pre} (hK : ¬ K < 0) (hk : u.vm.classes[comp]? = some kC) (hkind : kC.kind = .array cc .int) (hlimit : ¬ K.toNatClampNeg > e.platform.arrayLengthLimit) (hheap : ¬ K.toNatClampNeg * 4 > e.platform.maxHeapBytes) (hcells : u.heap.size < e.platform.maxCells) (hslots : u.slotsUsed + K.toNatClampNeg ≤ e.platform.maxSlots)
    (hq : ∀ acts', Q u.heap.size d acts' (u.pushCell (vd_inC comp K.toNatClampNeg))) : wp (Op.multianewarray.make comp [K]) Q E e d acts u := by
  rw [Op.multianewarray.make, if_neg hK]
  simp only [wp_bind', W.theClass]
  refine ⟨kC, hk, ?_⟩
  rw [hkind]
  exact W.newArray_of hk hkind hlimit hheap hcells hslots rfl hq
/-- the state behind one more row -/
def vd_mst (u : State) (a : Addr) (comp : ClassId) (K : Nat) (cell : Cell) (i : Nat) : State := (u.pushCell (vd_inC comp K)).setCell a (cell.setSlot i (.ref u.heap.size))
theorem vd_mst_size (u : State) (a : Addr) (comp : ClassId) (K : Nat) (cell : Cell) (i : Nat) : (vd_mst u a comp K cell i).heap.size = u.heap.size + 1 := by
  show ((u.heap.push _).setIfInBounds a _).size = _
  simp
theorem vd_mst_used (u : State) (a : Addr) (comp : ClassId) (K : Nat) (cell : Cell) (i : Nat) : (vd_mst u a comp K cell i).slotsUsed = u.slotsUsed + K := by
  show u.slotsUsed + (Array.replicate K (Value.int 0)).size = _
  simp
theorem vd_mst_at {u : State} {a : Addr} {comp : ClassId} {K : Nat} {cell : Cell} {i : Nat} (ha : a < u.heap.size) : (vd_mst u a comp K cell i).heap[a]? = some (cell.setSlot i (.ref u.heap.size)) := by
  refine heapAt_setCell_self _ ?_
  show a < (u.heap.push _).size
  rw [Array.size_push]
  exact Nat.lt_succ_of_lt ha
theorem vd_mq2 {u : State} {a : Addr} {cell : Cell} {i : Nat} {comp cc cA comp' : ClassId} {kC kA : Class} {K : Int32} {t : FieldType} {Q : Unit → Pre} {P : Addr → Pre} (hP : ∀ v d' acts' s', wp (writeLoc a i (.ref v)) Q E e d' acts' s' → P v d' acts' s') (hK : ¬ K < 0) (hk : u.vm.classes[comp]? = some kC) (hkind : kC.kind = .array cc .int) (hlimit : ¬ K.toNatClampNeg > e.platform.arrayLengthLimit) (hheap : ¬ K.toNatClampNeg * 4 > e.platform.maxHeapBytes) (hcells : u.heap.size < e.platform.maxCells) (hslots : u.slotsUsed + K.toNatClampNeg ≤ e.platform.maxSlots)
    (hcell : u.heap[a]? = some cell) (hcls : cell.cls = cA) (hvm : cell.vm = .none) (hkA : u.vm.classes[cA]? = some kA) (hkindA : kA.kind = .array comp' (.array t)) (hi : i < cell.slots.size)
    (hq : ∀ d' acts', Q () d' acts' (vd_mst u a comp K.toNatClampNeg cell i)) : wp (Op.multianewarray.make comp [K]) P E e d acts u := by
  refine vd_mq1 hK hk hkind hlimit hheap hcells hslots fun acts' => hP _ _ _ _ ?_
  rw [W.writeLoc]
  refine ⟨cell, heap_pushed_old hcell, by rw [hvm]; simp, hi, ?_, hq _ _⟩
  rw [hcls, hvm]
  have hk' : (u.pushCell (vd_inC comp K.toNatClampNeg)).vm.classes[cA]? = some kA := hkA
  simp [State.fitsSlot, State.slotType?, hkA, hkindA]
  rfl
end VDMU
section VDMV
variable {p : Program} {l : Launch} {e : Env} {R : Room} {s : State} {m : MethodId} {args : Array Value} {below : List Frame} {meth : Method} {c : Code} {T : State} {locs : List Loc} {cells slots : Nat}
theorem vd_mstS {u : State} (X : Stand p l e R s m args below meth c u locs cells slots) {a : Addr} {comp : ClassId} {K : Nat} {cell : Cell} {i : Nat} (hcell : u.heap[a]? = some cell) : Stand p l e R s m args below meth c (vd_mst u a comp K cell i) (locs ++ [⟨a, i⟩]) (cells + 1) (slots + K) := by
  have h := (X.pushed (vd_inC comp K)).stored (heap_pushed_old hcell) i (.ref u.heap.size)
  have e : (vd_inC comp K).slots.size = K := by simp [vd_inC]
  rw [e] at h
  exact h
/-- the cells of the row, one behind the other -/
def vd_orow (cA : ClassId) (a : Addr) : Nat → Cell
  | 0 => vd_ouC cA
  | i + 1 => (vd_orow cA a i).setSlot i (.ref (a + 1 + i))
def vd_msu (T0 : State) (a : Addr) (comp cA : ClassId) (K : Nat) : Nat → State
  | 0 => T0
  | i + 1 => vd_mst (vd_msu T0 a comp cA K i) a comp K (vd_orow cA a i) i
theorem vd_orow_facts (cA : ClassId) (a : Addr) : ∀ i, (vd_orow cA a i).cls = cA ∧ (vd_orow cA a i).vm = .none ∧ (vd_orow cA a i).slots.size = 4
  | 0 => ⟨rfl, rfl, by simp [vd_orow, vd_ouC]⟩
  | i + 1 => by
    obtain ⟨h1, h2, h3⟩ := vd_orow_facts cA a i
    exact ⟨h1, h2, by simp [vd_orow, Cell.setSlot, h3]⟩
theorem vd_ms_facts {T : State} {cA comp : ClassId} {K : Nat} : ∀ i, (vd_msu (T.pushCell (vd_ouC cA)) T.heap.size comp cA K i).heap.size = T.heap.size + 1 + i ∧ (vd_msu (T.pushCell (vd_ouC cA)) T.heap.size comp cA K i).slotsUsed = T.slotsUsed + 4 + i * K ∧ (vd_msu (T.pushCell (vd_ouC cA)) T.heap.size comp cA K i).heap[T.heap.size]? = some (vd_orow cA T.heap.size i) ∧ (vd_msu (T.pushCell (vd_ouC cA)) T.heap.size comp cA K i).vm = T.vm
  | 0 => ⟨by simp [vd_msu], by simp [vd_msu, vd_ouC], by simp [vd_msu, vd_orow], rfl⟩
  | i + 1 => by
    obtain ⟨h1, h2, h3, h4⟩ := vd_ms_facts (T := T) (cA := cA) (comp := comp) (K := K) i
    refine ⟨?_, ?_, ?_, h4⟩
    · show (vd_mst _ _ _ _ _ _).heap.size = _
      rw [vd_mst_size, h1]; omega
    · show (vd_mst _ _ _ _ _ _).slotsUsed = _
      rw [vd_mst_used, h2, Nat.succ_mul]; omega
    · show (vd_mst _ _ _ _ _ _).heap[_]? = _
      refine (vd_mst_at ?_).trans ?_
      · rw [h1]
        exact Nat.lt_of_lt_of_le (Nat.lt_succ_self _) (Nat.le_add_right _ _)
      · rw [h1]
        rfl
theorem vd_msS (X : Stand p l e R s m args below meth c T locs cells slots) {cA comp : ClassId} {K : Nat} : ∀ i, Stand p l e R s m args below meth c (vd_msu (T.pushCell (vd_ouC cA)) T.heap.size comp cA K i) (locs ++ (List.range i).map fun j => ⟨T.heap.size, j⟩) (cells + 1 + i) (slots + 4 + i * K)
  | 0 => by
    have h := X.pushed (vd_ouC cA)
    have e : (vd_ouC cA).slots.size = 4 := by simp [vd_ouC]
    rw [e] at h
    simpa [vd_msu] using h
  | i + 1 => by
    have h := vd_mstS (vd_msS X (cA := cA) (comp := comp) (K := K) i) (comp := comp) (K := K) (i := i) (vd_ms_facts i).2.2.1
    have e1 : cells + 1 + i + 1 = cells + 1 + (i + 1) := by omega
    have e2 : slots + 4 + i * K + K = slots + 4 + (i + 1) * K := by rw [Nat.succ_mul]; omega
    rw [e1, e2, List.append_assoc] at h
    rw [List.range_succ, List.map_append]
    exact h
theorem vd_mkTop (u : State) (f : JFrame) (a : Addr) (comp cA : ClassId) (K : Nat) : ∀ i, vd_msu (u.setTop f) a comp cA K i = (vd_msu u a comp cA K i).setTop f
  | 0 => rfl
  | i + 1 => by
    show vd_mst (vd_msu (u.setTop f) a comp cA K i) a comp K (vd_orow cA a i) i = _
    rw [vd_mkTop u f a comp cA K i]
    rfl
theorem vd_mq4 {i : Nat} {E : CtlPost} {d : Bool} {acts : List Action} {u : State} {cA comp cc : ClassId} {kC kA : Class} {K : Int32} {Q : Unit → Pre} {P : Addr → Pre} (hP : ∀ v d' acts' s', wp (writeLoc u.heap.size i (.ref v)) Q E e d' acts' s' → P v d' acts' s') (hK : ¬ K < 0) (hk : u.vm.classes[comp]? = some kC) (hkind : kC.kind = .array cc .int) (hkA : u.vm.classes[cA]? = some kA) (hkindA : kA.kind = .array comp (.array .int)) (hlimit : ¬ K.toNatClampNeg > e.platform.arrayLengthLimit) (hheap : ¬ K.toNatClampNeg * 4 > e.platform.maxHeapBytes) (hcells : u.heap.size + 5 ≤ e.platform.maxCells) (hslots : u.slotsUsed + (4 + 4 * K.toNatClampNeg) ≤ e.platform.maxSlots) (hi : i < 4)
    (hq : ∀ d' acts', Q () d' acts' (vd_msu (u.pushCell (vd_ouC cA)) u.heap.size comp cA K.toNatClampNeg (i + 1))) : wp (Op.multianewarray.make comp [K]) P E e d acts (vd_msu (u.pushCell (vd_ouC cA)) u.heap.size comp cA K.toNatClampNeg i) := by
  obtain ⟨h1, h2, h3, h4⟩ := vd_ms_facts (T := u) (cA := cA) (comp := comp) (K := K.toNatClampNeg) i
  obtain ⟨g1, g2, g3⟩ := vd_orow_facts cA u.heap.size i
  have hm : i * K.toNatClampNeg + K.toNatClampNeg ≤ 4 * K.toNatClampNeg := by
    rw [← Nat.succ_mul]
    exact Nat.mul_le_mul_right _ hi
  refine vd_mq2 (cA := cA) hP hK (by rw [h4]; exact hk) hkind hlimit hheap (by rw [h1]; omega) (by rw [h2]; omega) h3 g1 g2 (by rw [h4]; exact hkA) hkindA (by rw [g3]; exact hi) hq
/-- the whole row of rows, as the instruction's body makes it -/
theorem vd_mq3 {E : CtlPost} {d : Bool} {acts : List Action} {u : State} {cA comp cc : ClassId} {kC kA : Class} {K : Int32} {Q : Addr → Pre} (hK : ¬ K < 0) (hk : u.vm.classes[comp]? = some kC) (hkind : kC.kind = .array cc .int) (hkA : u.vm.classes[cA]? = some kA) (hkindA : kA.kind = .array comp (.array .int)) (hlimit : ¬ K.toNatClampNeg > e.platform.arrayLengthLimit) (hlimit4 : ¬ 4 > e.platform.arrayLengthLimit) (hheap : ¬ K.toNatClampNeg * 4 > e.platform.maxHeapBytes) (hheap4 : ¬ 4 * 4 > e.platform.maxHeapBytes) (hcells : u.heap.size + 5 ≤ e.platform.maxCells) (hslots : u.slotsUsed + (4 + 4 * K.toNatClampNeg) ≤ e.platform.maxSlots)
    (hq : ∀ d' acts', Q u.heap.size d' acts' (vd_msu (u.pushCell (vd_ouC cA)) u.heap.size comp cA K.toNatClampNeg 4)) : wp (Op.multianewarray.make cA [4, K]) Q E e d acts u := by
  rw [Op.multianewarray.make]
  simp [wp_bind']
  refine ⟨kA, hkA, ?_⟩
  rw [hkindA]
  simp only [wp_bind']
  refine W.newArray_of hkA hkindA hlimit4 hheap4 (by omega) (by omega) rfl fun acts0 => ?_
  simp only [List.range', List.forIn_cons, List.forIn_nil, map_eq_pure_bind, bind_assoc, pure_bind, wp_bind', wp_pure']
  refine vd_mq4 (i := 0) (fun v d' acts' s' h => Eq.mpr (wp_bind' _ _ _ _ _ _ _ _) h) hK hk hkind hkA hkindA hlimit hheap hcells hslots (by omega) fun d1 a1 => ?_
  simp only [wp_bind', wp_pure']
  refine vd_mq4 (i := 1) (fun v d' acts' s' h => Eq.mpr (wp_bind' _ _ _ _ _ _ _ _) h) hK hk hkind hkA hkindA hlimit hheap hcells hslots (by omega) fun d2 a2 => ?_
  simp only [wp_bind', wp_pure']
  refine vd_mq4 (i := 2) (fun v d' acts' s' h => Eq.mpr (wp_bind' _ _ _ _ _ _ _ _) h) hK hk hkind hkA hkindA hlimit hheap hcells hslots (by omega) fun d3 a3 => ?_
  simp only [wp_bind', wp_pure']
  refine vd_mq4 (i := 3) (fun v d' acts' s' h => Eq.mpr (wp_bind' _ _ _ _ _ _ _ _) h) hK hk hkind hkA hkindA hlimit hheap hcells hslots (by omega) fun d4 a4 => ?_
  simp only [wp_bind', wp_pure']
  exact hq d4 a4
theorem vd_mu4S (X : Stand p l e R s m args below meth c T locs cells slots) (hexec : p.tables.exec = Jvm.exec) {own : String} {index : Nat} (hown : s.vm.findClass own = some m.cls) (hclink : (Cond.classLink own index "[[I").before args s = true) (hover : (Cond.arrayOver (.array .int)).before args s = true) (harr : (Cond.arrayClass .int).before args s = true)
    {g : JFrame} (hg : g.method = m) (hdg : decode c.code g.pc = .ok (.multianewarray index 2, 4)) {K : Int32} {rest : List Value} (hstack : g.stack = .int K :: .int 4 :: rest) (hK : ¬ K < 0) (hK2 : K.toNatClampNeg ≤ 65536) (hcells : cells + 5 ≤ R.cells) (hslots : slots + (4 + 4 * K.toNatClampNeg) ≤ R.slots) :
    ∃ (vm₁ : Vm) (cA comp cc : ClassId) (kA kC : Class), s.vm.findClass "[[I" = some cA ∧ s.vm.findClass "[I" = some comp ∧ s.vm.classes[cA]? = some kA ∧ kA.kind = .array comp (.array .int) ∧ s.vm.classes[comp]? = some kC ∧ kC.kind = .array cc .int ∧
      Stand p l e R s m args below meth c (vd_msu ((T.setVm vm₁).pushCell (vd_ouC cA)) T.heap.size comp cA K.toNatClampNeg 4) (locs ++ (List.range 4).map fun j => ⟨T.heap.size, j⟩) (cells + 1 + 4) (slots + 4 + 4 * K.toNatClampNeg) ∧
      ∀ target, Steps p.tables e below ((vd_msu ((T.setVm vm₁).pushCell (vd_ouC cA)) T.heap.size comp cA K.toNatClampNeg 4).setTop { g with pc := g.pc + 4, stack := .ref T.heap.size :: rest }) target → Steps p.tables e below (T.setTop g) target := by
  subst hg
  have hpl : e.platform.magicAccessors = ({} : Platform).magicAccessors := by rw [X.admits.platform]
  obtain ⟨comp, cA, kA, h1, h2, hkA, hkindA, hnA⟩ := arrayOverA_spec (show (Cond.arrayOver (.array .int)).holds args s none s [] = true from hover)
  obtain ⟨c2, kC, cc, g1, hkC, hkindC⟩ := Cond.arrayClass_spec (show (Cond.arrayClass .int).holds args s none s [] = true from harr)
  have hc2 : c2 = comp := Option.some.inj (g1.symm.trans h1)
  subst hc2
  obtain ⟨c3, hfc, hcl⟩ := Cond.classLink_spec hown hclink e.platform hpl
  have hc3 : c3 = cA := Option.some.inj (hfc.symm.trans hnA)
  subst hc3
  obtain ⟨hg₁, hwarm₁, hready₁⟩ := State.classEntry (e := e) X.warmed hcl
  generalize T.vm.noted g.method.cls index (.cls c3) = vm₁ at hg₁ hwarm₁ hready₁
  have hal : s.vm.Alike vm₁ := hwarm₁.alike
  obtain ⟨kC₁, hkC₁, heC⟩ := hal.2.2 _ _ hkC
  obtain ⟨kA₁, hkA₁, heA⟩ := hal.2.2 _ _ hkA
  have hkindA₁ : kA₁.kind = .array c2 (.array .int) := by rw [heA]; exact hkindA
  have hkindC₁ : kC₁.kind = .array cc .int := by rw [heC]; exact hkindC
  have X₁ := X.noted hwarm₁
  obtain ⟨hr1, hr2⟩ := X.roomAbove hcells hslots
  refine ⟨vm₁, c3, c2, cc, kA, kC, hfc, g1, hkA, hkindA, hkC, hkindC, vd_msS X₁ 4, fun target hrest => ?_⟩
  refine Steps.instr (c := c) (by simpa using X.here) ?_
  simp only [hdg, hexec, wpRun]
  show wp (Op.multianewarray.sem index 2) _ _ e false [] (T.setTop g)
  unfold Op.multianewarray.sem
  rw [wp_bind', W.resolveClassAt_links (State.method?_setTop g X.here.top) hg₁, wp_bind', W.popN]
  rw [if_neg (by decide)]
  refine ⟨g, State.topJava?_setTop' _ X.here.top, [.int 4, .int K], rest, rfl, hstack, ?_⟩
  simp only [List.mapM_cons, List.mapM_nil, bind_assoc, pure_bind, wp_bind', wp_pure']
  rw [State.setVm_setTop, State.setTop_setTop]
  have hlim : ∀ n : Nat, n ≤ 65536 → ¬ n > e.platform.arrayLengthLimit := fun n hn => by rw [Launch.admits_arrayLengthLimit X.admits]; omega
  have hhp : ∀ n : Nat, n ≤ 65536 → ¬ n * 4 > e.platform.maxHeapBytes := fun n hn => by rw [Launch.admits_maxHeapBytes X.admits]; omega
  refine vd_mq3 (u := (T.setVm vm₁).setTop _) hK hkC₁ hkindC₁ hkA₁ hkindA₁ (hlim _ hK2) (hlim _ (by decide)) (hhp _ hK2) (hhp _ (by decide)) hr1 hr2 fun d' acts' => ?_
  rw [State.pushCell_setTop, vd_mkTop, wp_bind', W.mark, W.pushRef]
  refine ⟨_, State.topJava?_setTop' _ (vd_msS X₁ (cA := c3) (comp := c2) (K := K.toNatClampNeg) 4).here.top, fun acts => ?_⟩
  rw [State.setTop_setTop, afterInstr_ok]
  exact hrest
end VDMV
