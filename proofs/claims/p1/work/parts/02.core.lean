/-! ===== the words that stay true while a method runs ===== -/
def vd_gw (w : Cond) : Bool := match w with
  | .methodLinkNest .. => true
  | .arrayOver (.object _) => true
  | .arrayOver (.array _) => true
  | .castable .. => true
  | .arrayClass _ => true
  | .declares _ => true
  | w => w.onTables && w.keeps
def vd_tb : List Cond := lw_tbl.filter vd_gw
theorem vd_tb_mem {w : Cond} (h : w ∈ lw_tbl) (hg : vd_gw w = true) : w ∈ vd_tb := List.mem_filter.mpr ⟨h, hg⟩
theorem vd_tb_sub {w : Cond} (h : w ∈ vd_tb) : w ∈ lw_tbl := (List.mem_filter.mp h).1
theorem vd_AOA {t : FieldType} {u U : State} {A A' : Array Value} (hvm : u.vm.Alike U.vm) (h : (Cond.arrayOver (.array t)).before A u = true) : (Cond.arrayOver (.array t)).before A' U = true := by
  obtain ⟨comp, c, k, h1, h2, h3, h4, h5⟩ := arrayOverA_spec (show (Cond.arrayOver (.array t)).holds A u none u [] = true from h)
  obtain ⟨k', hk', he⟩ := hvm.2.2 _ _ h3
  have hi : (U.vm.classes.findIdx? fun (x : Class) => match x.kind with | .array component _ => component == comp | _ => false) = some c := by
    have e1 := va_idx_bare U.vm comp
    have e2 := va_idx_bare u.vm comp
    have e3 : U.vm.bare = u.vm.bare := by first | exact hvm.bare_eq | exact hvm.bare_eq.symm
    rw [e3] at e1
    exact (e1.symm.trans e2).trans h2
  have hkind : k'.kind = .array comp (.array t) := by rw [he]; exact h4
  have f1 : U.vm.findClass (FieldType.array t).toString = some comp := by rw [hvm.findClass]; exact h1
  have f2 : U.vm.findClass ("[" ++ (FieldType.array t).toString) = some c := by rw [hvm.findClass]; exact h5
  unfold Cond.before Cond.holds
  simp only [Cond.value]
  rw [f1, Option.bind_some]
  refine (congrArg (fun o : Option Nat => (o.bind (fun c => (U.vm.classes[c]?).map fun (k : Class) => match k.kind with | .array _ ty => decide (ty = FieldType.array t) && decide (U.vm.findClass ("[" ++ (FieldType.array t).toString) = some c) | _ => false) == some true)) hi).trans ?_
  simp [hk', hkind, f2]
theorem vd_hts {args : Array Value} {s U : State} (hts : ∀ w ∈ vd_tb, w.before args s = true) (hW : s.WarmedH U.vm) (a' : Array Value) : ∀ w ∈ vd_tb, w.before a' U = true := by
  intro w hw
  have h := hts w hw
  have hg : vd_gw w = true := (List.mem_filter.mp hw).2
  unfold vd_gw at hg
  split at hg
  · exact va_Nw.use rfl (va_Nw.warmM hW (va_Nw.of rfl h))
  · exact va_AO.use (va_AO.moved hW.alike (va_AO.of h))
  · exact vd_AOA hW.alike h
  · exact va_Nw.use rfl (va_Nw.warmC hW (va_Nw.of rfl h))
  · exact word_at hW (Or.inr ⟨_, rfl⟩) h
  · exact va_Nw.use rfl (va_Nw.warmD hW (va_Nw.of rfl h))
  · exact word_at hW (Or.inl hg) h
/-! ===== the memory of the small machine: cells by number; a cell: its kind, its length, whole numbers, references, longs ===== -/
/-- (cells that are there, cells made, slots made), kind, length, whole numbers, references, longs -/
abbrev vd_M : Type := (Nat × Nat × Nat) × (Nat → Nat) × (Nat → Nat) × (Nat → Nat → Int32) × (Nat → Nat → Option Nat) × (Nat → Nat → Int64)
def vd_n (M : vd_M) : Nat := M.1.1
def vd_c (M : vd_M) : Nat := M.1.2.1
def vd_s (M : vd_M) : Nat := M.1.2.2
def vd_k (M : vd_M) (o : Nat) : Nat := M.2.1 o
def vd_l (M : vd_M) (o : Nat) : Nat := M.2.2.1 o
def vd_i (M : vd_M) (o i : Nat) : Int32 := M.2.2.2.1 o i
def vd_r (M : vd_M) (o i : Nat) : Option Nat := M.2.2.2.2.1 o i
def vd_j (M : vd_M) (o i : Nat) : Int64 := M.2.2.2.2.2 o i
def vd_up {α : Type} (f : Nat → Nat → α) (o i : Nat) (v : α) : Nat → Nat → α := fun a b => if a = o ∧ b = i then v else f a b
def vd_si (M : vd_M) (o i : Nat) (v : Int32) : vd_M := (M.1, M.2.1, M.2.2.1, vd_up M.2.2.2.1 o i v, M.2.2.2.2.1, M.2.2.2.2.2)
def vd_sr (M : vd_M) (o i : Nat) (v : Option Nat) : vd_M := (M.1, M.2.1, M.2.2.1, M.2.2.2.1, vd_up M.2.2.2.2.1 o i v, M.2.2.2.2.2)
def vd_sj (M : vd_M) (o i : Nat) (v : Int64) : vd_M := (M.1, M.2.1, M.2.2.1, M.2.2.2.1, M.2.2.2.2.1, vd_up M.2.2.2.2.2 o i v)
/-- a row of whole numbers, from a place on, by a function -/
def vd_sa (M : vd_M) (o : Nat) (f : Nat → Int32) : vd_M := (M.1, M.2.1, M.2.2.1, (fun a b => if a = o then f b else M.2.2.2.1 a b), M.2.2.2.2.1, M.2.2.2.2.2)
/-- a new cell of a kind and a length, with slots that it takes -/
def vd_new (M : vd_M) (k len sl : Nat) : vd_M :=
  ((M.1.1 + 1, M.1.2.1 + 1, M.1.2.2 + sl), (fun a => if a = M.1.1 then k else M.2.1 a), (fun a => if a = M.1.1 then len else M.2.2.1 a), (fun a b => if a = M.1.1 then 0 else M.2.2.2.1 a b), (fun a b => if a = M.1.1 then none else M.2.2.2.2.1 a b), (fun a b => if a = M.1.1 then 0 else M.2.2.2.2.2 a b))
/-- a local that holds nothing that is known -/
abbrev vd_U : Value := .retAddr 0
def vd_set (v : Value) : Bool := match v with
  | .retAddr _ => false
  | _ => true
def vd_long (v : Value) : Bool := match v with
  | .long _ => true
  | .double _ => true
  | _ => false
def vd_cc (ad : Nat → Nat) (v : Value) : Value := match v with
  | .ref k => .ref (ad k)
  | w => w
def vd_vr (r : Option Nat) : Value := match r with
  | none => .null
  | some x => .ref x
theorem vd_cc_cat (ad : Nat → Nat) (v : Value) : (vd_cc ad v).category = v.category := by cases v <;> rfl
/-- a reference that may be compared: null, or one of the cells that the law's run has made -/
def vd_or (v : Value) : Option (Option Nat) := match v with
  | .null => some none
  | .ref k => if 10 ≤ k then some (some k) else none
  | _ => none
/-- storing a local of one slot, of two -/
def vd_st1 (ls : List Value) (i : Nat) (v : Value) : Option (List Value) :=
  if i < ls.length then (match i with
    | 0 => some (ls.set 0 v)
    | j + 1 => (match ls[j]? with
      | some w => if vd_long w then none else some (ls.set (j + 1) v)
      | none => none)) else none
def vd_st2 (ls : List Value) (i : Nat) (v : Value) : Option (List Value) :=
  if i + 1 < ls.length then (match i with
    | 0 => some ((ls.set 0 v).set 1 vd_U)
    | j + 1 => (match ls[j]? with
      | some w => if vd_long w then none else some ((ls.set (j + 1) v).set (j + 2) vd_U)
      | none => none)) else none
/-- the target of a tableswitch -/
def vd_tsw (pc : Nat) (d lo hi : Int) (offs : Array Int) (x : Int32) : Nat :=
  if x.toInt < lo ∨ hi < x.toInt then ((pc : Int) + d).toNat else ((pc : Int) + offs.getD (x.toInt - lo).toNat 0).toNat
/-- instructions that touch neither cells nor other methods: the next place, the locals, the stack. cv: a constant of the pool -/
def vd_alu (i : Instr) (pc len : Nat) (cv : Value) (ls st : List Value) : Option (Nat × List Value × List Value) := match i with
  | .iconst n => some (pc + len, ls, .int (Int32.ofInt n) :: st)
  | .bipush n => some (pc + len, ls, .int (Int8.ofInt n).toInt32 :: st)
  | .sipush n => some (pc + len, ls, .int (Int16.ofInt n).toInt32 :: st)
  | .lconst n => some (pc + len, ls, .long (Int64.ofNat (n : Nat)) :: st)
  | .aconst_null => some (pc + len, ls, .null :: st)
  | .ldc _ => (match cv with | .int v => some (pc + len, ls, .int v :: st) | _ => none)
  | .ldc_w _ => (match cv with | .int v => some (pc + len, ls, .int v :: st) | _ => none)
  | .ldc2_w _ => (match cv with | .long v => some (pc + len, ls, .long v :: st) | _ => none)
  | .iload n => (match ls[n]? with | some (.int x) => some (pc + len, ls, .int x :: st) | _ => none)
  | .iload_n n => (match ls[(n : Nat)]? with | some (.int x) => some (pc + len, ls, .int x :: st) | _ => none)
  | .lload n => (match ls[n]? with | some (.long x) => some (pc + len, ls, .long x :: st) | _ => none)
  | .lload_n n => (match ls[(n : Nat)]? with | some (.long x) => some (pc + len, ls, .long x :: st) | _ => none)
  | .aload n => (match ls[n]? with | some (.ref x) => some (pc + len, ls, .ref x :: st) | some .null => some (pc + len, ls, .null :: st) | _ => none)
  | .aload_n n => (match ls[(n : Nat)]? with | some (.ref x) => some (pc + len, ls, .ref x :: st) | some .null => some (pc + len, ls, .null :: st) | _ => none)
  | .istore n => (match st with | .int x :: st => (vd_st1 ls n (.int x)).map fun ls => (pc + len, ls, st) | _ => none)
  | .istore_n n => (match st with | .int x :: st => (vd_st1 ls n (.int x)).map fun ls => (pc + len, ls, st) | _ => none)
  | .lstore n => (match st with | .long x :: st => (vd_st2 ls n (.long x)).map fun ls => (pc + len, ls, st) | _ => none)
  | .lstore_n n => (match st with | .long x :: st => (vd_st2 ls n (.long x)).map fun ls => (pc + len, ls, st) | _ => none)
  | .astore n => (match st with | .ref x :: st => (vd_st1 ls n (.ref x)).map fun ls => (pc + len, ls, st) | .null :: st => (vd_st1 ls n .null).map fun ls => (pc + len, ls, st) | _ => none)
  | .astore_n n => (match st with | .ref x :: st => (vd_st1 ls n (.ref x)).map fun ls => (pc + len, ls, st) | .null :: st => (vd_st1 ls n .null).map fun ls => (pc + len, ls, st) | _ => none)
  | .iinc n k => (match ls[n]? with | some (.int x) => (vd_st1 ls n (.int (x + Int32.ofInt k))).map fun ls => (pc + len, ls, st) | _ => none)
  | .iadd => (match st with | .int y :: .int x :: st => some (pc + len, ls, .int (x + y) :: st) | _ => none)
  | .isub => (match st with | .int y :: .int x :: st => some (pc + len, ls, .int (x - y) :: st) | _ => none)
  | .imul => (match st with | .int y :: .int x :: st => some (pc + len, ls, .int (x * y) :: st) | _ => none)
  | .idiv => (match st with | .int y :: .int x :: st => if y = 0 then none else some (pc + len, ls, .int (x / y) :: st) | _ => none)
  | .irem => (match st with | .int y :: .int x :: st => if y = 0 then none else some (pc + len, ls, .int (x - x / y * y) :: st) | _ => none)
  | .ineg => (match st with | .int x :: st => some (pc + len, ls, .int (-x) :: st) | _ => none)
  | .iand => (match st with | .int y :: .int x :: st => some (pc + len, ls, .int (x &&& y) :: st) | _ => none)
  | .ixor => (match st with | .int y :: .int x :: st => some (pc + len, ls, .int (x ^^^ y) :: st) | _ => none)
  | .ishl => (match st with | .int y :: .int x :: st => some (pc + len, ls, .int (x <<< (y &&& 31)) :: st) | _ => none)
  | .ishr => (match st with | .int y :: .int x :: st => some (pc + len, ls, .int (x >>> (y &&& 31)) :: st) | _ => none)
  | .iushr => (match st with | .int y :: .int x :: st => some (pc + len, ls, .int (x.toUInt32 >>> (y.toUInt32 &&& Int32.toUInt32 31)).toInt32 :: st) | _ => none)
  | .ladd => (match st with | .long y :: .long x :: st => some (pc + len, ls, .long (x + y) :: st) | _ => none)
  | .lmul => (match st with | .long y :: .long x :: st => some (pc + len, ls, .long (x * y) :: st) | _ => none)
  | .ldiv => (match st with | .long y :: .long x :: st => if y = 0 then none else some (pc + len, ls, .long (x / y) :: st) | _ => none)
  | .lor => (match st with | .long y :: .long x :: st => some (pc + len, ls, .long (x ||| y) :: st) | _ => none)
  | .lshl => (match st with | .int y :: .long x :: st => some (pc + len, ls, .long (x <<< (y.toInt64 &&& 63)) :: st) | _ => none)
  | .lcmp => (match st with | .long y :: .long x :: st => some (pc + len, ls, .int (lg_cmp x y) :: st) | _ => none)
  | .i2l => (match st with | .int x :: st => some (pc + len, ls, .long x.toInt64 :: st) | _ => none)
  | .l2i => (match st with | .long x :: st => some (pc + len, ls, .int x.toInt32 :: st) | _ => none)
  | .i2b => (match st with | .int x :: st => some (pc + len, ls, .int x.toInt8.toInt32 :: st) | _ => none)
  | .dup => (match st with | v :: st => if vd_long v then none else some (pc + len, ls, v :: v :: st) | _ => none)
  | .dup_x1 => (match st with | v :: w :: st => if vd_long v || vd_long w then none else some (pc + len, ls, v :: w :: v :: st) | _ => none)
  | .dup2 => (match st with | v :: w :: st => if vd_long v || vd_long w then none else some (pc + len, ls, v :: w :: v :: w :: st) | _ => none)
  | .pop => (match st with | v :: st => if vd_long v then none else some (pc + len, ls, st) | _ => none)
  | .goto off => some (((pc : Int) + off).toNat, ls, st)
  | .ifCond cd off => (match st with
    | .int x :: st => (match cd with
      | .eq => some (if x = 0 then ((pc : Int) + off).toNat else pc + len, ls, st)
      | .ne => some (if x ≠ 0 then ((pc : Int) + off).toNat else pc + len, ls, st)
      | .lt => some (if x < 0 then ((pc : Int) + off).toNat else pc + len, ls, st)
      | .ge => some (if 0 ≤ x then ((pc : Int) + off).toNat else pc + len, ls, st)
      | .gt => some (if 0 < x then ((pc : Int) + off).toNat else pc + len, ls, st)
      | .le => some (if x ≤ 0 then ((pc : Int) + off).toNat else pc + len, ls, st))
    | _ => none)
  | .if_icmp cd off => (match st with
    | .int y :: .int x :: st => (match cd with
      | .eq => some (if x = y then ((pc : Int) + off).toNat else pc + len, ls, st)
      | .ne => some (if x ≠ y then ((pc : Int) + off).toNat else pc + len, ls, st)
      | .lt => some (if x < y then ((pc : Int) + off).toNat else pc + len, ls, st)
      | .ge => some (if y ≤ x then ((pc : Int) + off).toNat else pc + len, ls, st)
      | .gt => some (if y < x then ((pc : Int) + off).toNat else pc + len, ls, st)
      | .le => some (if x ≤ y then ((pc : Int) + off).toNat else pc + len, ls, st))
    | _ => none)
  | .ifnull off => (match st with
    | .null :: st => some (((pc : Int) + off).toNat, ls, st)
    | .ref _ :: st => some (pc + len, ls, st)
    | _ => none)
  | .ifnonnull off => (match st with
    | .ref _ :: st => some (((pc : Int) + off).toNat, ls, st)
    | .null :: st => some (pc + len, ls, st)
    | _ => none)
  | .if_acmp cd off => (match st with
    | y :: x :: st => (match vd_or x, vd_or y with
      | some rx, some ry => (match cd with
        | .eq => some (if rx = ry then ((pc : Int) + off).toNat else pc + len, ls, st)
        | .ne => some (if rx = ry then pc + len else ((pc : Int) + off).toNat, ls, st))
      | _, _ => none)
    | _ => none)
  | .tableswitch d lo hi offs => (match st with
    | .int x :: st => some (vd_tsw pc d lo hi offs x, ls, st)
    | _ => none)
  | _ => none
/-- how long an instruction is, and that its targets are places -/
def vd_tok (i : Instr) (pc len : Nat) : Bool := match i with
  | .iconst _ => len == 1
  | .bipush _ => len == 2
  | .sipush _ => len == 3
  | .lconst _ => len == 1
  | .aconst_null => len == 1
  | .ldc _ => len == 2
  | .ldc_w _ => len == 3
  | .ldc2_w _ => len == 3
  | .iload _ => len == 2
  | .iload_n _ => len == 1
  | .lload _ => len == 2
  | .lload_n _ => len == 1
  | .aload _ => len == 2
  | .aload_n _ => len == 1
  | .istore _ => len == 2
  | .istore_n _ => len == 1
  | .lstore _ => len == 2
  | .lstore_n _ => len == 1
  | .astore _ => len == 2
  | .astore_n _ => len == 1
  | .iinc _ _ => len == 3
  | .goto off => len == 3 && decide (0 ≤ (pc : Int) + off)
  | .ifCond _ off => len == 3 && decide (0 ≤ (pc : Int) + off)
  | .if_icmp _ off => len == 3 && decide (0 ≤ (pc : Int) + off)
  | .if_acmp _ off => len == 3 && decide (0 ≤ (pc : Int) + off)
  | .ifnull off => len == 3 && decide (0 ≤ (pc : Int) + off)
  | .ifnonnull off => len == 3 && decide (0 ≤ (pc : Int) + off)
  | .tableswitch d lo hi offs => decide (0 ≤ (pc : Int) + d) && decide (hi - lo + 1 = (offs.size : Int)) && (offs.toList.all fun o => decide (0 ≤ (pc : Int) + o))
  | .getfield _ => len == 3
  | .putfield _ => len == 3
  | .getstatic _ => len == 3
  | .invokevirtual _ => len == 3
  | .invokespecial _ => len == 3
  | .invokestatic _ => len == 3
  | .new _ => len == 3
  | .newarray _ => len == 2
  | .anewarray _ => len == 3
  | .multianewarray _ _ => len == 4
  | _ => len == 1
