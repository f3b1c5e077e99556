/-! ===== the small machine's run ===== -/
/-- an entry: the instruction, its length, its kind (0 arithmetic, 1 cells, 2 new cells, 3 calls, 4 returns, 5 Object's constructor, 6 arraycopy, 7 throw, 8 rows of rows, 9 calls that may throw), two numbers, a constant -/
abbrev vd_E : Type := Instr × Nat × Nat × Nat × Nat × Value
/-- of a method: name, bytes, locals, what it returns, how many values it takes with the receiver, the receiver's class (99: none) -/
abbrev vd_H : Type := MethodName × ByteArray × Nat × Option FieldType × Nat × Nat
/-- entries; methods; handlers by place and class; handlers as the class file has them -/
abbrev vd_P : Type := (Nat → Nat → Option vd_E) × (Nat → vd_H) × (Nat → List (Nat × Nat × Nat)) × (Nat → List (Nat × Nat × Nat × Nat))
def vd_cs (st : List Value) : Nat := (st.map fun v => v.category).sum
def vd_fl (vs : List Value) : List Value := vs.flatMap fun v => if vd_long v then [v, vd_U] else [v]
def vd_ent (nL : Nat) (vs : List Value) : List Value := vd_fl vs ++ List.replicate (nL - (vd_fl vs).length) vd_U
def vd_rok (ret : Option FieldType) (x : Int32) : Bool := match ret with
  | some .int => true
  | some .boolean => x == 0 || x == 1
  | _ => false
def vd_rt (i : Instr) (ret : Option FieldType) (st : List Value) (M : vd_M) : Option (vd_M × (Option Value ⊕ Nat)) := match i with
  | .ireturn => (match st with | [.int x] => if vd_rok ret x then some (M, .inl (some (.int x))) else none | _ => none)
  | .lreturn => (match st with | [.long x] => (match ret with | some .long => some (M, .inl (some (.long x))) | _ => none) | _ => none)
  | .areturn => (match st with
    | [.ref x] => (match ret with | some (.object _) => some (M, .inl (some (.ref x))) | some (.array _) => some (M, .inl (some (.ref x))) | _ => none)
    | [.null] => (match ret with | some (.object _) => some (M, .inl (some .null)) | some (.array _) => some (M, .inl (some .null)) | _ => none)
    | _ => none)
  | .return_ => (match st with | [] => (match ret with | none => some (M, .inl none) | _ => none) | _ => none)
  | _ => none
/-- a call's stack is fit: values enough, few below them, the receiver of its class -/
def vd_fit (h : vd_H) (st : List Value) (M : vd_M) : Bool :=
  decide (h.2.2.2.2.1 ≤ st.length) && decide (vd_cs (st.drop h.2.2.2.2.1) ≤ 8) && decide ((vd_fl (st.take h.2.2.2.2.1).reverse).length ≤ h.2.2.1) && (h.2.2.2.2.2 == 99 || (match (st.take h.2.2.2.2.1).reverse with
    | .ref o :: _ => vd_k M o == h.2.2.2.2.2
    | _ => false))
/-- arraycopy of whole numbers: what it leaves -/
def vd_cp (st : List Value) (M : vd_M) : Option (List Value × vd_M) := match st with
  | .int n :: .int dp :: .ref o1 :: .int sp :: .ref o0 :: st => if (10 ≤ o1 ∧ vd_k M o0 = vd_k M o1 ∧ vd_cs st ≤ 8 ∧ (vd_k M o1 = 32 ∨ (vd_k M o1 = 34 ∧ ∀ i, i < n.toNatClampNeg → (vd_i M o0 (sp.toNatClampNeg + i) = 0 ∨ vd_i M o0 (sp.toNatClampNeg + i) = 1)))) ∧ ¬ (n < 0 ∨ dp < 0 ∨ sp < 0 ∨ vd_l M o0 < sp.toNatClampNeg + n.toNatClampNeg ∨ vd_l M o1 < dp.toNatClampNeg + n.toNatClampNeg) then some (st, vd_sa M o1 (va_cpy (vd_i M o0) (vd_i M o1) sp.toNatClampNeg dp.toNatClampNeg n.toNatClampNeg)) else none
  | _ => none
/-- a row of four rows of whole numbers -/
def vd_mu4 (M : vd_M) (K : Nat) : vd_M := vd_sr (vd_new (vd_sr (vd_new (vd_sr (vd_new (vd_sr (vd_new (vd_new M 38 4 4) 32 K K) (vd_n M) 0 (some (vd_n M + 1))) 32 K K) (vd_n M) 1 (some (vd_n M + 2))) 32 K K) (vd_n M) 2 (some (vd_n M + 3))) 32 K K) (vd_n M) 3 (some (vd_n M + 4))
def vd_mu (st : List Value) (M : vd_M) : Option (List Value × vd_M) := match st with
  | .int k :: .int n :: st => if n = 4 ∧ ¬ (k < 0 ∨ 65536 < k.toNatClampNeg) then some (.ref (vd_n M) :: st, vd_mu4 M k.toNatClampNeg) else none
  | _ => none
/-- the handler of a place for an exception of a class -/
def vd_hnd (hs : List (Nat × Nat × Nat)) (pc k : Nat) : Option Nat := match hs with
  | [] => none
  | (p, q, h) :: r => if p = pc ∧ q = k then some h else vd_hnd r pc k
def vd_run (P : vd_P) : Nat → Nat → Nat → Nat → List Value → List Value → vd_M → Option (vd_M × (Option Value ⊕ Nat))
  | 0, _, _, _, _, _, _ => none
  | n + 1, d, k, pc, ls, st, M => match P.1 k pc with
    | none => none
    | some (i, len, t, a, b, cv) => (match t with
      | 0 => (match vd_alu i pc len cv ls st with
        | some x => vd_run P n d k x.1 x.2.1 x.2.2 M
        | none => none)
      | 1 => (match vd_mm i a b st M with
        | some x => vd_run P n d k (pc + len) ls x.1 x.2
        | none => none)
      | 2 => (match vd_al i a b st M with
        | some x => vd_run P n d k (pc + len) ls x.1 x.2
        | none => none)
      | 3 => (match d with
        | 0 => none
        | d' + 1 => if vd_fit (P.2.1 a) st M then (match vd_run P n d' a 0 (vd_ent (P.2.1 a).2.2.1 (st.take (P.2.1 a).2.2.2.2.1).reverse) [] M with
          | some (M1, .inl v) => vd_run P n (d' + 1) k (pc + len) ls (v.toList ++ st.drop (P.2.1 a).2.2.2.2.1) M1
          | _ => none) else none)
      | 4 => vd_rt i (P.2.1 k).2.2.2.1 st M
      | 5 => (match st with
        | .ref _ :: st => if vd_cs st ≤ 8 then vd_run P n d k (pc + len) ls st M else none
        | _ => none)
      | 6 => (match vd_cp st M with
        | some x => vd_run P n d k (pc + len) ls x.1 x.2
        | none => none)
      | 7 => if vd_cs st ≤ 8 then some (vd_new M a 0 6, .inr (vd_n M)) else none
      | 8 => (match vd_mu st M with
        | some x => vd_run P n d k (pc + len) ls x.1 x.2
        | none => none)
      | 9 => (match d with
        | 0 => none
        | d' + 1 => if vd_fit (P.2.1 a) st M then (match vd_run P n d' a 0 (vd_ent (P.2.1 a).2.2.1 (st.take (P.2.1 a).2.2.2.2.1).reverse) [] M with
          | some (M1, .inl v) => vd_run P n (d' + 1) k (pc + len) ls (v.toList ++ st.drop (P.2.1 a).2.2.2.2.1) M1
          | some (M1, .inr o) => (match vd_hnd (P.2.2.1 k) pc (vd_k M1 o) with
            | some h => vd_run P n (d' + 1) k h ls [.ref o] M1
            | none => none)
          | none => none) else none)
      | _ => none)
theorem vd_mm_cs {i : Instr} {a b : Nat} {st : List Value} {M : vd_M} {x : List Value × vd_M} (h : vd_mm i a b st M = some x) : vd_c x.2 = vd_c M ∧ vd_s x.2 = vd_s M := by
  unfold vd_mm at h
  split at h
  all_goals (try (cases h; done))
  all_goals (repeat' (split at h))
  all_goals first
    | (cases h; done)
    | (simp only [Option.some.injEq] at h; subst h; exact ⟨rfl, rfl⟩)
theorem vd_al_cs {i : Instr} {a b : Nat} {st : List Value} {M : vd_M} {x : List Value × vd_M} (h : vd_al i a b st M = some x) : vd_c M ≤ vd_c x.2 ∧ vd_s M ≤ vd_s x.2 := by
  unfold vd_al at h
  split at h
  all_goals (try (cases h; done))
  all_goals (repeat' (split at h))
  all_goals first
    | (cases h; done)
    | (simp only [Option.some.injEq] at h; subst h; exact ⟨Nat.le_add_right _ _, Nat.le_add_right _ _⟩)
theorem vd_cp_cs {st : List Value} {M : vd_M} {x : List Value × vd_M} (h : vd_cp st M = some x) : vd_c x.2 = vd_c M ∧ vd_s x.2 = vd_s M := by
  unfold vd_cp at h
  split at h
  · split at h
    · simp only [Option.some.injEq] at h; subst h; exact ⟨rfl, rfl⟩
    · cases h
  · cases h
theorem vd_mu_cs {st : List Value} {M : vd_M} {x : List Value × vd_M} (h : vd_mu st M = some x) : vd_c M ≤ vd_c x.2 ∧ vd_s M ≤ vd_s x.2 := by
  unfold vd_mu at h
  split at h
  · split at h
    · rename_i k n st _
      simp only [Option.some.injEq] at h
      subst h
      have e1 : vd_c (vd_mu4 M k.toNatClampNeg) = vd_c M + 1 + 1 + 1 + 1 + 1 := rfl
      have e2 : vd_s (vd_mu4 M k.toNatClampNeg) = vd_s M + 4 + k.toNatClampNeg + k.toNatClampNeg + k.toNatClampNeg + k.toNatClampNeg := rfl
      simp only [e1, e2]
      omega
    · cases h
  · cases h
theorem vd_rt_cs {i : Instr} {ret : Option FieldType} {st : List Value} {M : vd_M} {x : vd_M × (Option Value ⊕ Nat)} (h : vd_rt i ret st M = some x) : x.1 = M := by
  unfold vd_rt at h
  split at h
  all_goals (try (cases h; done))
  all_goals (repeat' (split at h))
  all_goals first
    | (cases h; done)
    | (simp only [Option.some.injEq] at h; subst h; rfl)
theorem vd_mono (P : vd_P) : ∀ (n d k pc : Nat) (ls st : List Value) (M : vd_M) (x : vd_M × (Option Value ⊕ Nat)), vd_run P n d k pc ls st M = some x → vd_c M ≤ vd_c x.1 ∧ vd_s M ≤ vd_s x.1 := by
  intro n
  induction n with
  | zero => intro d k pc ls st M x h; cases h
  | succ n ih =>
    intro d k pc ls st M x h
    rw [vd_run] at h
    split at h
    · cases h
    · rename_i i len t a b cv he
      split at h
      · split at h
        · exact ih _ _ _ _ _ _ _ h
        · cases h
      · split at h
        · rename_i y hy
          have e := vd_mm_cs hy
          have := ih _ _ _ _ _ _ _ h
          omega
        · cases h
      · split at h
        · rename_i y hy
          have e := vd_al_cs hy
          have := ih _ _ _ _ _ _ _ h
          omega
        · cases h
      · split at h
        · cases h
        · split at h
          · split at h
            · rename_i M1 v hc
              have h1 := ih _ _ _ _ _ _ _ hc
              have h2 := ih _ _ _ _ _ _ _ h
              simp only at h1
              omega
            · cases h
          · cases h
      · have := vd_rt_cs h
        rw [this]
        exact ⟨Nat.le_refl _, Nat.le_refl _⟩
      · split at h
        · split at h
          · exact ih _ _ _ _ _ _ _ h
          · cases h
        · cases h
      · split at h
        · rename_i y hy
          have e := vd_cp_cs hy
          have := ih _ _ _ _ _ _ _ h
          omega
        · cases h
      · split at h
        · simp only [Option.some.injEq] at h
          subst h
          exact ⟨Nat.le_add_right _ _, Nat.le_add_right _ _⟩
        · cases h
      · split at h
        · rename_i y hy
          have e := vd_mu_cs hy
          have := ih _ _ _ _ _ _ _ h
          omega
        · cases h
      · split at h
        · cases h
        · split at h
          · split at h
            · rename_i M1 v hc
              have h1 := ih _ _ _ _ _ _ _ hc
              have h2 := ih _ _ _ _ _ _ _ h
              simp only at h1
              omega
            · rename_i M1 v hc
              have h1 := ih _ _ _ _ _ _ _ hc
              split at h
              · have h2 := ih _ _ _ _ _ _ _ h
                simp only at h1
                omega
              · cases h
            · cases h
          · cases h
      · cases h
