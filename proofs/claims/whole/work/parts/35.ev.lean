/-! ===== what a run comes to; calls as equations; memories that differ in whole numbers alone ===== -/
def vd_evl (d k pc : Nat) (ls st : List Value) (M M' : vd_M) (r : Option Value ⊕ Nat) : Prop := ∃ n, vd_run vd_P0 n d k pc ls st M = some (M', r)
/-- going on behind a call -/
def vd_rs (r : Option Value ⊕ Nat) (st : List Value) (F : List Value → Prop) : Prop := match r with
  | .inl (some v) => F (v :: st)
  | .inl none => F st
  | .inr _ => False
/-- going on behind a call that may throw -/
def vd_rh (r : Option Value ⊕ Nat) (st : List Value) (hn : List (Nat × Nat × Nat)) (pc : Nat) (M1 : vd_M) (F : Nat → List Value → Prop) (np : Nat) : Prop := match r with
  | .inl (some v) => F np (v :: st)
  | .inl none => F np st
  | .inr o => ∃ h, vd_hnd hn pc (vd_k M1 o) = some h ∧ F h [.ref o]
theorem vd_rs_v (v : Value) (st : List Value) (F : List Value → Prop) : vd_rs (.inl (some v)) st F = F (v :: st) := Eq.trans rfl rfl
theorem vd_rs_n (st : List Value) (F : List Value → Prop) : vd_rs (.inl none) st F = F st := Eq.trans rfl rfl
section VDV
variable {d k pc len a b : Nat} {cv : Value} {i : Instr} {ls st st' : List Value} {M M' : vd_M} {r : Option Value ⊕ Nat} {Q : vd_M → (Option Value ⊕ Nat) → Prop}
theorem vd_evl.eq (h : vd_evl d k pc ls st M M' r) (Q : vd_M → (Option Value ⊕ Nat) → Prop) : vd_wp d k pc ls st M Q = Q M' r := by
  obtain ⟨n, h⟩ := h
  refine propext ⟨fun ⟨m, M1, r1, h1, h2⟩ => ?_, fun hq => ⟨n, M', r, h, hq⟩⟩
  have e1 := vd_fuel _ h (Nat.le_max_left n m)
  have e2 := vd_fuel _ h1 (Nat.le_max_right n m)
  rw [e1] at e2
  cases e2
  exact h2
theorem vd_wp_ev (h : vd_wp d k pc ls st M Q) : ∃ M' r, vd_evl d k pc ls st M M' r ∧ Q M' r := by
  obtain ⟨n, M', r, h1, h2⟩ := h
  exact ⟨M', r, ⟨n, h1⟩, h2⟩
theorem vd_ev_wp (h : vd_wp d k pc ls st M (fun M1 r1 => M1 = M' ∧ r1 = r)) : vd_evl d k pc ls st M M' r := by
  obtain ⟨n, M1, r1, h1, rfl, rfl⟩ := h
  exact ⟨n, h1⟩
/-- two runs, each in its own memory -/
theorem vd_wp2 {d' k' pc' : Nat} {ls' st' : List Value} {N : vd_M} {Q2 : vd_M → (Option Value ⊕ Nat) → vd_M → (Option Value ⊕ Nat) → Prop} (h : vd_wp d k pc ls st M (fun M1 r1 => vd_wp d' k' pc' ls' st' N (fun N1 r2 => Q2 M1 r1 N1 r2))) : ∃ M1 r1 N1 r2, vd_evl d k pc ls st M M1 r1 ∧ vd_evl d' k' pc' ls' st' N N1 r2 ∧ Q2 M1 r1 N1 r2 := by
  obtain ⟨n, M1, r1, h1, m, N1, r2, h2, h3⟩ := h
  exact ⟨M1, r1, N1, r2, ⟨n, h1⟩, ⟨m, h2⟩, h3⟩
theorem vd_wp_callE (he : vd_pI k pc = some (i, len, 3, a, b, cv)) (hf : vd_fit (vd_HD a) st M = true) : vd_wp (d + 1) k pc ls st M Q = vd_wp d a 0 (vd_ent (vd_HD a).2.2.1 (st.take (vd_HD a).2.2.2.2.1).reverse) [] M (fun M1 r => vd_rs r (st.drop (vd_HD a).2.2.2.2.1) (fun st => vd_wp (d + 1) k (pc + len) ls st M1 Q)) := by
  refine propext ⟨fun ⟨n, M', r, h1, h2⟩ => ?_, fun h => vd_wp_call he hf (vd_wp_mono h fun M1 r hr => ?_)⟩
  · have he : vd_P0.1 k pc = some (i, len, 3, a, b, cv) := he
    have hf : vd_fit (vd_P0.2.1 a) st M = true := hf
    cases n with
    | zero => cases h1
    | succ n =>
      rw [vd_run] at h1
      simp only [he, hf, if_true] at h1
      split at h1
      · rename_i M1 v hc
        refine ⟨n, M1, .inl v, hc, ?_⟩
        cases v with
        | none => exact ⟨n, M', r, h1, h2⟩
        | some v => exact ⟨n, M', r, h1, h2⟩
      · cases h1
  · cases r with
    | inl v => cases v with
      | none => exact ⟨none, rfl, hr⟩
      | some v => exact ⟨some v, rfl, hr⟩
    | inr o => exact hr.elim
theorem vd_wp_callE9 (he : vd_pI k pc = some (i, len, 9, a, b, cv)) (hf : vd_fit (vd_HD a) st M = true) : vd_wp (d + 1) k pc ls st M Q = vd_wp d a 0 (vd_ent (vd_HD a).2.2.1 (st.take (vd_HD a).2.2.2.2.1).reverse) [] M (fun M1 r => vd_rh r (st.drop (vd_HD a).2.2.2.2.1) (vd_HN k) pc M1 (fun pc st => vd_wp (d + 1) k pc ls st M1 Q) (pc + len)) := by
  refine propext ⟨fun ⟨n, M', r, h1, h2⟩ => ?_, fun h => vd_wp_call9 he hf (vd_wp_mono h fun M1 r hr => ?_)⟩
  · have he : vd_P0.1 k pc = some (i, len, 9, a, b, cv) := he
    have hf : vd_fit (vd_P0.2.1 a) st M = true := hf
    cases n with
    | zero => cases h1
    | succ n =>
      rw [vd_run] at h1
      simp only [he, hf, if_true] at h1
      split at h1
      · rename_i M1 v hc
        refine ⟨n, M1, .inl v, hc, ?_⟩
        cases v with
        | none => exact ⟨n, M', r, h1, h2⟩
        | some v => exact ⟨n, M', r, h1, h2⟩
      · rename_i M1 o hc
        split at h1
        · rename_i h hh
          exact ⟨n, M1, .inr o, hc, h, hh, n, M', r, h1, h2⟩
        · cases h1
      · cases h1
  · cases r with
    | inl v => cases v with
      | none => exact hr
      | some v => exact hr
    | inr o => exact hr
theorem vd_q_call {args : List Value} {nm : MethodName} {bs : ByteArray} {nL na rc : Nat} {rt : Option FieldType} (he : vd_pI k pc = some (i, len, 3, a, b, cv)) (hh : vd_HD a = (nm, bs, nL, rt, na, rc)) (hst : st = args ++ st') (hl : args.length = na) (hc : vd_cs st' ≤ 8) (hn : (vd_fl args.reverse).length ≤ nL) (hr : (rc == 99 || (match args.reverse with | .ref o :: _ => vd_k M o == rc | _ => false)) = true) : vd_wp (d + 1) k pc ls st M Q = vd_wp d a 0 (vd_ent nL args.reverse) [] M (fun M1 r => vd_rs r st' (fun st => vd_wp (d + 1) k (pc + len) ls st M1 Q)) := by
  subst hst
  have e1 : (args ++ st').take na = args := by rw [← hl]; simp
  have e2 : (args ++ st').drop na = st' := by rw [← hl]; simp
  have hf : vd_fit (vd_HD a) (args ++ st') M = true := by
    unfold vd_fit
    rw [hh]
    simp only [e1, e2, Bool.and_eq_true, decide_eq_true_eq]
    refine ⟨⟨⟨?_, hc⟩, hn⟩, hr⟩
    rw [← hl]; simp
  rw [vd_wp_callE he hf, hh]
  simp only [e1, e2]
theorem vd_q_call9 {args : List Value} {nm : MethodName} {bs : ByteArray} {nL na rc : Nat} {rt : Option FieldType} (he : vd_pI k pc = some (i, len, 9, a, b, cv)) (hh : vd_HD a = (nm, bs, nL, rt, na, rc)) (hst : st = args ++ st') (hl : args.length = na) (hc : vd_cs st' ≤ 8) (hn : (vd_fl args.reverse).length ≤ nL) (hr : (rc == 99 || (match args.reverse with | .ref o :: _ => vd_k M o == rc | _ => false)) = true) : vd_wp (d + 1) k pc ls st M Q = vd_wp d a 0 (vd_ent nL args.reverse) [] M (fun M1 r => vd_rh r st' (vd_HN k) pc M1 (fun pc st => vd_wp (d + 1) k pc ls st M1 Q) (pc + len)) := by
  subst hst
  have e1 : (args ++ st').take na = args := by rw [← hl]; simp
  have e2 : (args ++ st').drop na = st' := by rw [← hl]; simp
  have hf : vd_fit (vd_HD a) (args ++ st') M = true := by
    unfold vd_fit
    rw [hh]
    simp only [e1, e2, Bool.and_eq_true, decide_eq_true_eq]
    refine ⟨⟨⟨?_, hc⟩, hn⟩, hr⟩
    rw [← hl]; simp
  rw [vd_wp_callE9 he hf, hh]
  simp only [e1, e2]
/-! comparing references -/
def vd_okr (v : Value) : Bool := match v with
  | .null => true
  | .ref k => decide (10 ≤ k)
  | _ => false
def vd_od (v : Value) : Option Nat := match v with
  | .ref k => some k
  | _ => none
theorem vd_or_okr {v : Value} (h : vd_okr v = true) : vd_or v = some (vd_od v) := by
  cases v with
  | null => rfl
  | ref k =>
    have h : 10 ≤ k := of_decide_eq_true h
    simp only [vd_or, if_pos h, vd_od]
  | _ => cases h
theorem vd_g_ace {v w : Value} {off : Int} (he : vd_pI k pc = some (.if_acmp .eq off, len, 0, a, b, cv)) (h0 : vd_okr v = true) (h1 : vd_okr w = true) : vd_wp d k pc ls (w :: v :: st) M Q = if vd_od v = vd_od w then vd_wp d k ((pc : Int) + off).toNat ls st M Q else vd_wp d k (pc + len) ls st M Q := by
  have h : vd_alu (.if_acmp .eq off) pc len cv ls (w :: v :: st) = some (if vd_od v = vd_od w then ((pc : Int) + off).toNat else pc + len, ls, st) := by
    simp only [vd_alu, vd_or_okr h0, vd_or_okr h1]
  rw [vd_wp_alu he h]
  by_cases g : vd_od v = vd_od w
  · rw [if_pos g, if_pos g]
  · rw [if_neg g, if_neg g]
theorem vd_g_acn {v w : Value} {off : Int} (he : vd_pI k pc = some (.if_acmp .ne off, len, 0, a, b, cv)) (h0 : vd_okr v = true) (h1 : vd_okr w = true) : vd_wp d k pc ls (w :: v :: st) M Q = if vd_od v = vd_od w then vd_wp d k (pc + len) ls st M Q else vd_wp d k ((pc : Int) + off).toNat ls st M Q := by
  have h : vd_alu (.if_acmp .ne off) pc len cv ls (w :: v :: st) = some (if vd_od v = vd_od w then pc + len else ((pc : Int) + off).toNat, ls, st) := by
    simp only [vd_alu, vd_or_okr h0, vd_or_okr h1]
  rw [vd_wp_alu he h]
  by_cases g : vd_od v = vd_od w
  · rw [if_pos g, if_pos g]
  · rw [if_neg g, if_neg g]
end VDV
/-! ===== a memory with other whole numbers ===== -/
def vd_mf (M : vd_M) (f : Nat → Nat → Int32) : vd_M := (M.1, M.2.1, M.2.2.1, f, M.2.2.2.2.1, M.2.2.2.2.2)
theorem vd_mf_self (M : vd_M) : vd_mf M (vd_i M) = M := Eq.trans rfl rfl
theorem vd_MF : (∀ (M : vd_M) (f : Nat → Nat → Int32) (a : Nat), vd_k (vd_mf M f) a = vd_k M a) ∧ (∀ (M : vd_M) (f : Nat → Nat → Int32) (a : Nat), vd_l (vd_mf M f) a = vd_l M a) ∧ (∀ (M : vd_M) (f : Nat → Nat → Int32) (a b : Nat), vd_i (vd_mf M f) a b = f a b) ∧ (∀ (M : vd_M) (f : Nat → Nat → Int32) (a b : Nat), vd_r (vd_mf M f) a b = vd_r M a b) ∧ (∀ (M : vd_M) (f : Nat → Nat → Int32) (a b : Nat), vd_j (vd_mf M f) a b = vd_j M a b) ∧ (∀ (M : vd_M) (f : Nat → Nat → Int32), vd_n (vd_mf M f) = vd_n M) ∧ (∀ (M : vd_M) (f : Nat → Nat → Int32), vd_c (vd_mf M f) = vd_c M) ∧ (∀ (M : vd_M) (f : Nat → Nat → Int32), vd_s (vd_mf M f) = vd_s M) ∧ (∀ (M : vd_M) (f : Nat → Nat → Int32) (o i : Nat) (v : Int32), vd_si (vd_mf M f) o i v = vd_mf M (vd_up f o i v)) ∧ (∀ (M : vd_M) (f g : Nat → Nat → Int32), vd_mf (vd_mf M f) g = vd_mf M g) := ⟨fun _ _ _ => Eq.trans rfl rfl, fun _ _ _ => Eq.trans rfl rfl, fun _ _ _ _ => Eq.trans rfl rfl, fun _ _ _ _ => Eq.trans rfl rfl, fun _ _ _ _ => Eq.trans rfl rfl, fun _ _ => Eq.trans rfl rfl, fun _ _ => Eq.trans rfl rfl, fun _ _ => Eq.trans rfl rfl, fun _ _ _ _ _ => Eq.trans rfl rfl, fun _ _ _ => Eq.trans rfl rfl⟩
theorem vd_up_at (f : Nat → Nat → Int32) (o i : Nat) (v : Int32) (a b : Nat) : vd_up f o i v a b = if a = o ∧ b = i then v else f a b := Eq.trans rfl rfl
theorem vd_up_eq (f : Nat → Nat → Int32) (o i : Nat) (v : Int32) : vd_up f o i v o i = v := by
  rw [vd_up_at, if_pos ⟨rfl, rfl⟩]
theorem vd_up_ne {f : Nat → Nat → Int32} {o i : Nat} {v : Int32} {a b : Nat} (h : ¬ (a = o ∧ b = i)) : vd_up f o i v a b = f a b := by
  rw [vd_up_at, if_neg h]
theorem vd_mf_sr (M : vd_M) (f : Nat → Nat → Int32) (o i : Nat) (v : Option Nat) : vd_sr (vd_mf M f) o i v = vd_mf (vd_sr M o i v) f := Eq.trans rfl rfl
