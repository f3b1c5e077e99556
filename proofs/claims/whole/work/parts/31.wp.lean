/-! ===== runs as conditions ===== -/
theorem vd_fuel1 (P : vd_P) : ∀ (n d k pc : Nat) (ls st : List Value) (M : vd_M) (x : vd_M × (Option Value ⊕ Nat)), vd_run P n d k pc ls st M = some x → vd_run P (n + 1) d k pc ls st M = some x := by
  intro n
  induction n with
  | zero => intro d k pc ls st M x h; cases h
  | succ n ih =>
    intro d k pc ls st M x h
    rw [vd_run] at h
    rw [vd_run]
    split at h
    · cases h
    · rename_i i len t a b cv he
      split at h
      · split at h
        · rename_i y hy
          try simp only [hy]
          exact ih _ _ _ _ _ _ _ h
        · cases h
      · split at h
        · rename_i y hy
          try simp only [hy]
          exact ih _ _ _ _ _ _ _ h
        · cases h
      · split at h
        · rename_i y hy
          try simp only [hy]
          exact ih _ _ _ _ _ _ _ h
        · cases h
      · split at h
        · cases h
        · split at h
          · rename_i hf
            try simp only [hf, if_true]
            split at h
            · rename_i M1 v hc
              try simp only [ih _ _ _ _ _ _ _ hc]
              exact ih _ _ _ _ _ _ _ h
            · cases h
          · cases h
      · exact h
      · split at h
        · split at h
          · rename_i hc
            try simp only [hc, if_true]
            exact ih _ _ _ _ _ _ _ h
          · cases h
        · cases h
      · split at h
        · rename_i y hy
          try simp only [hy]
          exact ih _ _ _ _ _ _ _ h
        · cases h
      · exact h
      · split at h
        · rename_i y hy
          try simp only [hy]
          exact ih _ _ _ _ _ _ _ h
        · cases h
      · split at h
        · cases h
        · split at h
          · rename_i hf
            try simp only [hf, if_true]
            split at h
            · rename_i M1 v hc
              try simp only [ih _ _ _ _ _ _ _ hc]
              exact ih _ _ _ _ _ _ _ h
            · rename_i M1 v hc
              try simp only [ih _ _ _ _ _ _ _ hc]
              split at h
              · rename_i hh
                try simp only [hh]
                exact ih _ _ _ _ _ _ _ h
              · cases h
            · cases h
          · cases h
      · cases h
theorem vd_fuel (P : vd_P) {n m d k pc : Nat} {ls st : List Value} {M : vd_M} {x : vd_M × (Option Value ⊕ Nat)} (h : vd_run P n d k pc ls st M = some x) (hm : n ≤ m) : vd_run P m d k pc ls st M = some x := by
  obtain ⟨q, rfl⟩ := Nat.le.dest hm
  induction q with
  | zero => exact h
  | succ q ih => exact vd_fuel1 P _ _ _ _ _ _ _ _ (ih (Nat.le_add_right _ _))
/-- a run comes to an end of which Q holds -/
def vd_wp (d k pc : Nat) (ls st : List Value) (M : vd_M) (Q : vd_M → (Option Value ⊕ Nat) → Prop) : Prop := ∃ n M' r, vd_run vd_P0 n d k pc ls st M = some (M', r) ∧ Q M' r
section VDW
variable {d k pc len a b : Nat} {cv : Value} {i : Instr} {ls st : List Value} {M : vd_M} {Q : vd_M → (Option Value ⊕ Nat) → Prop}
theorem vd_wp_mono {Q' : vd_M → (Option Value ⊕ Nat) → Prop} (h : vd_wp d k pc ls st M Q) (hq : ∀ M' r, Q M' r → Q' M' r) : vd_wp d k pc ls st M Q' := by
  obtain ⟨n, M', r, h1, h2⟩ := h
  exact ⟨n, M', r, h1, hq _ _ h2⟩
/-- one step of a run that goes on in the same method -/
theorem vd_wp_one {pc' : Nat} {ls' st' : List Value} {M1 : vd_M} (h : ∀ n, vd_run vd_P0 (n + 1) d k pc ls st M = vd_run vd_P0 n d k pc' ls' st' M1) : vd_wp d k pc ls st M Q = vd_wp d k pc' ls' st' M1 Q := by
  refine propext ⟨fun ⟨n, M', r, h1, h2⟩ => ?_, fun ⟨n, M', r, h1, h2⟩ => ⟨n + 1, M', r, by rw [h]; exact h1, h2⟩⟩
  cases n with
  | zero => cases h1
  | succ n => exact ⟨n, M', r, by rw [← h]; exact h1, h2⟩
theorem vd_wp_alu {pc' : Nat} {ls' st' : List Value} (he : vd_pI k pc = some (i, len, 0, a, b, cv)) (h : vd_alu i pc len cv ls st = some (pc', ls', st')) : vd_wp d k pc ls st M Q = vd_wp d k pc' ls' st' M Q := by
  refine vd_wp_one fun n => ?_
  rw [vd_run]
  have he : vd_P0.1 k pc = some (i, len, 0, a, b, cv) := he
  simp only [he, h]
theorem vd_wp_mm {st' : List Value} {M1 : vd_M} (he : vd_pI k pc = some (i, len, 1, a, b, cv)) (h : vd_mm i a b st M = some (st', M1)) : vd_wp d k pc ls st M Q = vd_wp d k (pc + len) ls st' M1 Q := by
  refine vd_wp_one fun n => ?_
  rw [vd_run]
  have he : vd_P0.1 k pc = some (i, len, 1, a, b, cv) := he
  simp only [he, h]
theorem vd_wp_al {st' : List Value} {M1 : vd_M} (he : vd_pI k pc = some (i, len, 2, a, b, cv)) (h : vd_al i a b st M = some (st', M1)) : vd_wp d k pc ls st M Q = vd_wp d k (pc + len) ls st' M1 Q := by
  refine vd_wp_one fun n => ?_
  rw [vd_run]
  have he : vd_P0.1 k pc = some (i, len, 2, a, b, cv) := he
  simp only [he, h]
theorem vd_wp_ob {o : Nat} (he : vd_pI k pc = some (i, len, 5, a, b, cv)) (h : vd_cs st ≤ 8) : vd_wp d k pc ls (.ref o :: st) M Q = vd_wp d k (pc + len) ls st M Q := by
  refine vd_wp_one fun n => ?_
  rw [vd_run]
  have he : vd_P0.1 k pc = some (i, len, 5, a, b, cv) := he
  simp only [he, h, if_true]
theorem vd_wp_cp {st' : List Value} {M1 : vd_M} (he : vd_pI k pc = some (i, len, 6, a, b, cv)) (h : vd_cp st M = some (st', M1)) : vd_wp d k pc ls st M Q = vd_wp d k (pc + len) ls st' M1 Q := by
  refine vd_wp_one fun n => ?_
  rw [vd_run]
  have he : vd_P0.1 k pc = some (i, len, 6, a, b, cv) := he
  simp only [he, h]
theorem vd_wp_mu {st' : List Value} {M1 : vd_M} (he : vd_pI k pc = some (i, len, 8, a, b, cv)) (h : vd_mu st M = some (st', M1)) : vd_wp d k pc ls st M Q = vd_wp d k (pc + len) ls st' M1 Q := by
  refine vd_wp_one fun n => ?_
  rw [vd_run]
  have he : vd_P0.1 k pc = some (i, len, 8, a, b, cv) := he
  simp only [he, h]
theorem vd_wp_rt {x : vd_M × (Option Value ⊕ Nat)} (he : vd_pI k pc = some (i, len, 4, a, b, cv)) (h : vd_rt i (vd_HD k).2.2.2.1 st M = some x) : vd_wp d k pc ls st M Q = Q x.1 x.2 := by
  have he : vd_P0.1 k pc = some (i, len, 4, a, b, cv) := he
  have e : ∀ n, vd_run vd_P0 (n + 1) d k pc ls st M = some x := fun n => by
    rw [vd_run]
    simp only [he]
    exact h
  refine propext ⟨fun ⟨n, M', r, h1, h2⟩ => ?_, fun h2 => ⟨1, x.1, x.2, e 0, h2⟩⟩
  cases n with
  | zero => cases h1
  | succ n =>
    rw [e] at h1
    cases h1
    exact h2
theorem vd_wp_th (he : vd_pI k pc = some (i, len, 7, a, b, cv)) (h : vd_cs st ≤ 8) : vd_wp d k pc ls st M Q = Q (vd_new M a 0 6) (.inr (vd_n M)) := by
  have he : vd_P0.1 k pc = some (i, len, 7, a, b, cv) := he
  have e : ∀ n, vd_run vd_P0 (n + 1) d k pc ls st M = some (vd_new M a 0 6, .inr (vd_n M)) := fun n => by
    rw [vd_run]
    simp only [he, h, if_true]
  refine propext ⟨fun ⟨n, M', r, h1, h2⟩ => ?_, fun h2 => ⟨1, _, _, e 0, h2⟩⟩
  cases n with
  | zero => cases h1
  | succ n =>
    rw [e] at h1
    cases h1
    exact h2
/-- a call: the callee's run, then the rest -/
theorem vd_wp_call (he : vd_pI k pc = some (i, len, 3, a, b, cv)) (hf : vd_fit (vd_HD a) st M = true) (h : vd_wp d a 0 (vd_ent (vd_HD a).2.2.1 (st.take (vd_HD a).2.2.2.2.1).reverse) [] M (fun M1 r => ∃ v, r = .inl v ∧ vd_wp (d + 1) k (pc + len) ls (v.toList ++ st.drop (vd_HD a).2.2.2.2.1) M1 Q)) : vd_wp (d + 1) k pc ls st M Q := by
  have he : vd_P0.1 k pc = some (i, len, 3, a, b, cv) := he
  have hf : vd_fit (vd_P0.2.1 a) st M = true := hf
  obtain ⟨n, M1, r, h1, v, rfl, m, M', r, h3, h4⟩ := h
  refine ⟨(n + m) + 1, M', r, ?_, h4⟩
  rw [vd_run]
  simp only [he, hf, if_true]
  have e1 : vd_run vd_P0 (n + m) d a 0 (vd_ent (vd_P0.2.1 a).2.2.1 (st.take (vd_P0.2.1 a).2.2.2.2.1).reverse) [] M = some (M1, .inl v) := vd_fuel _ h1 (by omega)
  simp only [e1]
  exact vd_fuel _ h3 (by omega)
theorem vd_wp_call9 (he : vd_pI k pc = some (i, len, 9, a, b, cv)) (hf : vd_fit (vd_HD a) st M = true) (h : vd_wp d a 0 (vd_ent (vd_HD a).2.2.1 (st.take (vd_HD a).2.2.2.2.1).reverse) [] M (fun M1 r => match r with
    | .inl v => vd_wp (d + 1) k (pc + len) ls (v.toList ++ st.drop (vd_HD a).2.2.2.2.1) M1 Q
    | .inr o => ∃ h, vd_hnd (vd_HN k) pc (vd_k M1 o) = some h ∧ vd_wp (d + 1) k h ls [.ref o] M1 Q)) : vd_wp (d + 1) k pc ls st M Q := by
  have he : vd_P0.1 k pc = some (i, len, 9, a, b, cv) := he
  have hf : vd_fit (vd_P0.2.1 a) st M = true := hf
  obtain ⟨n, M1, r, h1, h2⟩ := h
  cases r with
  | inl v =>
    obtain ⟨m, M', r, h3, h4⟩ := h2
    refine ⟨(n + m) + 1, M', r, ?_, h4⟩
    rw [vd_run]
    simp only [he, hf, if_true]
    have e1 : vd_run vd_P0 (n + m) d a 0 (vd_ent (vd_P0.2.1 a).2.2.1 (st.take (vd_P0.2.1 a).2.2.2.2.1).reverse) [] M = some (M1, .inl v) := vd_fuel _ h1 (by omega)
    simp only [e1]
    exact vd_fuel _ h3 (by omega)
  | inr o =>
    obtain ⟨q, hq, m, M', r, h3, h4⟩ := h2
    refine ⟨(n + m) + 1, M', r, ?_, h4⟩
    rw [vd_run]
    simp only [he, hf, if_true]
    have e1 : vd_run vd_P0 (n + m) d a 0 (vd_ent (vd_P0.2.1 a).2.2.1 (st.take (vd_P0.2.1 a).2.2.2.2.1).reverse) [] M = some (M1, .inr o) := vd_fuel _ h1 (by omega)
    have hq : vd_hnd (vd_P0.2.2.1 k) pc (vd_k M1 o) = some q := hq
    simp only [e1, hq]
    exact vd_fuel _ h3 (by omega)
end VDW
