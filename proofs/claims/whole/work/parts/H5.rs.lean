/-! ===== the reference's reset ===== -/
def vd_nz0 (g : Nat → Nat → Int32) (n : Nat) : Nat → Nat → Int32 := fun o i => if o = n then 0 else g o i
theorem vd_nz0_ne {g : Nat → Nat → Int32} {n c i : Nat} (h : c ≠ n) : vd_nz0 g n c i = g c i := by
  unfold vd_nz0
  rw [if_neg h]
theorem vd_new_mf (N : vd_M) (g : Nat → Nat → Int32) (k len sl : Nat) : vd_new (vd_mf N g) k len sl = vd_mf (vd_new N k len sl) (vd_nz0 g (vd_n N)) := rfl
theorem vd_SR.new {N : vd_M} (h : vd_SR N) (hn : 197 ≤ vd_n N) (k len sl : Nat) : vd_SR (vd_new N k len sl) := h.keep (fun c hc => by rw [vd_k_new, if_neg (by omega)]) (fun c hc => by rw [vd_l_new, if_neg (by omega)]) (fun c i hc _ _ _ => by rw [vd_r_new, if_neg (by omega)])
section VDRS
variable {N : vd_M}
theorem vd_ctx68 (hN : vd_SR N) {c : Nat} (hc : c < 4) : vd_r N 67 c = some (68 + c) ∧ vd_k N (68 + c) = 32 ∧ vd_l N (68 + c) = 2941 := by
  have : c = 0 ∨ c = 1 ∨ c = 2 ∨ c = 3 := by omega
  rcases this with rfl | rfl | rfl | rfl
  · exact ⟨hN.r67_0, hN.k68, hN.l68⟩
  · exact ⟨hN.r67_1, hN.k69, hN.l69⟩
  · exact ⟨hN.r67_2, hN.k70, hN.l70⟩
  · exact ⟨hN.r67_3, hN.k71, hN.l71⟩
theorem vd_L187i (hN : vd_SR N) {c : Nat} (hc : c < 4) (d : Nat) (Q : vd_M → (Option Value ⊕ Nat) → Prop) : ∀ (m k : Nat) (g : Nat → Nat → Int32), k + m = 2941 → vd_wp d 187 9 [.ref 63, .int (vd_I (c : Int)), .int (vd_I (k : Int))] [] (vd_mf N (vd_uf g (68 + c) 0 k (vd_I 128))) Q = vd_wp d 187 33 [.ref 63, .int (vd_I (c : Int)), .int (vd_I 2941)] [] (vd_mf N (vd_uf g (68 + c) 0 2941 (vd_I 128))) Q := by
  obtain ⟨r, kk, l⟩ := vd_ctx68 hN hc
  intro m
  induction m with
  | zero =>
    intro k g hk
    have hk : k = 2941 := by omega
    subst hk
    simp (disch := omega) only [vd_S187_9 hN, vd_I_toInt, show ¬ (((2941 : Nat) : Int) < 2941) by decide, if_false]
    rfl
  | succ m ih =>
    intro k g hk
    have ek : (k : Int) + 1 = ((k + 1 : Nat) : Int) := by omega
    have hl : (k : Int) < (vd_l N (68 + c) : Int) := by rw [l]; omega
    rw [← ih (k + 1) g (by omega)]
    conv => lhs; rw [vd_S187_9 hN]
    simp (disch := first | assumption | omega) only [vd_S187_16 hN, vd_S187_21 hN, vd_S187_26 hN, Int.toNat_natCast, r, vd_vr_some, vd_I_toInt, show ((k : Int) < 2941) by omega, if_true, vd_I_add, ek, vd_uf_up (Nat.zero_le k)]
theorem vd_L187o (hN : vd_SR N) (d : Nat) (Q : vd_M → (Option Value ⊕ Nat) → Prop) (a2 : Value) (g : Nat → Nat → Int32) : ∃ (g' : Nat → Nat → Int32) (a2' : Value), (vd_wp d 187 0 [.ref 63, vd_U, a2] [] (vd_mf N g) Q = vd_wp d 187 39 [.ref 63, .int (vd_I 4), a2'] [] (vd_mf N g') Q) ∧ (g' = vd_uf (vd_uf (vd_uf (vd_uf g 68 0 2941 (vd_I 128)) 69 0 2941 (vd_I 128)) 70 0 2941 (vd_I 128)) 71 0 2941 (vd_I 128)) := by
  have st : ∀ (c : Nat) (hc : c < 4) (a2 : Value) (g : Nat → Nat → Int32), vd_wp d 187 2 [.ref 63, .int (vd_I (c : Int)), a2] [] (vd_mf N g) Q = vd_wp d 187 2 [.ref 63, .int (vd_I ((c + 1 : Nat) : Int)), .int (vd_I 2941)] [] (vd_mf N (vd_uf g (68 + c) 0 2941 (vd_I 128))) Q := fun c hc a2 g => by
    have ec : (c : Int) + 1 = ((c + 1 : Nat) : Int) := by omega
    have e := vd_L187i hN hc d Q 2941 0 g (by omega)
    rw [vd_uf_0] at e
    have e' : vd_wp d 187 9 [.ref 63, .int (vd_I (c : Int)), .int (vd_I 0)] [] (vd_mf N g) Q = _ := e
    conv => lhs; rw [vd_S187_2 hN]
    simp (disch := omega) only [vd_S187_7 hN, vd_I_toInt, show ((c : Int) < 4) by omega, if_true, e', vd_S187_33 hN, vd_I_add, ec]
  refine ⟨_, .int (vd_I 2941), ?_, rfl⟩
  have e0 : vd_wp d 187 0 [.ref 63, vd_U, a2] [] (vd_mf N g) Q = vd_wp d 187 2 [.ref 63, .int (vd_I ((0 : Nat) : Int)), a2] [] (vd_mf N g) Q := by rw [vd_S187_0 hN]; rfl
  rw [e0, st 0 (by decide), st 1 (by decide), st 2 (by decide), st 3 (by decide), vd_S187_2 hN]
  simp (disch := omega) only [vd_I_toInt, show ¬ (((3 + 1 : Nat) : Int) < 4) by decide, if_false]
  rfl
def vd_fst (i : Nat) : Int := if i = 0 then 1 else if i = 2 ∨ i = 3 then -1 else 0
theorem vd_P187 (hN : vd_SR N) (hn : 197 ≤ vd_n N) (g : Nat → Nat → Int32) : ∃ g' : Nat → Nat → Int32, (∀ d Q, vd_wp (d + 1) 187 0 [.ref 63, vd_U, vd_U] [] (vd_mf N g) Q = Q (vd_mf (vd_new N 32 6 6) g') (.inl none)) ∧ (∀ c k, c < 4 → k < 2941 → g' (68 + c) k = vd_I 128) ∧ (∀ k, k < 32 → g' 74 k = vd_I 0 ∧ g' 75 k = vd_I 0) ∧ (∀ i, i < 6 → g' 73 i = vd_I (vd_fst i)) ∧ (∀ c i, ¬ (68 ≤ c ∧ c ≤ 71) → c ≠ 73 → c ≠ 74 → c ≠ 75 → c ≠ vd_n N → g' c i = g c i) := by
  obtain ⟨g1, hg1⟩ : ∃ g1, g1 = vd_uf (vd_uf (vd_uf (vd_uf g 68 0 2941 (vd_I 128)) 69 0 2941 (vd_I 128)) 70 0 2941 (vd_I 128)) 71 0 2941 (vd_I 128) := ⟨_, rfl⟩
  have z1 := fun d Q => vd_F294 (M := N) (d := d) (Q := Q) (f := g1) (o := 74) (len := 32) (x := vd_I 0) (by decide) hN.k74 hN.l74 (by decide)
  rw [vd_a01] at z1
  have z2 := fun d Q => vd_F286 (M := N) (d := d) (Q := Q) (f := vd_uf g1 74 0 32 (vd_I 0)) (o := 75) (len := 32) (x := vd_I 0) (by decide) hN.k75 hN.l75 (by decide)
  obtain ⟨g2, hg2⟩ : ∃ g2, g2 = vd_nz0 (vd_uf (vd_uf g1 74 0 32 (vd_I 0)) 75 0 32 (vd_I 0)) (vd_n N) := ⟨_, rfl⟩
  have hN' : vd_SR (vd_new N 32 6 6) := hN.new hn 32 6 6
  have kn : vd_k (vd_new N 32 6 6) (vd_n N) = 32 := by rw [vd_k_new, if_pos rfl]
  have ln : vd_l (vd_new N 32 6 6) (vd_n N) = 6 := by rw [vd_l_new, if_pos rfl]
  have gn : 10 ≤ vd_n N := by omega
  obtain ⟨g3, hg3⟩ : ∃ g3, g3 = vd_up (vd_up (vd_up (vd_up (vd_up (vd_up g2 (vd_n N) 0 (vd_I 1)) (vd_n N) 1 (vd_I 0)) (vd_n N) 2 (vd_I (-1))) (vd_n N) 3 (vd_I (-1))) (vd_n N) 4 (vd_I 0)) (vd_n N) 5 (vd_I 0) := ⟨_, rfl⟩
  have t0 : (0 : Int).toNat = 0 := rfl
  have t1 : (1 : Int).toNat = 1 := rfl
  have t2 : (2 : Int).toNat = 2 := rfl
  have t3 : (3 : Int).toNat = 3 := rfl
  have t4 : (4 : Int).toNat = 4 := rfl
  have t5 : (5 : Int).toNat = 5 := rfl
  have t6 : (6 : Int).toNat = 6 := rfl
  have G1 : ∀ c i, ¬ (68 ≤ c ∧ c ≤ 71) → g1 c i = g c i := fun c i q => by rw [hg1, vd_uf_ne (by omega), vd_uf_ne (by omega), vd_uf_ne (by omega), vd_uf_ne (by omega)]
  have G1c : ∀ c k, c < 4 → k < 2941 → g1 (68 + c) k = vd_I 128 := fun c k hc hk => by
    have : c = 0 ∨ c = 1 ∨ c = 2 ∨ c = 3 := by omega
    rw [hg1]
    rcases this with rfl | rfl | rfl | rfl
    · rw [vd_uf_ne (by omega), vd_uf_ne (by omega), vd_uf_ne (by omega)]; exact vd_uf_in (by omega) hk
    · rw [vd_uf_ne (by omega), vd_uf_ne (by omega)]; exact vd_uf_in (by omega) hk
    · rw [vd_uf_ne (by omega)]; exact vd_uf_in (by omega) hk
    · exact vd_uf_in (by omega) hk
  have G3 : ∀ c i, c ≠ vd_n N → g3 c i = (vd_uf (vd_uf g1 74 0 32 (vd_I 0)) 75 0 32 (vd_I 0)) c i := fun c i q => by
    rw [hg3, vd_up_ne (by omega), vd_up_ne (by omega), vd_up_ne (by omega), vd_up_ne (by omega), vd_up_ne (by omega), vd_up_ne (by omega), hg2, vd_nz0_ne q]
  have G3n : ∀ i, i < 6 → g3 (vd_n N) i = vd_I (vd_fst i) := fun i hi => by
    have : i = 0 ∨ i = 1 ∨ i = 2 ∨ i = 3 ∨ i = 4 ∨ i = 5 := by omega
    rw [hg3]
    rcases this with rfl | rfl | rfl | rfl | rfl | rfl
    · rw [vd_up_ne (by omega), vd_up_ne (by omega), vd_up_ne (by omega), vd_up_ne (by omega), vd_up_ne (by omega), vd_up_eq]; rfl
    · rw [vd_up_ne (by omega), vd_up_ne (by omega), vd_up_ne (by omega), vd_up_ne (by omega), vd_up_eq]; rfl
    · rw [vd_up_ne (by omega), vd_up_ne (by omega), vd_up_ne (by omega), vd_up_eq]; rfl
    · rw [vd_up_ne (by omega), vd_up_ne (by omega), vd_up_eq]; rfl
    · rw [vd_up_ne (by omega), vd_up_eq]; rfl
    · rw [vd_up_eq]; rfl
  refine ⟨vd_ua g3 73 (va_cpy (g3 (vd_n N)) (g3 73) (0 : Int).toNat (0 : Int).toNat (6 : Int).toNat), fun d Q => ?_, fun c k hc hk => ?_, fun k hk => ⟨?_, ?_⟩, fun i hi => ?_, fun c i q1 q2 q3 q4 q5 => ?_⟩
  · obtain ⟨g1', a2', e, he⟩ := vd_L187o hN (d + 1) Q vd_U g
    rw [e, he, ← hg1]
    have cpx := fun d Q => vd_S187_93 hN' (vd_n N) a2' (vd_n N) 6 0 0 d g3 Q (by decide) (by rw [kn, hN'.k73]) (Or.inl hN'.k73) (by decide) (by decide) (by decide) (by rw [ln]; decide) (by rw [hN'.l73]; decide) (by rw [ln]; decide) (by rw [hN'.l73]; decide)
    simp (disch := first | assumption | (rw [ln]; decide) | omega) only [vd_S187_39 hN, vd_S187_44 hN, z1, vd_rs_v, vd_rs_n, vd_S187_47 hN, vd_S187_52 hN, z2, vd_S187_55 hN, vd_S187_57 hN, t6, vd_new_mf, ← hg2, vd_S187_59 hN', vd_S187_62 hN', vd_S187_66 hN', vd_S187_70 hN', vd_S187_74 hN', vd_S187_78 hN', vd_S187_82 hN', t0, t1, t2, t3, t4, t5, ← hg3]
    exact cpx (d + 1) Q
  · rw [vd_ua_ne (by omega), G3 _ k (by omega), vd_uf_ne (by omega), vd_uf_ne (by omega)]; exact G1c c k hc hk
  · rw [vd_ua_ne (by omega), G3 74 k (by omega), vd_uf_ne (by omega), vd_uf_in (by omega) hk]
  · rw [vd_ua_ne (by omega), G3 75 k (by omega), vd_uf_in (by omega) hk]
  · rw [vd_ua_eq, vd_cpy_in (by rw [t6]; exact hi)]; exact G3n i hi
  · rw [vd_ua_ne q2, G3 c i q5, vd_uf_ne (by omega), vd_uf_ne (by omega), G1 c i q1]
end VDRS
