/-! ===== a free picture of the class, made or found ===== -/
section VDFQ
variable {M : vd_M} {ow fa lo lf : Nat}
def vd_PL (M : vd_M) : Prop := (∀ i, i < 10 → vd_r M 12 i = none ∨ ∃ p s, vd_r M 12 i = some p ∧ vd_PC M p s ∧ p < vd_n M ∧ s < vd_n M) ∧ (∀ i j p p' s s', i < 10 → j < 10 → i ≠ j → vd_r M 12 i = some p → vd_r M 12 j = some p' → vd_PC M p s → vd_PC M p' s' → p ≠ p' ∧ s ≠ s') ∧ (∀ h k, h < 9 → vd_hol M h = some k → ∃ i, i < 10 ∧ vd_r M 12 i = some k) ∧ 197 ≤ vd_n M
/-- the memory with one picture more, at place i of the pool -/
def vd_pnew (M : vd_M) (i : Nat) : vd_M := vd_sr (vd_sr (vd_new (vd_new M 7 0 3) 32 55296 55296) (vd_n M) 2 (some (vd_n M + 1))) 12 i (some (vd_n M))
theorem vd_pnew_n (M : vd_M) (i : Nat) : vd_n (vd_pnew M i) = vd_n M + 2 := by unfold vd_pnew; rw [vd_n_sr, vd_n_sr, vd_n_new, vd_n_new]
theorem vd_pnew_c (M : vd_M) (i : Nat) : vd_c (vd_pnew M i) = vd_c M + 2 := by unfold vd_pnew; rw [vd_c_sr, vd_c_sr, vd_c_new, vd_c_new]
theorem vd_s_two (M : vd_M) (k1 l1 a k2 l2 b o1 i1 : Nat) (v1 : Option Nat) (o2 i2 : Nat) (v2 : Option Nat) : vd_s (vd_sr (vd_sr (vd_new (vd_new M k1 l1 a) k2 l2 b) o1 i1 v1) o2 i2 v2) = vd_s M + a + b := rfl
theorem vd_pnew_s (M : vd_M) (i : Nat) : vd_s (vd_pnew M i) = vd_s M + 3 + 55296 := vd_s_two M 7 0 3 32 55296 55296 (vd_n M) 2 (some (vd_n M + 1)) 12 i (some (vd_n M))
theorem vd_pnew_k {M : vd_M} {i c : Nat} (h : c < vd_n M) : vd_k (vd_pnew M i) c = vd_k M c := by unfold vd_pnew; rw [vd_k_sr, vd_k_sr, vd_k_new, vd_n_new, if_neg (by omega), vd_k_new, if_neg (by omega)]
theorem vd_pnew_l {M : vd_M} {i c : Nat} (h : c < vd_n M) : vd_l (vd_pnew M i) c = vd_l M c := by unfold vd_pnew; rw [vd_l_sr, vd_l_sr, vd_l_new, vd_n_new, if_neg (by omega), vd_l_new, if_neg (by omega)]
theorem vd_pnew_r {M : vd_M} {i c j : Nat} (h : c < vd_n M) (h2 : ¬ (c = 12 ∧ j = i)) : vd_r (vd_pnew M i) c j = vd_r M c j := by unfold vd_pnew; rw [vd_r_sr, if_neg h2, vd_r_sr, if_neg (by omega), vd_r_new, vd_n_new, if_neg (by omega), vd_r_new, if_neg (by omega)]
theorem vd_pnew_12 (M : vd_M) (i : Nat) : vd_r (vd_pnew M i) 12 i = some (vd_n M) := by unfold vd_pnew; rw [vd_r_sr, if_pos ⟨rfl, rfl⟩]
theorem vd_pnew_PC {M : vd_M} {i p s : Nat} (h : vd_PC M p s) (hp : p < vd_n M) (hs : s < vd_n M) : vd_PC (vd_pnew M i) p s := by
  obtain ⟨⟨a, b⟩, ⟨c, d⟩, e⟩ := h
  exact ⟨⟨by rw [vd_pnew_k hp]; exact a, by rw [vd_pnew_r hp (by omega)]; exact b⟩, ⟨by rw [vd_pnew_k hs]; exact c, by rw [vd_pnew_l hs]; exact d⟩, e⟩
theorem vd_pnew_new {M : vd_M} (hn : 197 ≤ vd_n M) (i : Nat) : vd_PC (vd_pnew M i) (vd_n M) (vd_n M + 1) := by
  unfold vd_pnew
  refine ⟨⟨?_, ?_⟩, ⟨?_, ?_⟩, by omega, by omega, by omega⟩
  · rw [vd_k_sr, vd_k_sr, vd_k_new, vd_n_new, if_neg (by omega), vd_k_new, if_pos rfl]
  · rw [vd_r_sr, if_neg (by omega), vd_r_sr, if_pos ⟨rfl, rfl⟩]
  · rw [vd_k_sr, vd_k_sr, vd_k_new, vd_n_new, if_pos rfl]
  · rw [vd_l_sr, vd_l_sr, vd_l_new, vd_n_new, if_pos rfl]
theorem vd_PC.inj {M : vd_M} {p s s' : Nat} (h : vd_PC M p s) (h' : vd_PC M p s') : s = s' := by
  have a := h.1.2
  have b := h'.1.2
  rw [a] at b
  exact Option.some.inj b
theorem vd_pnew_SC (h : vd_SC M ow fa lo lf) (hn : 197 ≤ vd_n M) (i : Nat) : vd_SC (vd_pnew M i) ow fa lo lf := h.keep (fun c hc => vd_pnew_k (by omega)) (fun c hc => vd_pnew_l (by omega)) (fun c j hc a _ _ _ _ _ => vd_pnew_r (by omega) (by omega))
theorem vd_pnew_hol (hn : 197 ≤ vd_n M) (i h : Nat) : vd_hol (vd_pnew M i) h = vd_hol M h := by
  unfold vd_hol
  rw [vd_pnew_r (by omega) (by omega), vd_pnew_r (by omega) (by omega)]
theorem vd_pnew_PL (h : vd_PL M) {i : Nat} (hi : i < 10) (he : vd_r M 12 i = none) : vd_PL (vd_pnew M i) := by
  obtain ⟨a, b, c, d⟩ := h
  have hn := vd_pnew_n M i
  have old : ∀ j p, j < 10 → j ≠ i → vd_r (vd_pnew M i) 12 j = some p → vd_r M 12 j = some p := fun j p _ q x => by rw [vd_pnew_r (by omega) (by omega)] at x; exact x
  have oldc : ∀ j p s, j < 10 → vd_r M 12 j = some p → vd_PC (vd_pnew M i) p s → vd_PC M p s ∧ p < vd_n M ∧ s < vd_n M := fun j p s hj x y => by
    rcases a j hj with q | ⟨p1, s1, q1, q2, q3, q4⟩
    · rw [q] at x
      exact absurd x (by simp)
    · rw [q1] at x
      have := Option.some.inj x
      subst this
      have := (vd_pnew_PC (i := i) q2 q3 q4).inj y
      subst this
      exact ⟨q2, q3, q4⟩
  refine ⟨fun j hj => ?_, fun j k p p' s s' hj hk hjk x y z w => ?_, fun h k hh x => ?_, by rw [hn]; omega⟩
  · by_cases e : j = i
    · subst e
      exact Or.inr ⟨vd_n M, vd_n M + 1, vd_pnew_12 M j, vd_pnew_new d j, by rw [hn]; omega, by rw [hn]; omega⟩
    · rw [vd_pnew_r (by omega) (by omega)]
      rcases a j hj with q | ⟨p, s, q1, q2, q3, q4⟩
      · exact Or.inl q
      · exact Or.inr ⟨p, s, q1, vd_pnew_PC q2 q3 q4, by rw [hn]; omega, by rw [hn]; omega⟩
  · by_cases ej : j = i
    · subst ej
      rw [vd_pnew_12] at x
      have hp := (Option.some.inj x).symm
      subst hp
      have hs := (vd_pnew_new d j).inj z
      subst hs
      obtain ⟨_, q3, q4⟩ := oldc k p' s' hk (old k p' hk (fun q => hjk q.symm) y) w
      exact ⟨by omega, by omega⟩
    · by_cases ek : k = i
      · subst ek
        rw [vd_pnew_12] at y
        have hp := (Option.some.inj y).symm
        subst hp
        have hs := (vd_pnew_new d k).inj w
        subst hs
        obtain ⟨_, q3, q4⟩ := oldc j p s hj (old j p hj ej x) z
        exact ⟨by omega, by omega⟩
      · have x' := old j p hj ej x
        have y' := old k p' hk ek y
        exact b j k p p' s s' hj hk hjk x' y' (oldc j p s hj x' z).1 (oldc k p' s' hk y' w).1
  · rw [vd_pnew_hol d] at x
    obtain ⟨j, hj, q⟩ := c h k hh x
    refine ⟨j, hj, ?_⟩
    rw [vd_pnew_r (by omega) (fun e => by rw [e.2, he] at q; exact absurd q (by simp))]
    exact q
/-- what freePicture gives -/
def vd_FPo (M M' : vd_M) (f f' : Nat → Nat → Int32) (p s : Nat) : Prop := (vd_PL M' ∧ vd_PC M' p s ∧ p < vd_n M' ∧ s < vd_n M') ∧ (∀ h, h < 9 → vd_hol M' h ≠ some p) ∧ (∃ i, i < 10 ∧ vd_r M' 12 i = some p) ∧ ((M' = M ∧ f' = f) ∨ (∃ i, i < 10 ∧ vd_r M 12 i = none ∧ M' = vd_pnew M i ∧ f' = vd_nz0 (vd_nz0 f (vd_n M)) (vd_n M + 1)))
theorem vd_L60 (hM : vd_SC M ow fa lo lf) (hL : vd_PL M) (f : Nat → Nat → Int32) : ∀ (m i : Nat), i + m = 10 → (∃ j, i ≤ j ∧ j < 10 ∧ (vd_r M 12 j = none ∨ ∃ p, vd_r M 12 j = some p ∧ ∀ h, h < 9 → vd_hol M h ≠ some p)) → ∃ (M' : vd_M) (f' : Nat → Nat → Int32) (p s : Nat), (∀ d Q, vd_wp (d + 2) 60 2 [.ref 10, .int (vd_I (i : Int))] [] (vd_mf M f) Q = Q (vd_mf M' f') (.inl (some (.ref p)))) ∧ vd_FPo M M' f f' p s := by
  have hn := hL.2.2.2
  have hs : ∀ h k, h < 9 → vd_hol M h = some k → 10 ≤ k := fun h k hh x => by
    obtain ⟨j, hj, q⟩ := hL.2.2.1 h k hh x
    rcases hL.1 j hj with r | ⟨p, s, r1, r2, _⟩
    · rw [r] at q
      exact absurd q (by simp)
    · rw [r1] at q
      have := Option.some.inj q
      have := r2.2.2
      omega
  intro m
  induction m with
  | zero =>
    intro i hi he
    obtain ⟨j, a, b, _⟩ := he
    omega
  | succ m ih =>
    intro i hi he
    have hi10 : i < 10 := by omega
    have ei : (i : Int) + 1 = ((i + 1 : Nat) : Int) := by omega
    rcases hL.1 i hi10 with r | ⟨p, s, r1, r2, r3, r4⟩
    · -- a new one
      refine ⟨vd_pnew M i, vd_nz0 (vd_nz0 f (vd_n M)) (vd_n M + 1), vd_n M, vd_n M + 1, fun d Q => ?_, ⟨vd_pnew_PL hL hi10 r, vd_pnew_new hn i, by rw [vd_pnew_n]; omega, by rw [vd_pnew_n]; omega⟩, fun h hh x => ?_, ⟨i, hi10, vd_pnew_12 M i⟩, Or.inr ⟨i, hi10, r, rfl, rfl⟩⟩
      · have hM1 : vd_SC (vd_new M 7 0 3) ow fa lo lf := hM.keep (fun c hc => by rw [vd_k_new, if_neg (by omega)]) (fun c hc => by rw [vd_l_new, if_neg (by omega)]) (fun c j hc _ _ _ _ _ _ => by rw [vd_r_new, if_neg (by omega)])
        have k1 : vd_k (vd_new M 7 0 3) (vd_n M) = 7 := by rw [vd_k_new, if_pos rfl]
        have n1 : vd_n (vd_new M 7 0 3) = vd_n M + 1 := by rw [vd_n_new]
        have hM2 : vd_SC (vd_new (vd_new M 7 0 3) 32 55296 55296) ow fa lo lf := hM1.keep (fun c hc => by rw [vd_k_new, if_neg (by omega)]) (fun c hc => by rw [vd_l_new, if_neg (by omega)]) (fun c j hc _ _ _ _ _ _ => by rw [vd_r_new, if_neg (by omega)])
        have k2 : vd_k (vd_new (vd_new M 7 0 3) 32 55296 55296) (vd_n M) = 7 := by rw [vd_k_new, if_neg (by omega)]; exact k1
        have hM3 : vd_SC (vd_sr (vd_new (vd_new M 7 0 3) 32 55296 55296) (vd_n M) 2 (some (vd_n M + 1))) ow fa lo lf := hM2.keep (fun _ _ => rfl) (fun _ _ => rfl) (fun c j hc _ _ _ _ _ _ => by rw [vd_r_sr, if_neg (by omega)])
        have k3 : vd_k (vd_sr (vd_new (vd_new M 7 0 3) 32 55296 55296) (vd_n M) 2 (some (vd_n M + 1))) (vd_n M) = 7 := k2
        have ak : vd_akk (vd_sr (vd_new (vd_new M 7 0 3) 32 55296 55296) (vd_n M) 2 (some (vd_n M + 1))) 12 (vd_n M) := Or.inl ⟨hM3.k12, k3⟩
        have l3 : vd_l (vd_sr (vd_new (vd_new M 7 0 3) 32 55296 55296) (vd_n M) 2 (some (vd_n M + 1))) 12 = 10 := hM3.l12
        have hl3 : (i : Int) < (vd_l (vd_sr (vd_new (vd_new M 7 0 3) 32 55296 55296) (vd_n M) 2 (some (vd_n M + 1))) 12 : Int) := by rw [l3]; omega
        have g10 : 10 ≤ vd_n M := by omega
        have hM4 := vd_pnew_SC hM hn i
        have r12 := vd_pnew_12 M i
        have t : (55296 : Int).toNat = 55296 := rfl
        have e4 : vd_sr (vd_sr (vd_new (vd_new M 7 0 3) 32 55296 55296) (vd_n M) 2 (some (vd_n M + 1))) 12 i (some (vd_n M)) = vd_pnew M i := rfl
        rw [vd_S60_2 hM]
        simp (disch := first | assumption | omega) only [vd_S60_7 hM, vd_I_toInt, show ((i : Int) < 10) by omega, if_true, vd_S60_11 hM, vd_S60_16 hM, Int.toNat_natCast, r, vd_vr_none, vd_S60_17n hM, vd_S60_20 hM, vd_S60_25 hM, vd_new_mf, vd_S60_28 hM1, vd_S60_29 hM1, vd_S61_0 hM1, vd_S61_1 hM1, vd_S61_7 hM1, t, n1, vd_S61_9 hM2, vd_S61_12 hM3, vd_rs_v, vd_rs_n, vd_S60_32 hM3, e4, vd_S60_33 hM4, vd_S60_38 hM4, r12, vd_vr_some, vd_S60_39 hM4]
      · rw [vd_pnew_hol hn] at x
        obtain ⟨j, hj, q⟩ := hL.2.2.1 h _ hh x
        rcases hL.1 j hj with r' | ⟨p', s', q1, _, q3, _⟩
        · rw [r'] at q
          exact absurd q (by simp)
        · rw [q1] at q
          have := Option.some.inj q
          omega
    · obtain ⟨b, b01, bw, e62⟩ := vd_P62 (p := p) hM (by have := r2.2.2; omega) hs f
      have head : ∀ d Q, vd_wp (d + 2) 60 2 [.ref 10, .int (vd_I (i : Int))] [] (vd_mf M f) Q = vd_wp (d + 2) 60 50 [.ref 10, .int (vd_I (i : Int))] [.int (vd_I b)] (vd_mf M f) Q := fun d Q => by
        rw [vd_S60_2 hM]
        simp (disch := first | assumption | omega) only [vd_S60_7 hM, vd_I_toInt, show ((i : Int) < 10) by omega, if_true, vd_S60_11 hM, vd_S60_16 hM, Int.toNat_natCast, r1, vd_vr_some, vd_S60_17 hM, vd_S60_40 hM, vd_S60_46 hM, vd_S60_47 hM, e62, vd_rs_v, vd_rs_n]
      rcases b01 with hb | hb
      · -- not held
        subst hb
        have nh : ∀ h, h < 9 → vd_hol M h ≠ some p := fun h hh x => absurd (bw.mpr ⟨h, hh, x⟩) (by decide)
        refine ⟨M, f, p, s, fun d Q => ?_, ⟨hL, r2, r3, r4⟩, nh, ⟨i, hi10, r1⟩, Or.inl ⟨rfl, rfl⟩⟩
        rw [head]
        simp (disch := first | assumption | omega) only [vd_S60_50 hM, vd_S60_53 hM, vd_S60_58 hM, Int.toNat_natCast, r1, vd_vr_some, vd_S60_59 hM, vd_I_toInt, eq_self, if_true]
      · subst hb
        obtain ⟨h0, hh0, x0⟩ := bw.mp rfl
        obtain ⟨M', f', p', s', e, hF⟩ := ih (i + 1) (by omega) (by
          obtain ⟨j, a, b, x⟩ := he
          refine ⟨j, ?_, b, x⟩
          by_cases q : j = i
          · subst q
            rcases x with x | ⟨p1, x1, x2⟩
            · rw [r1] at x
              exact absurd x (by simp)
            · rw [r1] at x1
              have := Option.some.inj x1
              subst this
              exact absurd x0 (x2 h0 hh0)
          · omega)
        refine ⟨M', f', p', s', fun d Q => ?_, hF⟩
        rw [head, ← e d Q]
        simp (disch := omega) only [vd_S60_50 hM, vd_S60_60 hM, vd_I_toInt, show ¬ ((1 : Int) = 0) by decide, if_false, vd_I_add, ei]
/-- freePicture -/
theorem vd_P60 (hM : vd_SC M ow fa lo lf) (hL : vd_PL M) (f : Nat → Nat → Int32) : ∃ (M' : vd_M) (f' : Nat → Nat → Int32) (p s : Nat), (∀ d Q, vd_wp (d + 2) 60 0 [.ref 10, vd_U] [] (vd_mf M f) Q = Q (vd_mf M' f') (.inl (some (.ref p)))) ∧ vd_FPo M M' f f' p s := by
  obtain ⟨M', f', p, s, e, hF⟩ := vd_L60 hM hL f 10 0 rfl (by
    -- ten pictures, nine who hold
    apply Classical.byContradiction
    intro no
    have all : ∀ j, j < 10 → ∃ p h, vd_r M 12 j = some p ∧ h < 9 ∧ vd_hol M h = some p := fun j hj => by
      cases hr : vd_r M 12 j with
      | none => exact absurd ⟨j, Nat.zero_le j, hj, Or.inl hr⟩ no
      | some p =>
        apply Classical.byContradiction
        intro no2
        exact no ⟨j, Nat.zero_le j, hj, Or.inr ⟨p, hr, fun h hh x => no2 ⟨p, h, rfl, hh, x⟩⟩⟩
    obtain ⟨hm, hh⟩ : ∃ hm : Nat → Nat, ∀ j, j < 10 → hm j < 9 ∧ vd_hol M (hm j) = vd_r M 12 j ∧ vd_r M 12 j ≠ none := by
      have ch : ∀ j, ∃ h, j < 10 → h < 9 ∧ vd_hol M h = vd_r M 12 j ∧ vd_r M 12 j ≠ none := fun j => by
        by_cases hj : j < 10
        · obtain ⟨p, h, a, b, c⟩ := all j hj
          exact ⟨h, fun _ => ⟨b, by rw [a]; exact c, by rw [a]; simp⟩⟩
        · exact ⟨0, fun q => absurd q hj⟩
      exact ⟨fun j => Classical.choose (ch j), fun j hj => Classical.choose_spec (ch j) hj⟩
    obtain ⟨i, j, a, b, e⟩ := vd_pigeon 9 hm (fun i hi => (hh i hi).1)
    have x1 := (hh i (by omega)).2.1
    have x2 := (hh j (by omega)).2.1
    rw [e, x2] at x1
    rcases hL.1 i (by omega) with q | ⟨p, s, q1, q2, _⟩
    · exact absurd q (hh i (by omega)).2.2
    · rcases hL.1 j (by omega) with r | ⟨p', s', r1, r2, _⟩
      · exact absurd r (hh j (by omega)).2.2
      · have ne := hL.2.1 i j p p' s s' (by omega) (by omega) (by omega) q1 r1 q2 r2
        rw [q1, r1] at x1
        exact ne.1 (Option.some.inj x1).symm)
  exact ⟨M', f', p, s, fun d Q => by rw [vd_S60_0 hM]; exact e d Q, hF⟩
end VDFQ
