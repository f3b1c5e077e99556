/-! ===== the reference's scans ===== -/
def vd_wX (sort : Nat) : Nat := if sort = 2 then 4 else 1
def vd_wY (sort : Nat) : Nat := if sort = 1 then 4 else 1
section VDSR
variable {M : vd_M} {o oc sort s n most N : Nat}
theorem vd_L165x (ho : 10 ≤ oc) (hk : vd_k M oc = 32) (hl : vd_l M oc = n * n) (hn : 1 ≤ n ∧ n ≤ 32) (hsort : sort < 3) (hc : vd_scn n (vd_wX sort) (vd_wY sort) N = n * n) (hmost : most ≤ 200) {key y : Nat} (hkey : key < most) (hy : y < n) (hN : key * n + y < N) (j : Nat) : ∀ (x a : Nat) (f : Nat → Nat → Int32), x + j = n → a = vd_scn n (vd_wX sort) (vd_wY sort) (key * n + y) + (if vd_sv n (vd_wX sort) (vd_wY sort) (key * n + y) = true ∧ (key - vd_wY sort * y) / vd_wX sort < x then 1 else 0) → (∀ i, i < a → f oc i = vd_I ((vd_sZ n (vd_wX sort) (vd_wY sort) N i : Nat) : Int)) → ∃ f' : Nat → Nat → Int32, (∀ d Q, vd_wp d 165 58 [.ref o, .int (vd_I (sort : Int)), .int (vd_I (s : Int)), .int (vd_I (n : Int)), .ref oc, .int (vd_I (a : Int)), .int (vd_I (most : Int)), .int (vd_I (key : Int)), .int (vd_I (y : Int)), .int (vd_I (x : Int))] [] (vd_mf M f) Q = vd_wp d 165 124 [.ref o, .int (vd_I (sort : Int)), .int (vd_I (s : Int)), .int (vd_I (n : Int)), .ref oc, .int (vd_I ((vd_scn n (vd_wX sort) (vd_wY sort) (key * n + (y + 1)) : Nat) : Int)), .int (vd_I (most : Int)), .int (vd_I (key : Int)), .int (vd_I (y : Int)), .int (vd_I (n : Int))] [] (vd_mf M f') Q) ∧ (∀ i, i < vd_scn n (vd_wX sort) (vd_wY sort) (key * n + (y + 1)) → f' oc i = vd_I ((vd_sZ n (vd_wX sort) (vd_wY sort) N i : Nat) : Int)) ∧ (∀ c i, c ≠ oc → f' c i = f c i) := by
  obtain ⟨wx, hwx⟩ : ∃ wx, wx = vd_wX sort := ⟨_, rfl⟩
  obtain ⟨wy, hwy⟩ : ∃ wy, wy = vd_wY sort := ⟨_, rfl⟩
  have bx : 1 ≤ wx ∧ wx ≤ 4 := by rw [hwx]; unfold vd_wX; split <;> omega
  have by_ : 1 ≤ wy ∧ wy ≤ 4 := by rw [hwy]; unfold vd_wY; split <;> omega
  rw [← hwx, ← hwy] at hc ⊢
  obtain ⟨e1, e2⟩ := vd_skey (n := n) (key := key) hy
  have snx : vd_scn n wx wy (key * n + (y + 1)) = vd_scn n wx wy (key * n + y) + (if vd_sv n wx wy (key * n + y) = true then 1 else 0) := rfl
  have iff0 : ∀ x, x < n → (wx * x + wy * y = key ↔ vd_sv n wx wy (key * n + y) = true ∧ (key - wy * y) / wx = x) := fun x hx => by
    rw [vd_sv_iff, e1, e2]
    constructor
    · intro h
      have e3 : key - wy * y = wx * x := by omega
      rw [e3, Nat.mul_div_cancel_left _ (by omega)]
      exact ⟨⟨by omega, Nat.mul_mod_right _ _, hx⟩, rfl⟩
    · rintro ⟨⟨h1, h2, _⟩, h4⟩
      have e3 : wx * ((key - wy * y) / wx) = key - wy * y := Nat.mul_div_cancel' (Nat.dvd_of_mod_eq_zero h2)
      rw [h4] at e3
      omega
  have vx : vd_sv n wx wy (key * n + y) = true → (key - wy * y) / wx < n := fun v => by
    have := (vd_sv_iff.mp v).2.2
    rw [e1, e2] at this
    exact this
  obtain ⟨x0, hx0⟩ : ∃ x0, x0 = (key - wy * y) / wx := ⟨_, rfl⟩
  rw [← hx0] at vx
  have su : vd_suv n wx wy (key * n + y) = y * n + x0 := by
    unfold vd_suv
    rw [e1, e2, ← hx0]
  obtain ⟨v, hv⟩ : ∃ v, v = vd_sv n wx wy (key * n + y) := ⟨_, rfl⟩
  obtain ⟨p, hp⟩ : ∃ p, p = vd_scn n wx wy (key * n + y) := ⟨_, rfl⟩
  have plt : v = true → p < n * n ∧ vd_sZ n wx wy N p = y * n + x0 := fun q => by
    rw [hv] at q
    rw [hp]
    refine ⟨?_, by rw [vd_sZ_at hN q, su]⟩
    rw [← hc]
    exact vd_scn_lt hN q
  have nn : n * n ≤ 32 * 32 := Nat.mul_le_mul hn.2 hn.2
  rw [← hv] at vx
  rw [← hv, ← hp] at snx
  simp only [← hx0, ← hv, ← hp]
  simp only [← hx0, ← hv] at iff0
  rw [snx]
  clear hp hv su hc hN e1 e2 snx
  induction j with
  | zero =>
    intro x a f h ha hf
    have hx : x = n := by omega
    subst hx
    have ea : a = p + (if v = true then 1 else 0) := by
      rw [ha]
      by_cases q : v = true
      · rw [if_pos ⟨q, vx q⟩, if_pos q]
      · rw [if_neg (fun y => q y.1), if_neg q]
    rw [← ea]
    refine ⟨f, fun d Q => ?_, hf, fun _ _ _ => rfl⟩
    rw [vd_S165_58, if_neg (Int.lt_irrefl _)]
  | succ j ih =>
    intro x a f h ha hf
    have hx : x < n := by omega
    have ex : (x : Int) + 1 = ((x + 1 : Nat) : Int) := by omega
    have wxx : wx * x ≤ 4 * 32 := Nat.mul_le_mul bx.2 (by omega)
    have wyy : wy * y ≤ 4 * 32 := Nat.mul_le_mul by_.2 (by omega)
    have lt0 : (vd_I (x : Int)).toInt < (vd_I (n : Int)).toInt := by rw [vd_I_toInt (by omega) (by omega), vd_I_toInt (by omega) (by omega)]; omega
    have eF : ∀ d Q, vd_wp d 165 58 [.ref o, .int (vd_I (sort : Int)), .int (vd_I (s : Int)), .int (vd_I (n : Int)), .ref oc, .int (vd_I (a : Int)), .int (vd_I (most : Int)), .int (vd_I (key : Int)), .int (vd_I (y : Int)), .int (vd_I (x : Int))] [] (vd_mf M f) Q = if ((wx * x + wy * y : Nat) : Int) = (key : Int) then vd_wp d 165 103 [.ref o, .int (vd_I (sort : Int)), .int (vd_I (s : Int)), .int (vd_I (n : Int)), .ref oc, .int (vd_I (a : Int)), .int (vd_I (most : Int)), .int (vd_I (key : Int)), .int (vd_I (y : Int)), .int (vd_I (x : Int))] [] (vd_mf M f) Q else vd_wp d 165 118 [.ref o, .int (vd_I (sort : Int)), .int (vd_I (s : Int)), .int (vd_I (n : Int)), .ref oc, .int (vd_I (a : Int)), .int (vd_I (most : Int)), .int (vd_I (key : Int)), .int (vd_I (y : Int)), .int (vd_I (x : Int))] [] (vd_mf M f) Q := fun d Q => by
      have go : ∀ z : Int32, z = vd_I ((wx * x + wy * y : Nat) : Int) → vd_wp d 165 98 [.ref o, .int (vd_I (sort : Int)), .int (vd_I (s : Int)), .int (vd_I (n : Int)), .ref oc, .int (vd_I (a : Int)), .int (vd_I (most : Int)), .int (vd_I (key : Int)), .int (vd_I (y : Int)), .int (vd_I (x : Int))] [.int z] (vd_mf M f) Q = if ((wx * x + wy * y : Nat) : Int) = (key : Int) then vd_wp d 165 103 [.ref o, .int (vd_I (sort : Int)), .int (vd_I (s : Int)), .int (vd_I (n : Int)), .ref oc, .int (vd_I (a : Int)), .int (vd_I (most : Int)), .int (vd_I (key : Int)), .int (vd_I (y : Int)), .int (vd_I (x : Int))] [] (vd_mf M f) Q else vd_wp d 165 118 [.ref o, .int (vd_I (sort : Int)), .int (vd_I (s : Int)), .int (vd_I (n : Int)), .ref oc, .int (vd_I (a : Int)), .int (vd_I (most : Int)), .int (vd_I (key : Int)), .int (vd_I (y : Int)), .int (vd_I (x : Int))] [] (vd_mf M f) Q := fun z hz => by
        rw [vd_S165_98, hz, vd_I_toInt (by omega) (by omega), vd_I_toInt (by omega) (by omega)]
      have h3 : sort = 0 ∨ sort = 1 ∨ sort = 2 := by omega
      rw [vd_S165_58, if_pos lt0, vd_S165_64]
      rcases h3 with h3 | h3 | h3
      · have w1 : wx = 1 := by rw [hwx, h3]; rfl
        have w2 : wy = 1 := by rw [hwy, h3]; rfl
        rw [if_pos (by rw [h3]; decide), vd_S165_68]
        refine go _ ?_
        rw [vd_I_add, w1, w2]
        congr 1
        omega
      · have w1 : wx = 1 := by rw [hwx, h3]; rfl
        have w2 : wy = 4 := by rw [hwy, h3]; rfl
        rw [if_neg (by rw [h3]; decide), vd_S165_76, if_pos (by rw [h3]; decide), vd_S165_81]
        refine go _ ?_
        rw [vd_I_mul, vd_I_add, w1, w2]
        congr 1
        omega
      · have w1 : wx = 4 := by rw [hwx, h3]; rfl
        have w2 : wy = 1 := by rw [hwy, h3]; rfl
        rw [if_neg (by rw [h3]; decide), vd_S165_76, if_neg (by rw [h3]; decide), vd_S165_91]
        refine go _ ?_
        rw [vd_I_mul, vd_I_add, w1, w2]
        congr 1
        omega
    by_cases c : wx * x + wy * y = key
    · obtain ⟨vt, ex0⟩ := (iff0 x hx).mp c
      have ea : a = p := by rw [ha, if_neg (by omega), Nat.add_zero]
      subst ea
      obtain ⟨alt, az⟩ := plt vt
      obtain ⟨f1, hf1⟩ : ∃ f1, f1 = vd_up f oc a (vd_I ((vd_sZ n wx wy N a : Nat) : Int)) := ⟨_, rfl⟩
      obtain ⟨f', r1, r2, r3⟩ := ih (x + 1) (a + 1) f1 (by omega) (by rw [if_pos ⟨vt, by omega⟩]) (fun i hi => by
        rw [hf1]
        by_cases q : i = a
        · subst q
          rw [vd_up_eq]
        · rw [vd_up_ne (by omega)]
          exact hf i (by omega))
      refine ⟨f', fun d Q => ?_, r2, fun c' i q => by rw [r3 c' i q, hf1, vd_up_ne (by omega)]⟩
      have e1' : (a : Int) + 1 = ((a + 1 : Nat) : Int) := by omega
      have eyn : (y : Int) * (n : Int) = ((y * n : Nat) : Int) := (Int.natCast_mul y n).symm
      have ev : ((y * n : Nat) : Int) + (x : Int) = ((vd_sZ n wx wy N a : Nat) : Int) := by
        rw [az, ex0]
        omega
      have lb : (a : Int) < (vd_l M oc : Int) := by rw [hl]; omega
      rw [eF d Q, if_pos (by omega), vd_S165_103, vd_I_mul, eyn, vd_I_add, vd_I_add, e1', ev, vd_S165_117 _ _ _ _ _ _ _ _ _ _ _ _ _ _ _ _ (show (0 : Int) ≤ (a : Int) by omega) lb (by omega) ho hk, Int.toNat_natCast, ← hf1, vd_S165_118, vd_I_add, ex]
      exact r1 d Q
    · obtain ⟨f', r1, r2, r3⟩ := ih (x + 1) a f (by omega) (by
        rw [ha]
        congr 1
        by_cases q : v = true
        · have ne : x0 ≠ x := fun y' => c ((iff0 x hx).mpr ⟨q, y'⟩)
          by_cases q2 : x0 < x
          · rw [if_pos ⟨q, q2⟩, if_pos ⟨q, by omega⟩]
          · rw [if_neg (fun y' => q2 y'.2), if_neg (fun y' => by have := y'.2; omega)]
        · rw [if_neg (fun y' => q y'.1), if_neg (fun y' => q y'.1)]) hf
      refine ⟨f', fun d Q => ?_, r2, r3⟩
      rw [eF d Q, if_neg (by omega), vd_S165_118, vd_I_add, ex]
      exact r1 d Q
theorem vd_L165y (ho : 10 ≤ oc) (hk : vd_k M oc = 32) (hl : vd_l M oc = n * n) (hn : 1 ≤ n ∧ n ≤ 32) (hsort : sort < 3) (hc : vd_scn n (vd_wX sort) (vd_wY sort) N = n * n) (hmost : most ≤ 200) {key : Nat} (hkey : key < most) (hN : key * n + n ≤ N) (j : Nat) : ∀ (y : Nat) (f : Nat → Nat → Int32) (a9 : Value), y + j = n → (y < n ∨ a9 = .int (vd_I (n : Int))) → (∀ i, i < vd_scn n (vd_wX sort) (vd_wY sort) (key * n + y) → f oc i = vd_I ((vd_sZ n (vd_wX sort) (vd_wY sort) N i : Nat) : Int)) → ∃ f' : Nat → Nat → Int32, (∀ d Q, vd_wp d 165 49 [.ref o, .int (vd_I (sort : Int)), .int (vd_I (s : Int)), .int (vd_I (n : Int)), .ref oc, .int (vd_I ((vd_scn n (vd_wX sort) (vd_wY sort) (key * n + y) : Nat) : Int)), .int (vd_I (most : Int)), .int (vd_I (key : Int)), .int (vd_I (y : Int)), a9] [] (vd_mf M f) Q = vd_wp d 165 130 [.ref o, .int (vd_I (sort : Int)), .int (vd_I (s : Int)), .int (vd_I (n : Int)), .ref oc, .int (vd_I ((vd_scn n (vd_wX sort) (vd_wY sort) (key * n + n) : Nat) : Int)), .int (vd_I (most : Int)), .int (vd_I (key : Int)), .int (vd_I (n : Int)), .int (vd_I (n : Int))] [] (vd_mf M f') Q) ∧ (∀ i, i < vd_scn n (vd_wX sort) (vd_wY sort) (key * n + n) → f' oc i = vd_I ((vd_sZ n (vd_wX sort) (vd_wY sort) N i : Nat) : Int)) ∧ (∀ c i, c ≠ oc → f' c i = f c i) := by
  induction j with
  | zero =>
    intro y f a9 h ha hf
    have hy : y = n := by omega
    subst hy
    have ha' : a9 = .int (vd_I (y : Int)) := by
      rcases ha with q | q
      · omega
      · exact q
    subst ha'
    refine ⟨f, fun d Q => ?_, hf, fun _ _ _ => rfl⟩
    rw [vd_S165_49, if_neg (Int.lt_irrefl _)]
  | succ j ih =>
    intro y f a9 h ha hf
    have ey : (y : Int) + 1 = ((y + 1 : Nat) : Int) := by omega
    obtain ⟨f1, r1, r2, r3⟩ := vd_L165x (M := M) (o := o) (s := s) ho hk hl hn hsort hc hmost hkey (y := y) (by omega) (by omega) n 0 _ f (by omega) rfl (fun i hi => hf i (by rw [if_neg (fun q => absurd q.2 (Nat.not_lt_zero _)), Nat.add_zero] at hi; exact hi))
    rw [if_neg (show ¬ (vd_sv n (vd_wX sort) (vd_wY sort) (key * n + y) = true ∧ (key - vd_wY sort * y) / vd_wX sort < 0) from fun q => absurd q.2 (Nat.not_lt_zero _)), Nat.add_zero, show vd_I ((0 : Nat) : Int) = vd_I 0 from rfl] at r1
    obtain ⟨f', q1, q2, q3⟩ := ih (y + 1) f1 (.int (vd_I (n : Int))) (by omega) (Or.inr rfl) r2
    refine ⟨f', fun d Q => ?_, q2, fun c i q => by rw [q3 c i q, r3 c i q]⟩
    rw [vd_S165_49, if_pos (by rw [vd_I_toInt (by omega) (by omega), vd_I_toInt (by omega) (by omega)]; omega), vd_S165_55, r1 d Q, vd_S165_124, vd_I_add, ey]
    exact q1 d Q
theorem vd_L165k (ho : 10 ≤ oc) (hk : vd_k M oc = 32) (hl : vd_l M oc = n * n) (hn : 1 ≤ n ∧ n ≤ 32) (hsort : sort < 3) (hc : vd_scn n (vd_wX sort) (vd_wY sort) (most * n) = n * n) (hmost : most ≤ 200) (j : Nat) : ∀ (key : Nat) (f : Nat → Nat → Int32) (a8 a9 : Value), key + j = most → (key < most ∨ (a8 = .int (vd_I (n : Int)) ∧ a9 = .int (vd_I (n : Int)))) → (∀ i, i < vd_scn n (vd_wX sort) (vd_wY sort) (key * n) → f oc i = vd_I ((vd_sZ n (vd_wX sort) (vd_wY sort) (most * n) i : Nat) : Int)) → ∃ f' : Nat → Nat → Int32, (∀ d Q, vd_wp d 165 39 [.ref o, .int (vd_I (sort : Int)), .int (vd_I (s : Int)), .int (vd_I (n : Int)), .ref oc, .int (vd_I ((vd_scn n (vd_wX sort) (vd_wY sort) (key * n) : Nat) : Int)), .int (vd_I (most : Int)), .int (vd_I (key : Int)), a8, a9] [] (vd_mf M f) Q = vd_wp d 165 136 [.ref o, .int (vd_I (sort : Int)), .int (vd_I (s : Int)), .int (vd_I (n : Int)), .ref oc, .int (vd_I ((n * n : Nat) : Int)), .int (vd_I (most : Int)), .int (vd_I (most : Int)), .int (vd_I (n : Int)), .int (vd_I (n : Int))] [] (vd_mf M f') Q) ∧ (∀ i, i < n * n → f' oc i = vd_I ((vd_sZ n (vd_wX sort) (vd_wY sort) (most * n) i : Nat) : Int)) ∧ (∀ c i, c ≠ oc → f' c i = f c i) := by
  induction j with
  | zero =>
    intro key f a8 a9 h ha hf
    have hkk : key = most := by omega
    subst hkk
    have ha' : a8 = .int (vd_I (n : Int)) ∧ a9 = .int (vd_I (n : Int)) := by
      rcases ha with q | q
      · omega
      · exact q
    obtain ⟨h8, h9⟩ := ha'
    subst h8 h9
    rw [hc] at hf ⊢
    refine ⟨f, fun d Q => ?_, hf, fun _ _ _ => rfl⟩
    rw [vd_S165_39, if_neg (Int.lt_irrefl _)]
  | succ j ih =>
    intro key f a8 a9 h ha hf
    have ek : (key : Int) + 1 = ((key + 1 : Nat) : Int) := by omega
    have kn' : key * n + n = (key + 1) * n := (Nat.succ_mul key n).symm
    have kn : (key + 1) * n ≤ most * n := Nat.mul_le_mul_right n (by omega)
    obtain ⟨f1, r1, r2, r3⟩ := vd_L165y (M := M) (o := o) (s := s) ho hk hl hn hsort hc hmost (key := key) (by omega) (by omega) n 0 f a9 (by omega) (Or.inl (by omega)) hf
    rw [kn'] at r1 r2
    obtain ⟨f', q1, q2, q3⟩ := ih (key + 1) f1 (.int (vd_I (n : Int))) (.int (vd_I (n : Int))) (by omega) (Or.inr ⟨rfl, rfl⟩) r2
    refine ⟨f', fun d Q => ?_, q2, fun c i q => by rw [q3 c i q, r3 c i q]⟩
    have r1' := r1 d Q
    rw [show vd_I ((0 : Nat) : Int) = vd_I 0 from rfl, Nat.add_zero] at r1'
    rw [vd_S165_39, if_pos (by rw [vd_I_toInt (by omega) (by omega), vd_I_toInt (by omega) (by omega)]; omega), vd_S165_46, r1', vd_S165_130, vd_I_add, ek]
    exact q1 d Q
/-- one scan of the reference -/
theorem vd_scanR (ho : 10 ≤ oc) (hk : vd_k M oc = 32) (hl : vd_l M oc = n * n) (hn : 1 ≤ n ∧ n ≤ 32) (hsort : sort < 3) (hc : vd_scn n (vd_wX sort) (vd_wY sort) (most * n) = n * n) (hmost : 1 ≤ most ∧ most ≤ 200) (f : Nat → Nat → Int32) (a8 a9 : Value) : ∃ f' : Nat → Nat → Int32, (∀ d Q, vd_wp d 165 39 [.ref o, .int (vd_I (sort : Int)), .int (vd_I (s : Int)), .int (vd_I (n : Int)), .ref oc, .int (vd_I 0), .int (vd_I (most : Int)), .int (vd_I 0), a8, a9] [] (vd_mf M f) Q = vd_wp d 165 136 [.ref o, .int (vd_I (sort : Int)), .int (vd_I (s : Int)), .int (vd_I (n : Int)), .ref oc, .int (vd_I ((n * n : Nat) : Int)), .int (vd_I (most : Int)), .int (vd_I (most : Int)), .int (vd_I (n : Int)), .int (vd_I (n : Int))] [] (vd_mf M f') Q) ∧ (∀ i, i < n * n → f' oc i = vd_I ((vd_sZ n (vd_wX sort) (vd_wY sort) (most * n) i : Nat) : Int)) ∧ (∀ c i, c ≠ oc → f' c i = f c i) := by
  have s0 : vd_scn n (vd_wX sort) (vd_wY sort) (0 * n) = 0 := by rw [Nat.zero_mul]; rfl
  obtain ⟨f', q1, q2, q3⟩ := vd_L165k (M := M) (o := o) (s := s) ho hk hl hn hsort hc hmost.2 most 0 f a8 a9 (by omega) (Or.inl (by omega)) (fun i hi => by rw [s0] at hi; omega)
  rw [s0] at q1
  exact ⟨f', q1, q2, q3⟩
end VDSR
