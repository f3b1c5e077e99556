/-! ===== loops of the constructors ===== -/
section VDLP
variable {M : vd_M}
theorem vd_odd (x : Int32) : (x &&& vd_I 1).toInt = 1 ↔ ¬ ((x &&& vd_I 1).toInt = 0) := by
  obtain ⟨z, hz, z0, z1⟩ := vd_I_of x
  subst hz
  rw [vd_and1, vd_I_toInt (by omega) (by omega)]
  omega
theorem vd_L1c {o : Nat} (x1 : Int32) (f : Nat → Nat → Int32) (d : Nat) (Q : vd_M → (Option Value ⊕ Nat) → Prop) (n : Nat) : ∀ (k : Nat) (c : Int32), k + n = 8 → vd_wp d 1 201 [.ref o, .int x1, .int c, .int (vd_I (k : Int))] [] (vd_mf M f) Q = vd_wp d 1 233 [.ref o, .int x1, .int (vd_cr n c), .int (vd_I 8)] [] (vd_mf M f) Q := by
  induction n with
  | zero =>
    intro k c h
    have hk : k = 8 := by omega
    subst hk
    rw [vd_S1_201]
    exact if_neg (by decide)
  | succ n ih =>
    intro k c h
    have e : (k : Int) + 1 = ((k + 1 : Nat) : Int) := by omega
    refine Eq.trans ?_ (ih (k + 1) (vd_crs c) (by omega))
    rw [vd_S1_201, if_pos (by rw [vd_I_toInt (by omega) (by omega), show (vd_I 8).toInt = 8 by decide]; omega), vd_S1_207]
    by_cases c0 : (c &&& vd_I 1).toInt = 0
    · have ec : vd_crs c = (c.toUInt32 >>> ((vd_I 1).toUInt32 &&& Int32.toUInt32 31)).toInt32 := if_pos c0
      rw [if_neg (by rw [c0]; decide), vd_S1_223, vd_S1_226, ec, vd_I_add, e]
    · have ec : vd_crs c = (c.toUInt32 >>> ((vd_I 1).toUInt32 &&& Int32.toUInt32 31)).toInt32 ^^^ vd_I (-306674912) := if_neg c0
      rw [if_pos (by rw [(vd_odd c).mpr c0]; decide), vd_S1_214, vd_S1_226, ec, vd_I_add, e]
/-- the table of the check -/
theorem vd_L1t {o c : Nat} (hk : vd_k M o = 0) (hr : vd_r M o 11 = some c) (hc : 10 ≤ c) (kc : vd_k M c = 32) (lc : vd_l M c = 256) (n : Nat) : ∀ (k : Nat) (f : Nat → Nat → Int32) (a2 a3 : Value), k + n = 256 → (∀ i, i < k → f c i = vd_cr 8 (vd_I (i : Int))) → ∃ f' : Nat → Nat → Int32, (∀ d Q, vd_wp d 1 190 [.ref o, .int (vd_I (k : Int)), a2, a3] [] (vd_mf M f) Q = Q (vd_mf M f') (.inl none)) ∧ (∀ i, i < 256 → f' c i = vd_cr 8 (vd_I (i : Int))) ∧ (∀ a i, a ≠ c → f' a i = f a i) := by
  induction n with
  | zero =>
    intro k f a2 a3 h hf
    have hk' : k = 256 := by omega
    subst hk'
    refine ⟨f, fun d Q => ?_, hf, fun _ _ _ => rfl⟩
    rw [vd_S1_190, if_neg (by decide), vd_S1_246]
  | succ n ih =>
    intro k f a2 a3 h hf
    have e : (k : Int) + 1 = ((k + 1 : Nat) : Int) := by omega
    obtain ⟨f1, hf1⟩ : ∃ f1, f1 = vd_up f c k (vd_cr 8 (vd_I (k : Int))) := ⟨_, rfl⟩
    obtain ⟨f', r1, r2, r3⟩ := ih (k + 1) f1 (.int (vd_cr 8 (vd_I (k : Int)))) (.int (vd_I 8)) (by omega) (fun i hi => by
      rw [hf1]
      by_cases q : i = k
      · subst q
        rw [vd_up_eq]
      · rw [vd_up_ne (by omega)]
        exact hf i (by omega))
    refine ⟨f', fun d Q => ?_, r2, fun a i q => by rw [r3 a i q, hf1, vd_up_ne (by omega)]⟩
    have l := vd_L1c (M := M) (o := o) (vd_I (k : Int)) f d Q 8 0 (vd_I (k : Int)) (by omega)
    rw [show vd_I ((0 : Nat) : Int) = vd_I 0 from rfl] at l
    have lb : (k : Int) < (vd_l M c : Int) := by rw [lc]; omega
    rw [vd_S1_190, if_pos (by rw [vd_I_toInt (by omega) (by omega), show (vd_I 256).toInt = 256 by decide]; omega), vd_S1_197, l]
    simp (disch := first | assumption | omega) only [vd_S1_233, hr, vd_vr_some, vd_S1_239, Int.toNat_natCast, ← hf1, vd_I_add, e]
    exact r1 d Q
/-- a wave -/
theorem vd_P11 (k0 : vd_k M 0 = 32) (l0 : vd_l M 0 = 33) {f : Nat → Nat → Int32} (hW : ∀ j, j < 33 → f 0 j = vd_I (vd_gL.getD j 0)) {j : Nat} (hj : j < 128) (d : Nat) (Q : vd_M → (Option Value ⊕ Nat) → Prop) : vd_wp d 11 0 [.int (vd_I (j : Int)), vd_U] [] (vd_mf M f) Q = Q (vd_mf M f) (.inl (some (.int (vd_I (vd_gg j))))) := by
  have hg : vd_gg j = vd_g2 (if 64 < j then 128 - j else j) := by
    unfold vd_gg
    rw [Nat.mod_eq_of_lt hj]
  have key : ∀ h : Nat, h ≤ 64 → vd_wp d 11 15 [.int (vd_I (j : Int)), vd_U] [.int (vd_I (h : Int))] (vd_mf M f) Q = Q (vd_mf M f) (.inl (some (.int (vd_I (vd_g2 h))))) := fun h hh => by
    rw [vd_S11_15]
    by_cases c : 32 < h
    · have e : (64 : Int) - (h : Int) = ((64 - h : Nat) : Int) := by omega
      have lb : ((64 - h : Nat) : Int) < (vd_l M 0 : Int) := by rw [l0]; omega
      have eg : vd_g2 h = -(vd_gL.getD (64 - h) 0) := by
        unfold vd_g2
        rw [if_pos c]
      rw [if_pos (by rw [vd_I_toInt (by omega) (by omega), vd_I_toInt (by omega) (by omega)]; omega)]
      simp (disch := first | assumption | omega) only [vd_S11_22, vd_I_sub, e, vd_S11_29, Int.toNat_natCast, hW, vd_I_neg, vd_S11_39, eg]
    · have lb : (h : Int) < (vd_l M 0 : Int) := by rw [l0]; omega
      have eg : vd_g2 h = vd_gL.getD h 0 := by
        unfold vd_g2
        rw [if_neg c]
      rw [if_neg (by rw [vd_I_toInt (by omega) (by omega), vd_I_toInt (by omega) (by omega)]; omega)]
      simp (disch := first | assumption | omega) only [vd_S11_34, vd_S11_38, Int.toNat_natCast, hW, vd_S11_39, eg]
  rw [vd_S11_0, hg]
  by_cases c : 64 < j
  · have e : (128 : Int) - (j : Int) = ((128 - j : Nat) : Int) := by omega
    rw [if_pos (by rw [vd_I_toInt (by omega) (by omega), vd_I_toInt (by omega) (by omega)]; omega), vd_S11_6, vd_I_sub, e, if_pos c]
    exact key (128 - j) (by omega)
  · rw [if_neg (by rw [vd_I_toInt (by omega) (by omega), vd_I_toInt (by omega) (by omega)]; omega), vd_S11_14, if_neg c]
    exact key j (by omega)
/-- a row of the waves -/
theorem vd_L8n {o w : Nat} (o1 o2 o3 : Nat) (hk : vd_k M o = 9) (hr : vd_r M o 5 = some w) (hw : 10 ≤ w) (kw : vd_k M w = 32) (lw : vd_l M w = 1024) (k0 : vd_k M 0 = 32) (l0 : vd_l M 0 = 33) {k : Nat} (hk32 : k < 32) (j : Nat) : ∀ (n : Nat) (f : Nat → Nat → Int32), n + j = 32 → (∀ i, i < 33 → f 0 i = vd_I (vd_gL.getD i 0)) → (∀ i, i < 32 * k + n → f w i = vd_I (vd_Tc 32 (i / 32) (i % 32))) → ∃ f' : Nat → Nat → Int32, (∀ d Q, vd_wp (d + 1) 8 209 [.ref o, .ref o1, .ref o2, .ref o3, .int (vd_I (k : Int)), .int (vd_I (n : Int))] [] (vd_mf M f) Q = vd_wp (d + 1) 8 261 [.ref o, .ref o1, .ref o2, .ref o3, .int (vd_I (k : Int)), .int (vd_I 32)] [] (vd_mf M f') Q) ∧ (∀ i, i < 32 * k + 32 → f' w i = vd_I (vd_Tc 32 (i / 32) (i % 32))) ∧ (∀ a i, a ≠ w → f' a i = f a i) := by
  induction j with
  | zero =>
    intro n f h hW hf
    have hn : n = 32 := by omega
    subst hn
    refine ⟨f, fun d Q => ?_, hf, fun _ _ _ => rfl⟩
    rw [vd_S8_209, if_neg (by decide)]
    rfl
  | succ j ih =>
    intro n f h hW hf
    have e : (n : Int) + 1 = ((n + 1 : Nat) : Int) := by omega
    have ei : (k : Int) * 32 + (n : Int) = ((32 * k + n : Nat) : Int) := by omega
    have ed : (32 * k + n) / 32 = k ∧ (32 * k + n) % 32 = n := by omega
    obtain ⟨f1, hf1⟩ : ∃ f1, f1 = vd_up f w (32 * k + n) (vd_I (vd_Tc 32 k n)) := ⟨_, rfl⟩
    obtain ⟨f', r1, r2, r3⟩ := ih (n + 1) f1 (by omega) (fun i hi => by rw [hf1, vd_up_ne (by omega)]; exact hW i hi) (fun i hi => by
      rw [hf1]
      by_cases q : i = 32 * k + n
      · rw [q, vd_up_eq, ed.1, ed.2]
      · rw [vd_up_ne (by omega)]
        exact hf i (by omega))
    refine ⟨f', fun d Q => ?_, r2, fun a i q => by rw [r3 a i q, hf1, vd_up_ne (by omega)]⟩
    have lb : ((32 * k + n : Nat) : Int) < (vd_l M w : Int) := by rw [lw]; omega
    have t0 : vd_wp (d + 1) 8 254 [.ref o, .ref o1, .ref o2, .ref o3, .int (vd_I (k : Int)), .int (vd_I (n : Int))] [.int (vd_I (vd_Tc 32 k n)), .int (vd_I ((32 * k + n : Nat) : Int)), .ref w] (vd_mf M f) Q = vd_wp (d + 1) 8 209 [.ref o, .ref o1, .ref o2, .ref o3, .int (vd_I (k : Int)), .int (vd_I ((n + 1 : Nat) : Int))] [] (vd_mf M f1) Q := by
      simp (disch := first | assumption | omega) only [vd_S8_254, Int.toNat_natCast, ← hf1, vd_I_add, e]
    rw [← r1 d Q, ← t0, vd_S8_209, if_pos (by rw [vd_I_toInt (by omega) (by omega), show (vd_I 32).toInt = 32 by decide]; omega), vd_S8_216 _ _ _ _ _ _ _ _ _ hk, hr, vd_vr_some, vd_I_mul, vd_I_add, ei]
    by_cases c : k = 0
    · have et : vd_Tc 32 k n = 64 := by
        unfold vd_Tc
        rw [if_pos c]
      rw [if_pos (by rw [c]; decide), vd_S8_233, et]
    · obtain ⟨p, hp⟩ : ∃ p, p = (2 * n + 1) * k := ⟨_, rfl⟩
      have pb : (2 * n + 1) * k ≤ 64 * 31 := Nat.mul_le_mul (by omega) (by omega)
      have ep : ((2 : Int) * (n : Int) + 1) * (k : Int) = (p : Int) := by
        rw [hp, Int.natCast_mul, Int.natCast_add, Int.natCast_mul]
        rfl
      have em : (p : Int) % 128 = ((p % 128 : Nat) : Int) := by omega
      have et : vd_Tc 32 k n = vd_gg (p % 128) := by
        unfold vd_Tc
        rw [if_neg c, hp]
        unfold vd_gg
        rw [show (32 : Nat) / 32 = 1 from rfl, Nat.mul_one, Nat.mod_mod]
      have q11 := vd_P11 (M := M) k0 l0 (f := f) hW (j := p % 128) (Nat.mod_lt _ (by decide)) d
      have cs : vd_cs [Value.int (vd_I ((32 * k + n : Nat) : Int)), .ref w] ≤ 8 := of_decide_eq_true rfl
      rw [if_neg (by rw [vd_I_toInt (by omega) (by omega)]; omega), vd_S8_238, vd_I_mul, vd_I_add, vd_I_mul, ep, vd_I_rem (by omega) (by omega) (by omega) (by omega), em, vd_S8_251 _ _ _ _ _ _ _ _ _ _ _ _ cs, q11, vd_rs_v, et]
theorem vd_L8k {o w : Nat} (o1 o2 o3 : Nat) (hk : vd_k M o = 9) (hr : vd_r M o 5 = some w) (hw : 10 ≤ w) (kw : vd_k M w = 32) (lw : vd_l M w = 1024) (k0 : vd_k M 0 = 32) (l0 : vd_l M 0 = 33) (j : Nat) : ∀ (k : Nat) (f : Nat → Nat → Int32) (a5 : Value), k + j = 32 → (∀ i, i < 33 → f 0 i = vd_I (vd_gL.getD i 0)) → (∀ i, i < 32 * k → f w i = vd_I (vd_Tc 32 (i / 32) (i % 32))) → ∃ f' : Nat → Nat → Int32, (∀ d Q, vd_wp (d + 1) 8 199 [.ref o, .ref o1, .ref o2, .ref o3, .int (vd_I (k : Int)), a5] [] (vd_mf M f) Q = Q (vd_mf M f') (.inl none)) ∧ (∀ i, i < 1024 → f' w i = vd_I (vd_Tc 32 (i / 32) (i % 32))) ∧ (∀ a i, a ≠ w → f' a i = f a i) := by
  induction j with
  | zero =>
    intro k f a5 h hW hf
    have hk' : k = 32 := by omega
    subst hk'
    refine ⟨f, fun d Q => ?_, hf, fun _ _ _ => rfl⟩
    rw [vd_S8_199, if_neg (by decide), vd_S8_267]
  | succ j ih =>
    intro k f a5 h hW hf
    have e : (k : Int) + 1 = ((k + 1 : Nat) : Int) := by omega
    obtain ⟨f1, r1, r2, r3⟩ := vd_L8n (M := M) o1 o2 o3 hk hr hw kw lw k0 l0 (k := k) (by omega) 32 0 f (by omega) hW (by rw [Nat.add_zero]; exact hf)
    rw [show vd_I ((0 : Nat) : Int) = vd_I 0 from rfl] at r1
    obtain ⟨f', q1, q2, q3⟩ := ih (k + 1) f1 (.int (vd_I 32)) (by omega) (fun i hi => by rw [r3 0 i (by omega)]; exact hW i hi) (fun i hi => r2 i (by omega))
    refine ⟨f', fun d Q => ?_, q2, fun a i q => by rw [q3 a i q, r3 a i q]⟩
    rw [vd_S8_199, if_pos (by rw [vd_I_toInt (by omega) (by omega), show (vd_I 32).toInt = 32 by decide]; omega), vd_S8_206, r1 d Q, vd_S8_261, vd_I_add, e]
    exact q1 d Q
/-- a row of the sharp taps -/
theorem vd_L13i {o t : Nat} (o1 o2 : Nat) (hk : vd_k M o = 6) (hr : vd_r M o 5 = some t) (ht : 10 ≤ t) (kt : vd_k M t = 32) (lt_ : vd_l M t = 256) (k4 : vd_k M 4 = 32) (l4 : vd_l M 4 = 72) {p : Nat} (hp : p < 16) (j : Nat) : ∀ (i : Nat) (f : Nat → Nat → Int32) (a5 : Value), i + j = 8 → (∀ m, m < 72 → f 4 m = vd_I (vd_tapL.getD m 0)) → ∃ (f' : Nat → Nat → Int32) (a5' : Value), (∀ d Q, vd_wp d 13 66 [.ref o, .ref o1, .ref o2, .int (vd_I (p : Int)), .int (vd_I (i : Int)), a5] [] (vd_mf M f) Q = vd_wp d 13 128 [.ref o, .ref o1, .ref o2, .int (vd_I (p : Int)), .int (vd_I 8), a5'] [] (vd_mf M f') Q) ∧ (∀ m, i ≤ m → m < 8 → f' t (8 * p + m) = vd_I (vd_tap 0 p m)) ∧ (∀ a m, ¬ (a = t ∧ 8 * p + i ≤ m ∧ m < 8 * p + 8) → f' a m = f a m) := by
  induction j with
  | zero =>
    intro i f a5 h hT
    have hi : i = 8 := by omega
    subst hi
    refine ⟨f, a5, fun d Q => ?_, fun m h1 h2 => by omega, fun _ _ _ => rfl⟩
    rw [vd_S13_66, if_neg (by decide)]
    rfl
  | succ j ih =>
    intro i f a5 h hT
    have e : (i : Int) + 1 = ((i + 1 : Nat) : Int) := by omega
    have e8 : (p : Int) * 8 + (i : Int) = ((8 * p + i : Nat) : Int) := by omega
    have e5 : ((16 : Int) - (p : Int)) * 8 + 7 - (i : Int) = ((8 * (16 - p) + 7 - i : Nat) : Int) := by omega
    obtain ⟨f1, hf1⟩ : ∃ f1, f1 = vd_up f t (8 * p + i) (vd_I (vd_tap 0 p i)) := ⟨_, rfl⟩
    obtain ⟨f', a5', r1, r2, r3⟩ := ih (i + 1) f1 (.int (vd_I ((8 * (16 - p) + 7 - i : Nat) : Int))) (by omega) (fun m hm => by rw [hf1, vd_up_ne (by omega)]; exact hT m hm)
    refine ⟨f', a5', fun d Q => ?_, fun m h1 h2 => ?_, fun a m q => by rw [r3 a m (by omega), hf1, vd_up_ne (by omega)]⟩
    · have lb : ((8 * p + i : Nat) : Int) < (vd_l M t : Int) := by rw [lt_]; omega
      have t1 : vd_wp d 13 121 [.ref o, .ref o1, .ref o2, .int (vd_I (p : Int)), .int (vd_I (i : Int)), .int (vd_I ((8 * (16 - p) + 7 - i : Nat) : Int))] [.int (vd_I (vd_tap 0 p i)), .int (vd_I ((8 * p + i : Nat) : Int)), .ref t] (vd_mf M f) Q = vd_wp d 13 66 [.ref o, .ref o1, .ref o2, .int (vd_I (p : Int)), .int (vd_I ((i + 1 : Nat) : Int)), .int (vd_I ((8 * (16 - p) + 7 - i : Nat) : Int))] [] (vd_mf M f1) Q := by
        simp (disch := first | assumption | omega) only [vd_S13_121, Int.toNat_natCast, ← hf1, vd_I_add, e]
      rw [← r1 d Q, ← t1, vd_S13_66, if_pos (by rw [vd_I_toInt (by omega) (by omega), show (vd_I 8).toInt = 8 by decide]; omega)]
      by_cases c : 8 < p
      · have lb4 : ((8 * (16 - p) + 7 - i : Nat) : Int) < (vd_l M 4 : Int) := by rw [l4]; omega
        have et : vd_tap 0 p i = vd_tapL.getD (8 * (16 - p) + 7 - i) 0 := by
          unfold vd_tap
          rw [if_neg (by decide), if_neg (by omega)]
        simp (disch := first | assumption | omega) only [vd_S13_73, vd_I_sub, vd_I_mul, vd_I_add, e5, e8, vd_I_toInt, show ((8 : Int) < (p : Int)) by omega, if_true, hr, vd_vr_some, vd_S13_118, vd_S13_120, Int.toNat_natCast, hT, et]
      · have lb4 : ((8 * p + i : Nat) : Int) < (vd_l M 4 : Int) := by rw [l4]; omega
        have et : vd_tap 0 p i = vd_tapL.getD (8 * p + i) 0 := by
          unfold vd_tap
          rw [if_neg (by decide), if_pos (by omega)]
        simp (disch := first | assumption | omega) only [vd_S13_73, vd_I_sub, vd_I_mul, vd_I_add, e5, e8, vd_I_toInt, show ¬ ((8 : Int) < (p : Int)) by omega, if_false, hr, vd_vr_some, vd_S13_108, vd_S13_120, Int.toNat_natCast, hT, et]
    · by_cases q : m = i
      · subst q
        rw [r3 t _ (by omega), hf1, vd_up_eq]
      · exact r2 m (by omega) h2
theorem vd_L13p {o t : Nat} (o1 o2 : Nat) (hk : vd_k M o = 6) (hr : vd_r M o 5 = some t) (ht : 10 ≤ t) (kt : vd_k M t = 32) (lt_ : vd_l M t = 256) (k4 : vd_k M 4 = 32) (l4 : vd_l M 4 = 72) (j : Nat) : ∀ (p : Nat) (f : Nat → Nat → Int32) (a4 a5 : Value), p + j = 16 → (∀ m, m < 72 → f 4 m = vd_I (vd_tapL.getD m 0)) → (∀ q i, q < 16 → i < 8 → i ≠ 3 → i ≠ 4 → f t (8 * (16 + q) + i) = vd_I 0) → (∀ k q i, k < 2 → q < p → i < 8 → f t (8 * (16 * k + q) + i) = vd_I (vd_tap k q i)) → ∃ f' : Nat → Nat → Int32, (∀ d Q, vd_wp d 13 57 [.ref o, .ref o1, .ref o2, .int (vd_I (p : Int)), a4, a5] [] (vd_mf M f) Q = Q (vd_mf M f') (.inl none)) ∧ (∀ k q i, k < 2 → q < 16 → i < 8 → f' t (8 * (16 * k + q) + i) = vd_I (vd_tap k q i)) ∧ (∀ a m, a ≠ t → f' a m = f a m) := by
  induction j with
  | zero =>
    intro p f a4 a5 h hT hz hf
    have hp : p = 16 := by omega
    subst hp
    refine ⟨f, fun d Q => ?_, hf, fun _ _ _ => rfl⟩
    rw [vd_S13_57, if_neg (by decide), vd_S13_174]
  | succ j ih =>
    intro p f a4 a5 h hT hz hf
    have e : (p : Int) + 1 = ((p + 1 : Nat) : Int) := by omega
    obtain ⟨f1, b5, r1, r2, r3⟩ := vd_L13i (M := M) o1 o2 hk hr ht kt lt_ k4 l4 (p := p) (by omega) 8 0 f a5 (by omega) hT
    rw [show vd_I ((0 : Nat) : Int) = vd_I 0 from rfl] at r1
    obtain ⟨f2, hf2⟩ : ∃ f2, f2 = vd_up (vd_up f1 t (8 * (16 + p) + 3) (vd_I (128 - 8 * (p : Int)))) t (8 * (16 + p) + 4) (vd_I (8 * (p : Int))) := ⟨_, rfl⟩
    have k2 : ∀ a m, ¬ (a = t ∧ ((8 * p ≤ m ∧ m < 8 * p + 8) ∨ m = 8 * (16 + p) + 3 ∨ m = 8 * (16 + p) + 4)) → f2 a m = f a m := fun a m q => by rw [hf2, vd_up_ne (by omega), vd_up_ne (by omega), r3 a m (by omega)]
    obtain ⟨f', q1, q2, q3⟩ := ih (p + 1) f2 (.int (vd_I 8)) b5 (by omega) (fun m hm => by rw [k2 4 m (by omega)]; exact hT m hm) (fun q i h1 h2 h3 h4 => by rw [k2 t _ (by omega)]; exact hz q i h1 h2 h3 h4) (fun k q i h1 h2 h3 => by
      by_cases c : q = p
      · subst c
        have hk01 : k = 0 ∨ k = 1 := by omega
        rcases hk01 with rfl | rfl
        · rw [hf2, vd_up_ne (by omega), vd_up_ne (by omega), show 8 * (16 * 0 + q) + i = 8 * q + i by omega]
          exact r2 i (by omega) h3
        · have et : vd_tap 1 q i = if i = 3 then 128 - 8 * (q : Int) else if i = 4 then 8 * (q : Int) else 0 := by
            unfold vd_tap
            rw [if_pos rfl]
          rw [et]
          by_cases c3 : i = 3
          · subst c3
            rw [hf2, vd_up_ne (by omega), show 8 * (16 * 1 + q) + 3 = 8 * (16 + q) + 3 by omega, vd_up_eq, if_pos rfl]
          · by_cases c4 : i = 4
            · subst c4
              rw [hf2, show 8 * (16 * 1 + q) + 4 = 8 * (16 + q) + 4 by omega, vd_up_eq, if_neg (by decide), if_pos rfl]
            · rw [k2 t _ (by omega), if_neg c3, if_neg c4, show 8 * (16 * 1 + q) + i = 8 * (16 + q) + i by omega]
              exact hz q i (by omega) h3 c3 c4
      · rw [k2 t _ (by omega)]
        exact hf k q i h1 (by omega) h3)
    refine ⟨f', fun d Q => ?_, q2, fun a m q => by rw [q3 a m q, k2 a m (by omega)]⟩
    have e3 : ((16 : Int) + (p : Int)) * 8 + 3 = ((8 * (16 + p) + 3 : Nat) : Int) := by omega
    have e4 : ((16 : Int) + (p : Int)) * 8 + 4 = ((8 * (16 + p) + 4 : Nat) : Int) := by omega
    have lb3 : ((8 * (16 + p) + 3 : Nat) : Int) < (vd_l M t : Int) := by rw [lt_]; omega
    have lb4 : ((8 * (16 + p) + 4 : Nat) : Int) < (vd_l M t : Int) := by rw [lt_]; omega
    rw [vd_S13_57, if_pos (by rw [vd_I_toInt (by omega) (by omega), show (vd_I 16).toInt = 16 by decide]; omega), vd_S13_63, r1 d Q]
    simp (disch := first | assumption | omega) only [vd_S13_128, vd_I_add, vd_I_mul, vd_I_sub, e3, hr, vd_vr_some, vd_S13_149, Int.toNat_natCast, e4, vd_S13_167, ← hf2, e]
    exact q1 d Q
/-- the reference's contexts -/
theorem vd_L163k {o c r : Nat} (hk : vd_k M o = 12) (hr : vd_r M o 8 = some c) (kc : vd_k M c = 38) (lc : vd_l M c = 4) {q : Nat} (hq : q < 4) (hrr : vd_r M c q = some r) (hr10 : 10 ≤ r) (kr : vd_k M r = 32) (lr : vd_l M r = 2941) (f : Nat → Nat → Int32) (d : Nat) (Q : vd_M → (Option Value ⊕ Nat) → Prop) (j : Nat) : ∀ k : Nat, k + j = 2941 → vd_wp d 163 996 [.ref o, .int (vd_I (q : Int)), .int (vd_I (k : Int))] [] (vd_mf M (vd_uf f r 0 k (vd_I 128))) Q = vd_wp d 163 1020 [.ref o, .int (vd_I (q : Int)), .int (vd_I 2941)] [] (vd_mf M (vd_uf f r 0 2941 (vd_I 128))) Q := by
  induction j with
  | zero =>
    intro k h
    have hk' : k = 2941 := by omega
    subst hk'
    rw [vd_S163_996, if_neg (by decide)]
    rfl
  | succ j ih =>
    intro k h
    have e : (k : Int) + 1 = ((k + 1 : Nat) : Int) := by omega
    have lb : (q : Int) < (vd_l M c : Int) := by rw [lc]; omega
    have lbr : (k : Int) < (vd_l M r : Int) := by rw [lr]; omega
    have kc1 : 36 ≤ vd_k M c := by rw [kc]; decide
    have kc2 : vd_k M c < 41 := by rw [kc]; decide
    rw [← ih (k + 1) (by omega), ← vd_uf_up (Nat.zero_le k), vd_S163_996, if_pos (by rw [vd_I_toInt (by omega) (by omega), show (vd_I 2941).toInt = 2941 by decide]; omega)]
    simp (disch := first | assumption | omega) only [vd_S163_1003, hr, vd_vr_some, vd_S163_1008, Int.toNat_natCast, hrr, vd_S163_1013, vd_I_add, e]
theorem vd_L163c {o c : Nat} (hk : vd_k M o = 12) (hr : vd_r M o 8 = some c) (kc : vd_k M c = 38) (lc : vd_l M c = 4) (hc : 9 ≤ c) (hrr : ∀ q, q < 4 → vd_r M c q = some (c + 1 + q) ∧ vd_k M (c + 1 + q) = 32 ∧ vd_l M (c + 1 + q) = 2941) (j : Nat) : ∀ (q : Nat) (f : Nat → Nat → Int32) (a2 : Value), q + j = 4 → (∀ p k, p < q → k < 2941 → f (c + 1 + p) k = vd_I 128) → (q < 4 ∨ a2 = .int (vd_I 2941)) → ∃ f' : Nat → Nat → Int32, (∀ d Q, vd_wp d 163 989 [.ref o, .int (vd_I (q : Int)), a2] [] (vd_mf M f) Q = vd_wp d 163 1026 [.ref o, .int (vd_I 4), .int (vd_I 2941)] [] (vd_mf M f') Q) ∧ (∀ p k, p < 4 → k < 2941 → f' (c + 1 + p) k = vd_I 128) ∧ (∀ a i, ¬ (c + 1 ≤ a ∧ a ≤ c + 4) → f' a i = f a i) := by
  induction j with
  | zero =>
    intro q f a2 h hf ha
    have hq : q = 4 := by omega
    subst hq
    have ha' : a2 = .int (vd_I 2941) := by
      rcases ha with y | y
      · omega
      · exact y
    subst ha'
    refine ⟨f, fun d Q => ?_, hf, fun _ _ _ => rfl⟩
    rw [vd_S163_989, if_neg (by decide)]
    rfl
  | succ j ih =>
    intro q f a2 h hf ha
    have e : (q : Int) + 1 = ((q + 1 : Nat) : Int) := by omega
    obtain ⟨z1, z2, z3⟩ := hrr q (by omega)
    obtain ⟨f1, hf1⟩ : ∃ f1, f1 = vd_uf f (c + 1 + q) 0 2941 (vd_I 128) := ⟨_, rfl⟩
    obtain ⟨f', r1, r2, r3⟩ := ih (q + 1) f1 (.int (vd_I 2941)) (by omega) (fun p k h1 h2 => by
      rw [hf1]
      by_cases y : p = q
      · subst y
        rw [vd_uf_in (Nat.zero_le k) h2]
      · rw [vd_uf_ne (by omega)]
        exact hf p k (by omega) h2) (Or.inr rfl)
    refine ⟨f', fun d Q => ?_, r2, fun a i y => by rw [r3 a i y, hf1, vd_uf_ne (by omega)]⟩
    have l := vd_L163k (M := M) hk hr kc lc (q := q) (by omega) z1 (by omega) z2 z3 f d Q 2941 0 (by omega)
    rw [vd_uf_0, ← hf1, show vd_I ((0 : Nat) : Int) = vd_I 0 from rfl] at l
    rw [vd_S163_989, if_pos (by rw [vd_I_toInt (by omega) (by omega), show (vd_I 4).toInt = 4 by decide]; omega), vd_S163_994, l, vd_S163_1020, vd_I_add, e]
    exact r1 d Q
end VDLP
