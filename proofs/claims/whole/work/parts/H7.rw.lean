/-! ===== the reference's work, up to its code ===== -/
section VDRW
variable {N : vd_M}
def vd_afs (kd rs : Int) : Int := if kd = 2 ∧ rs = 0 then 0 else 1
theorem vd_W1 (hN : vd_SR N) (hn : 197 ≤ vd_n N) {g : Nat → Nat → Int32} {kd rs : Int} (h33 : g 63 33 = vd_I (if kd = 2 then 0 else 1)) (h80 : g 63 80 = vd_I rs) (r01 : rs = 0 ∨ rs = 1) (x1 x2 : Int32) (a4 a5 : Value) : ∃ (N' : vd_M) (g' : Nat → Nat → Int32), (vd_SR N' ∧ N' = if kd = 2 ∧ rs = 0 then N else vd_new N 32 6 6) ∧ (∀ d Q, vd_wp (d + 2) 186 0 [.ref 63, .int x1, .int x2, vd_U, a4, a5] [] (vd_mf N g) Q = vd_wp (d + 2) 186 28 [.ref 63, .int x1, .int x2, .int (vd_I (vd_afs kd rs)), a4, a5] [] (vd_mf N' g') Q) ∧ (∀ c k, c < 4 → k < 2941 → g' (68 + c) k = if kd = 2 ∧ rs = 0 then g (68 + c) k else vd_I 128) ∧ (∀ k, k < 32 → g' 74 k = (if kd = 2 ∧ rs = 0 then g 74 k else vd_I 0) ∧ g' 75 k = if kd = 2 ∧ rs = 0 then g 75 k else vd_I 0) ∧ (∀ i, i < 6 → g' 73 i = if kd = 2 ∧ rs = 0 then g 73 i else vd_I (vd_fst i)) ∧ (∀ c i, ¬ (68 ≤ c ∧ c ≤ 71) → c ≠ 73 → c ≠ 74 → c ≠ 75 → c ≠ vd_n N → g' c i = g c i) := by
  unfold vd_afs
  by_cases ca : kd = 2 ∧ rs = 0
  · simp only [if_pos ca]
    rw [if_pos ca.1] at h33
    rw [ca.2] at h80
    refine ⟨N, g, ⟨hN, rfl⟩, fun d Q => ?_, fun _ _ _ _ => rfl, fun _ _ => ⟨rfl, rfl⟩, fun _ _ => rfl, fun _ _ _ _ _ _ _ => rfl⟩
    simp (disch := omega) only [vd_S186_0 hN, vd_S186_7 hN, vd_S186_18 hN, vd_S186_19 hN, h33, h80, vd_I_toInt, eq_self, if_true]
  · simp only [if_neg ca]
    obtain ⟨g', p1, p2, p3, p4, p5⟩ := vd_P187 hN hn g
    refine ⟨_, g', ⟨hN.new hn 32 6 6, rfl⟩, fun d Q => ?_, p2, p3, p4, p5⟩
    have hN' := hN.new hn 32 6 6
    have go : vd_wp (d + 2) 186 0 [.ref 63, .int x1, .int x2, vd_U, a4, a5] [] (vd_mf N g) Q = vd_wp (d + 2) 186 14 [.ref 63, .int x1, .int x2, vd_U, a4, a5] [] (vd_mf N g) Q := by
      by_cases c2 : kd = 2
      · rw [if_pos c2] at h33
        have : rs = 1 := by
          rcases r01 with h | h
          · exact absurd ⟨c2, h⟩ ca
          · exact h
        rw [this] at h80
        simp (disch := omega) only [vd_S186_0 hN, vd_S186_7 hN, h33, h80, vd_I_toInt, eq_self, if_true, show ¬ ((1 : Int) = 0) by decide, if_false]
      · rw [if_neg c2] at h33
        simp (disch := omega) only [vd_S186_0 hN, h33, vd_I_toInt, show ¬ ((1 : Int) = 0) by decide, if_false]
    rw [go]
    simp (disch := omega) only [vd_S186_14 hN, vd_S186_19 hN, vd_S186_24 hN, vd_S186_25 hN, p1, vd_rs_v, vd_rs_n, vd_I_toInt, show ¬ ((1 : Int) = 0) by decide, if_false]
theorem vd_W2 (hN : vd_SR N) {g : Nat → Nat → Int32} {kd rs w h ow0 oh0 lm : Int} (hw : g 63 24 = vd_I w) (hh : g 63 25 = vd_I h) (h80 : g 63 80 = vd_I rs) (h14 : g 63 14 = vd_I ow0) (h15 : g 63 15 = vd_I oh0) (h16 : g 63 16 = vd_I lm) (b : 1 ≤ w ∧ w ≤ 192 ∧ 1 ≤ h ∧ h ≤ 192) (ob : 0 ≤ ow0 ∧ ow0 ≤ 192 ∧ 0 ≤ oh0 ∧ oh0 ≤ 192) (r01 : rs = 0 ∨ rs = 1) (l01 : lm = 0 ∨ lm = 1) (x1 x2 : Int32) (a4 a5 : Value) : ∃ g' : Nat → Nat → Int32, (∀ d Q, vd_wp (d + 2) 186 28 [.ref 63, .int x1, .int x2, .int (vd_I (vd_afs kd rs)), a4, a5] [] (vd_mf N g) Q = vd_wp (d + 2) 186 110 [.ref 63, .int x1, .int x2, .int (vd_I (vd_afs kd rs)), .int (vd_I 0), a5] [] (vd_mf N g') Q) ∧ (∀ i, i < 576 → g' 72 i = if ow0 = w ∧ oh0 = h ∧ kd = 2 ∧ rs = 0 then g 72 i else vd_I 0) ∧ g' 63 39 = vd_I (if ow0 = w ∧ oh0 = h ∧ lm = 1 ∧ rs = 0 then 1 else 0) ∧ (∀ c i, c ≠ 72 → ¬ (c = 63 ∧ i = 39) → g' c i = g c i) := by
  have z := fun d Q => vd_F286 (M := N) (d := d) (Q := Q) (f := g) (o := 72) (len := 576) (x := vd_I 0) (by decide) hN.k72 hN.l72 (by decide)
  obtain ⟨g1, e1, m1, m2⟩ : ∃ g1 : Nat → Nat → Int32, (∀ d Q, vd_wp (d + 2) 186 28 [.ref 63, .int x1, .int x2, .int (vd_I (vd_afs kd rs)), a4, a5] [] (vd_mf N g) Q = vd_wp (d + 2) 186 62 [.ref 63, .int x1, .int x2, .int (vd_I (vd_afs kd rs)), a4, a5] [] (vd_mf N g1) Q) ∧ (∀ i, i < 576 → g1 72 i = if ow0 = w ∧ oh0 = h ∧ kd = 2 ∧ rs = 0 then g 72 i else vd_I 0) ∧ (∀ c i, c ≠ 72 → g1 c i = g c i) := by
    unfold vd_afs
    by_cases ca : kd = 2 ∧ rs = 0
    · simp only [if_pos ca]
      by_cases c1 : w = ow0
      · by_cases c2 : h = oh0
        · refine ⟨g, fun d Q => ?_, fun i hi => by rw [if_pos ⟨c1.symm, c2.symm, ca.1, ca.2⟩], fun _ _ _ => rfl⟩
          simp (disch := omega) only [vd_S186_28 hN, vd_S186_32 hN, vd_S186_43 hN, hw, hh, h14, h15, vd_I_toInt, c1, c2, eq_self, if_true]
        · refine ⟨vd_uf g 72 0 576 (vd_I 0), fun d Q => ?_, fun i hi => by rw [vd_uf_in (by omega) hi, if_neg (fun q => c2 q.2.1.symm)], fun c i q => vd_uf_ne (by omega)⟩
          simp (disch := omega) only [vd_S186_28 hN, vd_S186_32 hN, vd_S186_43 hN, vd_S186_54 hN, vd_S186_59 hN, z, vd_rs_v, vd_rs_n, hw, hh, h14, h15, vd_I_toInt, c1, c2, eq_self, if_true, if_false]
      · refine ⟨vd_uf g 72 0 576 (vd_I 0), fun d Q => ?_, fun i hi => by rw [vd_uf_in (by omega) hi, if_neg (fun q => c1 q.1.symm)], fun c i q => vd_uf_ne (by omega)⟩
        simp (disch := omega) only [vd_S186_28 hN, vd_S186_32 hN, vd_S186_54 hN, vd_S186_59 hN, z, vd_rs_v, vd_rs_n, hw, hh, h14, h15, vd_I_toInt, c1, eq_self, if_true, if_false]
    · simp only [if_neg ca]
      refine ⟨vd_uf g 72 0 576 (vd_I 0), fun d Q => ?_, fun i hi => by rw [vd_uf_in (by omega) hi, if_neg (fun q => ca ⟨q.2.2.1, q.2.2.2⟩)], fun c i q => vd_uf_ne (by omega)⟩
      simp (disch := omega) only [vd_S186_28 hN, vd_S186_54 hN, vd_S186_59 hN, z, vd_rs_v, vd_rs_n, vd_I_toInt, show ¬ ((1 : Int) = 0) by decide, if_false]
  have q24 : g1 63 24 = vd_I w := by rw [m2 63 24 (by omega)]; exact hw
  have q25 : g1 63 25 = vd_I h := by rw [m2 63 25 (by omega)]; exact hh
  have q80 : g1 63 80 = vd_I rs := by rw [m2 63 80 (by omega)]; exact h80
  have q14 : g1 63 14 = vd_I ow0 := by rw [m2 63 14 (by omega)]; exact h14
  have q15 : g1 63 15 = vd_I oh0 := by rw [m2 63 15 (by omega)]; exact h15
  have q16 : g1 63 16 = vd_I lm := by rw [m2 63 16 (by omega)]; exact h16
  obtain ⟨mo, mo01, mow, e2⟩ : ∃ mo : Int, (mo = 0 ∨ mo = 1) ∧ (mo = 1 ↔ ow0 = w ∧ oh0 = h ∧ lm = 1 ∧ rs = 0) ∧ ∀ d Q, vd_wp (d + 2) 186 62 [.ref 63, .int x1, .int x2, .int (vd_I (vd_afs kd rs)), a4, a5] [] (vd_mf N g1) Q = vd_wp (d + 2) 186 104 [.ref 63, .int x1, .int x2, .int (vd_I (vd_afs kd rs)), a4, a5] [.int (vd_I mo), .ref 63] (vd_mf N g1) Q := by
    rcases l01 with rfl | rfl
    · refine ⟨0, Or.inl rfl, by omega, fun d Q => ?_⟩
      simp (disch := omega) only [vd_S186_62 hN, vd_S186_103 hN, q16, vd_I_toInt, eq_self, if_true]
    · rcases r01 with rfl | rfl
      · by_cases c1 : w = ow0
        · by_cases c2 : h = oh0
          · refine ⟨1, Or.inr rfl, by omega, fun d Q => ?_⟩
            simp (disch := omega) only [vd_S186_62 hN, vd_S186_70 hN, vd_S186_77 hN, vd_S186_88 hN, vd_S186_99 hN, q16, q80, q24, q25, q14, q15, vd_I_toInt, c1, c2, eq_self, if_true, show ¬ ((1 : Int) = 0) by decide, if_false]
          · refine ⟨0, Or.inl rfl, by omega, fun d Q => ?_⟩
            simp (disch := omega) only [vd_S186_62 hN, vd_S186_70 hN, vd_S186_77 hN, vd_S186_88 hN, vd_S186_103 hN, q16, q80, q24, q25, q14, q15, vd_I_toInt, c1, c2, eq_self, if_true, show ¬ ((1 : Int) = 0) by decide, if_false]
        · refine ⟨0, Or.inl rfl, by omega, fun d Q => ?_⟩
          simp (disch := omega) only [vd_S186_62 hN, vd_S186_70 hN, vd_S186_77 hN, vd_S186_103 hN, q16, q80, q24, q25, q14, q15, vd_I_toInt, c1, eq_self, if_true, show ¬ ((1 : Int) = 0) by decide, if_false]
      · refine ⟨0, Or.inl rfl, by omega, fun d Q => ?_⟩
        simp (disch := omega) only [vd_S186_62 hN, vd_S186_70 hN, vd_S186_103 hN, q16, q80, vd_I_toInt, show ¬ ((1 : Int) = 0) by decide, if_false]
  have ok : vd_fok .boolean (vd_I mo) = true := by rcases mo01 with rfl | rfl <;> decide
  refine ⟨vd_up g1 63 39 (vd_I mo), fun d Q => ?_, fun i hi => by rw [vd_up_ne (by omega), m1 i hi], ?_, fun c i q1 q2 => by rw [vd_up_ne (by omega), m2 c i q1]⟩
  · rw [e1, e2]
    simp (disch := assumption) only [vd_S186_104 hN]
  · rw [vd_up_eq]
    congr 1
    split <;> omega
/-- the told extras -/
theorem vd_W3 (hN : vd_SR N) (x1 x2 x3 : Int32) (a5 : Value) : ∀ (m i : Nat) (g : Nat → Nat → Int32) (tl : Nat → Int), i + m = 6 → (∀ j, j < 6 → g 113 j = vd_I (tl j) ∧ (tl j = 0 ∨ tl j = 1)) → ∃ g' : Nat → Nat → Int32, (∀ d Q, vd_wp (d + 2) 186 110 [.ref 63, .int x1, .int x2, .int x3, .int (vd_I (i : Int)), a5] [] (vd_mf N g) Q = vd_wp (d + 2) 186 147 [.ref 63, .int x1, .int x2, .int x3, .int (vd_I 6), a5] [] (vd_mf N g') Q) ∧ (∀ j, i ≤ j → j < 6 → g' 73 j = if tl j = 1 then g 115 j else g 73 j) ∧ (∀ c j, ¬ (c = 73 ∧ i ≤ j) → g' c j = g c j) := by
  intro m
  induction m with
  | zero =>
    intro i g tl hi ht
    have hi : i = 6 := by omega
    subst hi
    refine ⟨g, fun d Q => ?_, fun j a b => absurd b (by omega), fun _ _ _ => rfl⟩
    simp (disch := omega) only [vd_S186_110 hN, vd_I_toInt, show ¬ (((6 : Nat) : Int) < 6) by decide, if_false]
    rfl
  | succ m ih =>
    intro i g tl hi ht
    have ei : (i : Int) + 1 = ((i + 1 : Nat) : Int) := by omega
    obtain ⟨t1, t2⟩ := ht i (by omega)
    by_cases c : tl i = 1
    · obtain ⟨g', q1, q2, q3⟩ := ih (i + 1) (vd_up g 73 i (g 115 i)) tl (by omega) (fun j hj => by rw [vd_up_ne (by omega)]; exact ht j hj)
      refine ⟨g', fun d Q => ?_, fun j a b => ?_, fun c' j q => by rw [q3 c' j (by omega), vd_up_ne (by omega)]⟩
      · rw [← q1 d Q]
        conv => lhs; rw [vd_S186_110 hN]
        simp (disch := omega) only [vd_S186_117 hN, vd_S186_123 hN, vd_S186_127 hN, vd_S186_139 hN, vd_S186_140 hN, vd_S186_141 hN, Int.toNat_natCast, t1, c, vd_I_toInt, show ((i : Int) < 6) by omega, if_true, show ¬ ((1 : Int) = 0) by decide, if_false, vd_I_add, ei]
      · by_cases e : j = i
        · subst e
          rw [q3 73 j (by omega), vd_up_eq, if_pos c]
        · rw [q2 j (by omega) b, vd_up_ne (by omega), vd_up_ne (by omega)]
    · have t0 : tl i = 0 := by omega
      obtain ⟨g', q1, q2, q3⟩ := ih (i + 1) g tl (by omega) ht
      refine ⟨g', fun d Q => ?_, fun j a b => ?_, fun c' j q => q3 c' j (by omega)⟩
      · rw [← q1 d Q]
        conv => lhs; rw [vd_S186_110 hN]
        simp (disch := omega) only [vd_S186_117 hN, vd_S186_123 hN, vd_S186_141 hN, Int.toNat_natCast, t1, t0, vd_I_toInt, show ((i : Int) < 6) by omega, if_true, eq_self, vd_I_add, ei]
      · by_cases e : j = i
        · subst e
          rw [q3 73 j (by omega), if_neg c]
        · exact q2 j (by omega) b
/-- the told features -/
theorem vd_W4 (hN : vd_SR N) {g : Nat → Nat → Int32} {ft ab : Int} (h85 : g 63 85 = vd_I ft) (f01 : ft = 0 ∨ ft = 1) (h86 : ft = 1 → g 63 86 = vd_I ab ∧ (ab = 0 ∨ ab = 1)) (h114 : ft = 1 → ∀ k, k < 32 → ∃ on : Int, g 114 k = vd_I on ∧ (on = 0 ∨ on = 1)) (x1 x2 x3 : Int32) (a5 : Value) : ∃ g' : Nat → Nat → Int32, (∀ d Q, vd_wp (d + 2) 186 147 [.ref 63, .int x1, .int x2, .int x3, .int (vd_I 6), a5] [] (vd_mf N g) Q = vd_wp (d + 2) 186 192 [.ref 63, .int x1, .int x2, .int x3, .int (vd_I 6), a5] [] (vd_mf N g') Q) ∧ g' 63 13 = (if ft = 1 then g 63 86 else g 63 13) ∧ (∀ k, k < 32 → g' 74 k = (if ft = 1 then g 114 k else g 74 k) ∧ g' 75 k = if ft = 1 then g 116 k else g 75 k) ∧ (∀ c i, c ≠ 74 → c ≠ 75 → ¬ (c = 63 ∧ i = 13) → g' c i = g c i) := by
  rcases f01 with rfl | rfl
  · refine ⟨g, fun d Q => ?_, rfl, fun _ _ => ⟨rfl, rfl⟩, fun _ _ _ _ _ => rfl⟩
    simp (disch := omega) only [vd_S186_147 hN, h85, vd_I_toInt, eq_self, if_true]
  · obtain ⟨e86, ab01⟩ := h86 rfl
    have h114 := h114 rfl
    have ok : vd_fok .boolean (g 63 86) = true := by rw [e86]; rcases ab01 with rfl | rfl <;> decide
    obtain ⟨g1, hg1⟩ : ∃ g1, g1 = vd_up g 63 13 (g 63 86) := ⟨_, rfl⟩
    obtain ⟨g2, hg2⟩ : ∃ g2, g2 = vd_ua g1 74 (va_cpy (g1 114) (g1 74) (0 : Int).toNat (0 : Int).toNat (32 : Int).toNat) := ⟨_, rfl⟩
    obtain ⟨g3, hg3⟩ : ∃ g3, g3 = vd_ua g2 75 (va_cpy (g2 116) (g2 75) (0 : Int).toNat (0 : Int).toNat (32 : Int).toNat) := ⟨_, rfl⟩
    have t32 : (32 : Int).toNat = 32 := rfl
    have t0 : (0 : Int).toNat = 0 := rfl
    have cpk : vd_cpk (vd_k N 74) (g1 114) (0 : Int).toNat (32 : Int).toNat := Or.inr ⟨hN.k74, fun i hi => by
      rw [t32] at hi
      obtain ⟨on, q1, q2⟩ := h114 i hi
      rw [t0, Nat.zero_add, hg1, vd_up_ne (by omega), q1]
      rcases q2 with rfl | rfl
      · exact Or.inl (by decide)
      · exact Or.inr (by decide)⟩
    have e1 := fun d Q => vd_S186_174 hN x1 x2 x3 (vd_I 6) a5 32 0 0 d g1 Q (by decide) (by rw [hN.k114, hN.k74]) cpk (by decide) (by decide) (by decide) (by rw [hN.l114]; decide) (by rw [hN.l74]; decide) (by rw [hN.l114]; decide) (by rw [hN.l74]; decide)
    have e2 := fun d Q => vd_S186_189 hN x1 x2 x3 (vd_I 6) a5 32 0 0 d g2 Q (by decide) (by rw [hN.k116, hN.k75]) (Or.inl hN.k75) (by decide) (by decide) (by decide) (by rw [hN.l116]; decide) (by rw [hN.l75]; decide) (by rw [hN.l116]; decide) (by rw [hN.l75]; decide)
    refine ⟨g3, fun d Q => ?_, ?_, fun k hk => ⟨?_, ?_⟩, fun c i q1 q2 q3 => ?_⟩
    · simp (disch := first | assumption | omega) only [vd_S186_147 hN, h85, vd_I_toInt, show ¬ ((1 : Int) = 0) by decide, if_false, vd_S186_154 hN, ← hg1]
      rw [e1, ← hg2, e2, ← hg3]
    · rw [if_pos rfl, hg3, vd_ua_ne (by omega), hg2, vd_ua_ne (by omega), hg1, vd_up_eq]
    · rw [if_pos rfl, hg3, vd_ua_ne (by omega), hg2, vd_ua_eq, vd_cpy_in (by rw [t32]; exact hk), hg1, vd_up_ne (by omega)]
    · rw [if_pos rfl, hg3, vd_ua_eq, vd_cpy_in (by rw [t32]; exact hk), hg2, vd_ua_ne (by omega), hg1, vd_up_ne (by omega)]
    · rw [hg3, vd_ua_ne q2, hg2, vd_ua_ne q1, hg1, vd_up_ne q3]
end VDRW
