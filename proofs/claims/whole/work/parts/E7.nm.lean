/-! ===== the filter: the reference smooths a line ===== -/
section VDNM
variable {N : vd_M} {q pl : Nat} {pw vt x y m t w : Int} {v : Int → Int}
def vd_gLn (q pl : Nat) (pw vt x y m : Int) (g g' : Nat → Nat → Int32) : Prop := (∀ c k, c ≠ q + 2 + pl → g' c k = g c k) ∧ (∀ k, (∀ i : Int, -m ≤ i → i < m → k ≠ vd_lix pl pw vt x y i) → g' (q + 2 + pl) k = g (q + 2 + pl) k)
theorem vd_gLn.trans {g g1 g2 : Nat → Nat → Int32} (h : vd_gLn q pl pw vt x y m g g1) (h2 : vd_gLn q pl pw vt x y m g1 g2) : vd_gLn q pl pw vt x y m g g2 := ⟨fun c k a => by rw [h2.1 c k a, h.1 c k a], fun k a => by rw [h2.2 k a, h.2 k a]⟩
theorem vd_L8.keep {u : Int → Int} {g g' : Nat → Nat → Int32} (h : vd_L8 m u g) (hq : vd_PD N q) (hg : ∀ c k, c ≠ q + 2 + pl → g' c k = g c k) : vd_L8 m u g' := fun i i0 i1 => by
  have := hq.2.2.2
  rw [hg _ _ (by omega)]
  exact h i i0 i1
theorem vd_P274 (hN : vd_SR N) (hq : vd_PD N q) (hnow : vd_r N 63 23 = some q) (hpl : pl < 3) (p0 : 1 ≤ pw ∧ pw ≤ 192) {g : Nat → Nat → Int32} (lr : vd_LR q pl pw vt x y m v g) (h8 : vd_L8 m v g) (hv : vd_vb v) (hm : 2 ≤ m) (ht : 0 ≤ t ∧ t ≤ 3) : ∃ g' : Nat → Nat → Int32, (∀ d Q, vd_wp (d + 3) 274 0 [.ref 63, .int (vd_I t), vd_U, vd_U, vd_U, vd_U, vd_U, vd_U, vd_U, vd_U] [] (vd_mf N g) Q = Q (vd_mf N g') (.inl none)) ∧ vd_LR q pl pw vt x y m (vd_nwr t v) g' ∧ vd_L8 m v g' ∧ vd_gLn q pl pw vt x y m g g' := by
  have m8 := lr.1.2.2.2
  have P := fun (k : Int) (k0 : 0 ≤ k) (k1 : k < m) => vd_P269 hN h8 k0 k1 m8
  have P' := fun (k : Int) (k0 : 0 ≤ k) (k1 : k < m) => vd_P270 hN h8 k0 k1 m8
  have h1 := hv (-2)
  have h2 := hv (-1)
  have h3 := hv 0
  have h4 := hv 1
  have A := fun (z : Int) (h : -100000 ≤ z ∧ z ≤ 100000) (d : Nat) (Q : vd_M → (Option Value ⊕ Nat) → Prop) => vd_abP (M := N) (f := g) h d Q
  have q1 := vd_av_b (z := v (-2) - v (-1)) (c := 255) (by omega) (by omega)
  have q2 := vd_av_b (z := v 1 - v 0) (c := 255) (by omega) (by omega)
  have d1 : v (-2) - 128 - (v (-1) - 128) = v (-2) - v (-1) := by omega
  have d2 : v 1 - 128 - (v 0 - 128) = v 1 - v 0 := by omega
  have d3 : v (-2) - 128 - (v 1 - 128) = v (-2) - v 1 := by omega
  have d4 : v 0 - 128 - (v (-1) - 128) = v 0 - v (-1) := by omega
  have H := fun (g : Nat → Nat → Int32) (z : Int) (h : -100000 ≤ z ∧ z ≤ 100000) (d : Nat) (Q : vd_M → (Option Value ⊕ Nat) → Prop) => vd_P275 (g := g) hN h d Q
  have r1 := fun (g : Nat → Nat → Int32) (z : Int) (z0 : -1000 ≤ z ∧ z ≤ 1000) (d : Nat) (Q : vd_M → (Option Value ⊕ Nat) → Prop) => vd_r1 hN (v := z) (by omega) (by omega) g d Q
  have hvv : vd_hv t v = 0 ∨ vd_hv t v = 1 := by
    unfold vd_hv
    split
    · exact Or.inr rfl
    · exact Or.inl rfl
  have head : ∀ d Q, vd_wp (d + 3) 274 0 [.ref 63, .int (vd_I t), vd_U, vd_U, vd_U, vd_U, vd_U, vd_U, vd_U, vd_U] [] (vd_mf N g) Q = vd_wp (d + 3) 274 69 [.ref 63, .int (vd_I t), .int (vd_I (v (-2) - 128)), .int (vd_I (v (-1) - 128)), .int (vd_I (v 0 - 128)), .int (vd_I (v 1 - 128)), vd_U, vd_U, vd_U, vd_U] [.int (vd_I (vd_hv t v))] (vd_mf N g) Q := by
    intro d Q
    simp (disch := omega) only [vd_S274_0 hN, vd_S274_2 hN, P, show (-1 - 1 : Int) = -2 from rfl, vd_S274_5 hN, vd_I_sub, vd_S274_12 hN, show (-1 - 0 : Int) = -1 from rfl, vd_S274_15 hN, vd_S274_22 hN, P', vd_S274_25 hN, vd_S274_33 hN, vd_S274_36 hN, d1, vd_S274_45 hN, A, vd_S274_48 hN, vd_I_toInt, vd_rs_v, vd_rs_n]
    unfold vd_hv
    by_cases c1 : t < vd_av (v (-2) - v (-1))
    · rw [if_pos c1, if_pos (Or.inl c1), vd_S274_64 hN]
    · rw [if_neg c1]
      by_cases c2 : t < vd_av (v 1 - v 0)
      · rw [if_pos (Or.inr c2)]
        simp (disch := omega) only [vd_S274_52 hN, vd_I_sub, d2, vd_S274_57 hN, A, vd_S274_60 hN, vd_I_toInt, c2, if_true, vd_S274_64 hN, vd_rs_v, vd_rs_n]
      · rw [if_neg (by omega)]
        simp (disch := omega) only [vd_S274_52 hN, vd_I_sub, d2, vd_S274_57 hN, A, vd_S274_60 hN, vd_I_toInt, c2, if_false, vd_S274_68 hN, vd_rs_v, vd_rs_n]
  have nab := vd_hd_b ((if vd_hv t v = 0 then 0 else vd_hd (v (-2) - v 1)) + 3 * (v 0 - v (-1)))
  have ena : vd_hd ((if vd_hv t v = 0 then 0 else vd_hd (v (-2) - v 1)) + 3 * (v 0 - v (-1))) = vd_na t v := rfl
  have hA := vd_hd_b (vd_na t v + 4)
  have hB := vd_hd_b (vd_na t v + 3)
  have eA : vd_hd (vd_na t v + 4) / 8 = vd_nA t v := rfl
  have eB : vd_hd (vd_na t v + 3) / 8 = vd_nB t v := rfl
  have hqq := vd_hd_b (v (-2) - v 1)
  have mid : ∀ d Q, vd_wp (d + 3) 274 69 [.ref 63, .int (vd_I t), .int (vd_I (v (-2) - 128)), .int (vd_I (v (-1) - 128)), .int (vd_I (v 0 - 128)), .int (vd_I (v 1 - 128)), vd_U, vd_U, vd_U, vd_U] [.int (vd_I (vd_hv t v))] (vd_mf N g) Q = vd_wp (d + 3) 274 132 [.ref 63, .int (vd_I t), .int (vd_I (v (-2) - 128)), .int (vd_I (v (-1) - 128)), .int (vd_I (v 0 - 128)), .int (vd_I (v 1 - 128)), .int (vd_I (vd_hv t v)), .int (vd_I (vd_na t v)), .int (vd_I (vd_nA t v)), .int (vd_I (vd_nB t v))] [.int (vd_I (v 0 - 128 - vd_nA t v)), .int (vd_I 0), .ref 63] (vd_mf N g) Q := by
    intro d Q
    rcases hvv with c | c
    · rw [if_pos c] at nab ena
      rw [c, vd_S274_69 hN]
      simp (disch := omega) only [vd_I_toInt, eq_self, if_true, vd_S274_86 hN, vd_S274_87 hN, vd_I_sub, d4, vd_I_mul, vd_I_add, vd_S274_98 hN, H, ena, vd_S274_101 hN, vd_S274_107 hN, vd_S274_110 hN, vd_shr3, eA, vd_S274_118 hN, vd_S274_121 hN, eB, vd_rs_v, vd_rs_n]
    · rw [if_neg (by omega)] at nab ena
      rw [c, vd_S274_69 hN]
      simp (disch := omega) only [vd_I_toInt, show ¬ ((1 : Int) = 0) by decide, if_false, vd_S274_76 hN, vd_I_sub, d3, vd_S274_80 hN, H, vd_S274_83 hN, vd_S274_87 hN, d4, vd_I_mul, vd_I_add, vd_S274_98 hN, ena, vd_S274_101 hN, vd_S274_107 hN, vd_S274_110 hN, vd_shr3, eA, vd_S274_118 hN, vd_S274_121 hN, eB, vd_rs_v, vd_rs_n]
  rw [ena] at nab
  have nAb : -16 ≤ vd_nA t v ∧ vd_nA t v ≤ 15 := by rw [← eA]; omega
  have nBb : -16 ≤ vd_nB t v ∧ vd_nB t v ≤ 15 := by rw [← eB]; omega
  obtain ⟨g1, p1, lr1, F1, S1⟩ := vd_P273 (i := 0) hN hq hnow hpl p0 lr (by omega) (by omega) (vd_hd_s (v 0 - 128 - vd_nA t v))
  obtain ⟨g2, p2, lr2, F2, S2⟩ := vd_P273 (i := -1) hN hq hnow hpl p0 lr1 (by omega) (by omega) (vd_hd_s (v (-1) - 128 + vd_nB t v))
  have tail : ∀ d Q, vd_wp (d + 3) 274 0 [.ref 63, .int (vd_I t), vd_U, vd_U, vd_U, vd_U, vd_U, vd_U, vd_U, vd_U] [] (vd_mf N g) Q = vd_wp (d + 3) 274 158 [.ref 63, .int (vd_I t), .int (vd_I (v (-2) - 128)), .int (vd_I (v (-1) - 128)), .int (vd_I (v 0 - 128)), .int (vd_I (v 1 - 128)), .int (vd_I (vd_hv t v)), .int (vd_I (vd_na t v)), .int (vd_I (vd_nA t v)), .int (vd_I (vd_nB t v))] [] (vd_mf N g2) Q := by
    intro d Q
    rw [head, mid]
    simp (disch := omega) only [vd_S274_132 hN, H, vd_S274_135 hN, vd_I_add, vd_S274_139 hN, p1, vd_S274_142 hN, vd_S274_148 hN, vd_S274_151 hN, vd_S274_155 hN, p2, vd_rs_v, vd_rs_n]
  have fr2 : vd_gLn q pl pw vt x y m g g2 := ⟨fun c k a => by rw [F2 c k a, F1 c k a], fun k a => by rw [S2 k (a (-1) (by omega) (by omega)), S1 k (a 0 (by omega) (by omega))]⟩
  rcases hvv with c | c
  · have er : vd_nwr t v = vd_ui (vd_ui (vd_nC t v) 1 (vd_hd (v 1 - 128 - (vd_nA t v + 1) / 2) + 128)) (-2) (vd_hd (v (-2) - 128 + (vd_nA t v + 1) / 2) + 128) := if_pos c
    rw [er]
    obtain ⟨g3, p3, lr3, F3, S3⟩ := vd_P273 (i := 1) hN hq hnow hpl p0 lr2 (by omega) (by omega) (vd_hd_s (v 1 - 128 - (vd_nA t v + 1) / 2))
    obtain ⟨g4, p4, lr4, F4, S4⟩ := vd_P273 (i := -2) hN hq hnow hpl p0 lr3 (by omega) (by omega) (vd_hd_s (v (-2) - 128 + (vd_nA t v + 1) / 2))
    have fr4 := fr2.trans (g2 := g4) ⟨fun c k a => by rw [F4 c k a, F3 c k a], fun k a => by rw [S4 k (a (-2) (by omega) (by omega)), S3 k (a 1 (by omega) (by omega))]⟩
    refine ⟨g4, fun d Q => ?_, lr4, h8.keep hq fr4.1, fr4⟩
    rw [tail, c]
    simp (disch := omega) only [vd_S274_158 hN, vd_I_toInt, eq_self, if_true, vd_S274_164 hN, vd_S274_167 hN, r1, vd_S274_170 hN, vd_I_sub, vd_S274_179 hN, H, vd_S274_182 hN, vd_I_add, vd_S274_186 hN, p3, vd_S274_189 hN, vd_S274_196 hN, vd_S274_199 hN, vd_S274_203 hN, p4, vd_S274_206 hN, vd_rs_v, vd_rs_n]
  · have er : vd_nwr t v = vd_nC t v := if_neg (by omega)
    rw [er]
    refine ⟨g2, fun d Q => ?_, lr2, h8.keep hq fr2.1, fr2⟩
    rw [tail, c]
    simp (disch := omega) only [vd_S274_158 hN, vd_I_toInt, show ¬ ((1 : Int) = 0) by decide, if_false, vd_S274_163 hN]
theorem vd_L272b (hN : vd_SR N) {g : Nat → Nat → Int32} (hv : vd_vb v) (hw : w = 3 ∨ w = 7) (hm : w + 1 ≤ m) (m8 : m ≤ 8) {i : Int} (i0 : -w ≤ i) (i1 : i < w) (h8 : vd_L8 m v g) (d : Nat) (Q : vd_M → (Option Value ⊕ Nat) → Prop) : ∀ (n : Nat) (j a : Int), j + n = i + w + 1 → i - w ≤ j → 0 ≤ a → a + 255 * n ≤ 5000 → vd_wp (d + 1) 272 23 [.ref 63, .int (vd_I w), .int (vd_I i), .int (vd_I a), .int (vd_I j)] [] (vd_mf N g) Q = vd_wp (d + 1) 272 58 [.ref 63, .int (vd_I w), .int (vd_I i), .int (vd_I (a + vd_su w v n j)), .int (vd_I (i + w + 1))] [] (vd_mf N g) Q := by
  intro n
  induction n with
  | zero =>
    intro j a hj _ a0 _
    have e : j = i + w + 1 := by omega
    subst e
    have c : i + w < i + w + 1 := by omega
    rw [vd_S272_23 hN]
    simp (disch := omega) only [vd_I_add, vd_I_toInt, c, if_true, vd_su, Int.add_zero]
  | succ n ih =>
    intro j a hj hj0 a0 hab
    have c : ¬ (i + w < j) := by omega
    have en : -w - 1 = -(w + 1) := by omega
    have P194 := fun (d : Nat) (Q : vd_M → (Option Value ⊕ Nat) → Prop) => vd_P194 (f := g) (d := d) (Q := Q) (a := j) (b := -(w + 1)) (c := w) hN (by omega) (by omega) (by omega) (by omega) (by omega) (by omega)
    have wb := vd_wn_b (v := j) (lo := -(w + 1)) (hi := w) (by omega)
    have vv := h8 (vd_wn j (-(w + 1)) w) (by omega) (by omega)
    have vb := hv (vd_wn j (-(w + 1)) w)
    have es : a + vd_su w v (n + 1) j = a + v (vd_wn j (-(w + 1)) w) + vd_su w v n (j + 1) := by
      simp only [vd_su]
      omega
    rw [es, ← ih (j + 1) (a + v (vd_wn j (-(w + 1)) w)) (by omega) (by omega) (by omega) (by omega), vd_S272_23 hN]
    simp (disch := omega) only [vd_I_add, vd_I_toInt, c, if_false, vd_S272_31 hN, vd_I_neg, vd_I_sub, en, vd_S272_45 hN, P194, vd_S272_48 hN, vd_S272_49 hN, vv, vd_rs_v, vd_rs_n]
theorem vd_r3 (hN : vd_SR N) {z : Int} (v0 : -1000000 ≤ z) (v1 : z ≤ 1000000) (g : Nat → Nat → Int32) (d : Nat) (Q : vd_M → (Option Value ⊕ Nat) → Prop) : vd_wp d 231 0 [.int (vd_I z), .int (vd_I 3)] [] (vd_mf N g) Q = Q (vd_mf N g) (.inl (some (.int (vd_I ((z + 4) / 8))))) := by
  have e : vd_I 1 <<< ((vd_I 3 - vd_I 1) &&& 31) = vd_I 4 := by decide
  simp (disch := omega) only [vd_S231_0 hN, e, vd_I_add, vd_shr3]
theorem vd_r4 (hN : vd_SR N) {z : Int} (v0 : -1000000 ≤ z) (v1 : z ≤ 1000000) (g : Nat → Nat → Int32) (d : Nat) (Q : vd_M → (Option Value ⊕ Nat) → Prop) : vd_wp d 231 0 [.int (vd_I z), .int (vd_I 4)] [] (vd_mf N g) Q = Q (vd_mf N g) (.inl (some (.int (vd_I ((z + 8) / 16))))) := by
  have e : vd_I 1 <<< ((vd_I 4 - vd_I 1) &&& 31) = vd_I 8 := by decide
  simp (disch := omega) only [vd_S231_0 hN, e, vd_I_add, vd_shr4]
theorem vd_L272 (hN : vd_SR N) (hq : vd_PD N q) (hnow : vd_r N 63 23 = some q) (hpl : pl < 3) (p0 : 1 ≤ pw ∧ pw ≤ 192) (hv : vd_vb v) (hw : w = 3 ∨ w = 7) (hm : w + 1 ≤ m) (m8 : m ≤ 8) : ∀ (n : Nat) (i : Int) (g : Nat → Nat → Int32) (a3 a4 : Value), i + n = w → -w ≤ i → vd_LR q pl pw vt x y m (vd_mpt w v (i + w)) g → vd_L8 m v g → ∃ g' : Nat → Nat → Int32, (∀ d Q, vd_wp (d + 3) 272 3 [.ref 63, .int (vd_I w), .int (vd_I i), a3, a4] [] (vd_mf N g) Q = Q (vd_mf N g') (.inl none)) ∧ vd_LR q pl pw vt x y m (vd_mr w v) g' ∧ vd_L8 m v g' ∧ vd_gLn q pl pw vt x y m g g' := by
  intro n
  induction n with
  | zero =>
    intro i g a3 a4 hi i0 lr h8
    have e : i = w := by omega
    subst e
    rw [show i + i = 2 * i by omega] at lr
    refine ⟨g, fun d Q => ?_, lr, h8, fun _ _ _ => rfl, fun _ _ => rfl⟩
    rw [vd_S272_3 hN]
    simp (disch := omega) only [vd_I_toInt, Int.lt_irrefl, if_false, vd_S272_84 hN]
  | succ n ih =>
    intro i g a3 a4 hi i0 lr h8
    have c : i < w := by omega
    have vi := h8 i (by omega) (by omega)
    have vb := hv i
    have mb := vd_mean_b (w := w) hv i
    obtain ⟨g1, p1, lr1, F1, S1⟩ := vd_P273 (i := i) (w := vd_mean w v i) hN hq hnow hpl p0 lr (by omega) (by omega) mb
    have eu : vd_ui (vd_mpt w v (i + w)) i (vd_mean w v i) = vd_mpt w v (i + 1 + w) := by
      have := vd_mpt_s w v (n := i + w) (by omega)
      rw [show -w + (i + w) = i by omega] at this
      rw [this, show i + w + 1 = i + 1 + w by omega]
    rw [eu] at lr1
    obtain ⟨g2, q1, q2, q3, q4⟩ := ih (i + 1) g1 (.int (vd_I (v i + vd_su w v (2 * w + 1).toNat (i - w)))) (.int (vd_I (i + w + 1))) (by omega) (by omega) lr1 (h8.keep hq F1)
    refine ⟨g2, fun d Q => ?_, q2, q3, vd_gLn.trans ⟨F1, fun k a => S1 k (a i (by omega) (by omega))⟩ q4⟩
    have lp := vd_L272b hN hv hw hm m8 i0 c h8 (d + 2) Q (2 * w + 1).toNat (i - w) (v i) (by omega) (by omega) vb.1 (by rcases hw with rfl | rfl <;> omega)
    have sb := vd_su_b (w := w) hv (2 * w + 1).toNat (i - w)
    rw [← q1 d Q, vd_S272_3 hN]
    simp (disch := omega) only [vd_I_toInt, c, if_true, vd_S272_8 hN, vd_I_add, vd_S272_16 hN, vi, vd_I_sub, lp, vd_S272_58 hN]
    rcases hw with rfl | rfl
    · have em : (v i + vd_su 3 v (2 * 3 + 1 : Int).toNat (i - 3) + 4) / 8 = vd_mean 3 v i := by
        unfold vd_mean
        rw [if_neg (by decide)]
        rfl
      have r3 := fun d Q => vd_r3 hN (z := v i + vd_su 3 v (2 * 3 + 1 : Int).toNat (i - 3)) (by omega) (by omega) g d Q
      rw [em] at r3
      simp (disch := omega) only [show ¬ ((3 : Int) = 7) by decide, if_false, vd_S272_71 hN, vd_S272_72 hN, r3, vd_S272_75 hN, p1, vd_S272_78 hN, vd_I_add, vd_rs_v, vd_rs_n]
    · have em : (v i + vd_su 7 v (2 * 7 + 1 : Int).toNat (i - 7) + 8) / 16 = vd_mean 7 v i := by
        unfold vd_mean
        rw [if_pos rfl]
        rfl
      have r4 := fun d Q => vd_r4 hN (z := v i + vd_su 7 v (2 * 7 + 1 : Int).toNat (i - 7)) (by omega) (by omega) g d Q
      rw [em] at r4
      simp (disch := omega) only [if_true, vd_S272_67 hN, vd_S272_72 hN, r4, vd_S272_75 hN, p1, vd_S272_78 hN, vd_I_add, vd_rs_v, vd_rs_n]
end VDNM
