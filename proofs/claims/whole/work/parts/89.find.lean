/-! ===== vectors: small ones, even ones, held ones; places around; the frame before ===== -/
def vd_ab (x : Int) : Int := if x < 0 then -x else x
def vd_sml (x y : Int) : Int := if vd_ab x < 64 ∧ vd_ab y < 64 then 1 else 0
def vd_evn (v : Int) : Int := v.tdiv 2 * 2
theorem vd_td2 (v : Int) : (0 ≤ v → v.tdiv 2 = v / 2) ∧ (v < 0 → v.tdiv 2 = -((-v) / 2)) := by
  refine ⟨fun h => Int.tdiv_eq_ediv_of_nonneg h, fun h => ?_⟩
  have e : v = -(-v) := by omega
  conv => lhs; rw [e]
  rw [Int.neg_tdiv, Int.tdiv_eq_ediv_of_nonneg (by omega)]
theorem vd_evn_b {v : Int} (h0 : -20000 ≤ v) (h1 : v ≤ 20000) : -20000 ≤ vd_evn v ∧ vd_evn v ≤ 20000 := by
  have h := vd_td2 v
  unfold vd_evn
  by_cases c : 0 ≤ v
  · rw [h.1 c]; omega
  · rw [h.2 (by omega)]; omega
section VDFD
variable {M N : vd_M} {ow fa lo lf : Nat} {f g : Nat → Nat → Int32} {d : Nat} {Q : vd_M → (Option Value ⊕ Nat) → Prop} {a b : Int}
theorem vd_P96 (hM : vd_SC M ow fa lo lf) (a0 : -200000 ≤ a) (a1 : a ≤ 200000) (b0 : -200000 ≤ b) (b1 : b ≤ 200000) : vd_wp (d + 1) 96 0 [.int (vd_I a), .int (vd_I b)] [] (vd_mf M f) Q = Q (vd_mf M f) (.inl (some (.int (vd_I (vd_sml a b))))) := by
  have p := fun {z : Int} (z0 : -2147483648 ≤ z) (z1 : z < 2147483648) (Q : vd_M → (Option Value ⊕ Nat) → Prop) => vd_P292 (M := M) (f := f) (d := d) (Q := Q) z0 z1
  have ha : (if a < 0 then -a else a) = vd_ab a := rfl
  have hb : (if b < 0 then -b else b) = vd_ab b := rfl
  have ga : 0 ≤ vd_ab a ∧ vd_ab a ≤ 200000 := by unfold vd_ab; split <;> omega
  have gb : 0 ≤ vd_ab b ∧ vd_ab b ≤ 200000 := by unfold vd_ab; split <;> omega
  unfold vd_sml
  by_cases c : vd_ab a < 64
  · by_cases c2 : vd_ab b < 64
    · simp (disch := first | decide | omega) only [vd_S96_0 hM, vd_S96_9 hM, vd_S96_18 hM, vd_S96_22 hM, vd_S96_23 hM, vd_S96_1 hM, vd_S96_10 hM, vd_S96_4 hM, vd_S96_13 hM, p, ha, hb, vd_rs_v, vd_rs_n, vd_I_toInt, c, c2, and_self, if_true, vd_rok1]
    · simp (disch := first | decide | omega) only [vd_S96_0 hM, vd_S96_9 hM, vd_S96_18 hM, vd_S96_22 hM, vd_S96_23 hM, vd_S96_1 hM, vd_S96_10 hM, vd_S96_4 hM, vd_S96_13 hM, p, ha, hb, vd_rs_v, vd_rs_n, vd_I_toInt, c, c2, and_false, if_true, if_false, vd_rok0]
  · simp (disch := first | decide | omega) only [vd_S96_0 hM, vd_S96_9 hM, vd_S96_18 hM, vd_S96_22 hM, vd_S96_23 hM, vd_S96_1 hM, vd_S96_10 hM, vd_S96_4 hM, vd_S96_13 hM, p, ha, hb, vd_rs_v, vd_rs_n, vd_I_toInt, c, false_and, if_false, vd_rok0]
theorem vd_P216 (hN : vd_SR N) (a0 : -200000 ≤ a) (a1 : a ≤ 200000) (b0 : -200000 ≤ b) (b1 : b ≤ 200000) : vd_wp (d + 1) 216 0 [.ref 63, .int (vd_I a), .int (vd_I b)] [] (vd_mf N g) Q = Q (vd_mf N g) (.inl (some (.int (vd_I (vd_sml a b))))) := by
  have p := fun {z : Int} (z0 : -2147483648 ≤ z) (z1 : z < 2147483648) (Q : vd_M → (Option Value ⊕ Nat) → Prop) => vd_P292 (M := N) (f := g) (d := d) (Q := Q) z0 z1
  have ha : (if a < 0 then -a else a) = vd_ab a := rfl
  have hb : (if b < 0 then -b else b) = vd_ab b := rfl
  have ga : 0 ≤ vd_ab a ∧ vd_ab a ≤ 200000 := by unfold vd_ab; split <;> omega
  have gb : 0 ≤ vd_ab b ∧ vd_ab b ≤ 200000 := by unfold vd_ab; split <;> omega
  unfold vd_sml
  by_cases c : vd_ab a < 64
  · by_cases c2 : vd_ab b < 64
    · simp (disch := first | decide | omega) only [vd_S216_0 hN, vd_S216_9 hN, vd_S216_18 hN, vd_S216_22 hN, vd_S216_23 hN, vd_S216_1 hN, vd_S216_10 hN, vd_S216_4 hN, vd_S216_13 hN, p, ha, hb, vd_rs_v, vd_rs_n, vd_I_toInt, c, c2, and_self, if_true, vd_rok1]
    · simp (disch := first | decide | omega) only [vd_S216_0 hN, vd_S216_9 hN, vd_S216_18 hN, vd_S216_22 hN, vd_S216_23 hN, vd_S216_1 hN, vd_S216_10 hN, vd_S216_4 hN, vd_S216_13 hN, p, ha, hb, vd_rs_v, vd_rs_n, vd_I_toInt, c, c2, and_false, if_true, if_false, vd_rok0]
  · simp (disch := first | decide | omega) only [vd_S216_0 hN, vd_S216_9 hN, vd_S216_18 hN, vd_S216_22 hN, vd_S216_23 hN, vd_S216_1 hN, vd_S216_10 hN, vd_S216_4 hN, vd_S216_13 hN, p, ha, hb, vd_rs_v, vd_rs_n, vd_I_toInt, c, false_and, if_false, vd_rok0]
theorem vd_P217 (hN : vd_SR N) (a0 : -200000 ≤ a) (a1 : a ≤ 200000) : vd_wp d 217 0 [.int (vd_I a)] [] (vd_mf N g) Q = Q (vd_mf N g) (.inl (some (.int (vd_I (vd_evn a))))) := by
  have h := vd_td2 a
  unfold vd_evn
  have hb : -200000 ≤ a.tdiv 2 * 2 ∧ a.tdiv 2 * 2 ≤ 200000 := by
    by_cases c : 0 ≤ a
    · rw [h.1 c]; omega
    · rw [h.2 (by omega)]; omega
  by_cases c : a - a.tdiv 2 * 2 = 0
  · have e : a = a.tdiv 2 * 2 := by omega
    simp (disch := first | decide | omega) only [vd_S217_0 hN, vd_S217_6 hN, vd_S217_10 hN, vd_S217_14 hN, vd_S217_20 hN, vd_S217_23 hN, vd_I_tdiv, vd_I_mul, vd_I_sub, vd_I_toInt, eq_true c, if_true]
    rw [← e]
  · by_cases c2 : 0 < a
    · have e : a - 1 = a.tdiv 2 * 2 := by have := h.1 (by omega); omega
      simp (disch := first | decide | omega) only [vd_S217_0 hN, vd_S217_6 hN, vd_S217_10 hN, vd_S217_14 hN, vd_S217_20 hN, vd_S217_23 hN, vd_I_tdiv, vd_I_mul, vd_I_sub, vd_I_toInt, eq_false c, c2, if_true, if_false]
      rw [← e]
    · have e : a + 1 = a.tdiv 2 * 2 := by
        by_cases c3 : a < 0
        · have := h.2 c3; omega
        · have := h.1 (by omega); omega
      simp (disch := first | decide | omega) only [vd_S217_0 hN, vd_S217_6 hN, vd_S217_10 hN, vd_S217_14 hN, vd_S217_20 hN, vd_S217_23 hN, vd_I_tdiv, vd_I_mul, vd_I_sub, vd_I_add, vd_I_toInt, eq_false c, c2, if_false]
      rw [← e]
theorem vd_P97 (hM : vd_SC M ow fa lo lf) {v x w p : Int} (v0 : -200000 ≤ v) (v1 : v ≤ 200000) (x0 : 0 ≤ x) (x1 : x ≤ 20000) (w0 : 0 ≤ w) (w1 : w ≤ 20000) (p0 : 0 ≤ p) (p1 : p ≤ 20000) : vd_wp (d + 1) 97 0 [.int (vd_I v), .int (vd_I x), .int (vd_I w), .int (vd_I p)] [] (vd_mf M f) Q = Q (vd_mf M f) (.inl (some (.int (vd_I (vd_wn v (-8 * (x + w + 16)) (8 * (p + 16 - x))))))) := by
  simp (disch := omega) only [vd_S97_0 hM, vd_S97_19 hM, vd_S97_22 hM, vd_I_add, vd_I_sub, vd_I_mul, vd_P58 hM, vd_rs_v, vd_rs_n]
theorem vd_P92 (hM : vd_SC M ow fa lo lf) {nb w i : Nat} (hw : f fa (18 * nb + 2) = vd_I (w : Int)) (hn : nb < 576) (hi : i < 8) : vd_wp d 92 0 [.ref 54, .int (vd_I (18 * (nb : Int))), .int (vd_I (i : Int))] [] (vd_mf M f) Q = Q (vd_mf M f) (.inl (some (.int (vd_I (vd_dx w i))))) := by
  have ei : (18 * (nb : Int) + 2).toNat = 18 * nb + 2 := by omega
  have ht : ∀ i, i < 8 → vd_tsw 1 66 0 7 #[47, 66, 49, 66, 66, 47, 63, 63] (vd_I (i : Nat)) = (if i = 0 ∨ i = 5 then 48 else if i = 2 then 50 else if i = 6 ∨ i = 7 then 64 else 67) := by decide +kernel
  unfold vd_dx
  simp only [vd_S92_0 hM, vd_S92_1 hM, ht i hi]
  by_cases c1 : i = 0 ∨ i = 5
  · simp only [if_pos c1, vd_S92_0 hM, vd_S92_48 hM, vd_S92_50 hM, vd_S92_64 hM, vd_S92_67 hM, vd_S92_1 hM, vd_S92_60 hM]
  · rw [if_neg c1, if_neg c1]
    by_cases c2 : i = 2
    · simp (disch := omega) only [if_pos c2, vd_S92_0 hM, vd_S92_48 hM, vd_S92_50 hM, vd_S92_64 hM, vd_S92_67 hM, vd_S92_1 hM, vd_S92_60 hM, vd_I_add, vd_I_sub, ei, hw]
    · rw [if_neg c2, if_neg c2]
      by_cases c3 : i = 6 ∨ i = 7
      · simp only [if_pos c3, vd_S92_0 hM, vd_S92_48 hM, vd_S92_50 hM, vd_S92_64 hM, vd_S92_67 hM, vd_S92_1 hM, vd_S92_60 hM]
      · simp only [if_neg c3, vd_S92_0 hM, vd_S92_48 hM, vd_S92_50 hM, vd_S92_64 hM, vd_S92_67 hM, vd_S92_1 hM, vd_S92_60 hM]
theorem vd_P93 (hM : vd_SC M ow fa lo lf) {nb h i : Nat} (hw : f fa (18 * nb + 3) = vd_I (h : Int)) (hn : nb < 576) (hi : i < 8) : vd_wp d 93 0 [.ref 54, .int (vd_I (18 * (nb : Int))), .int (vd_I (i : Int))] [] (vd_mf M f) Q = Q (vd_mf M f) (.inl (some (.int (vd_I (vd_dy h i))))) := by
  have ei : (18 * (nb : Int) + 3).toNat = 18 * nb + 3 := by omega
  have ht : ∀ i, i < 8 → vd_tsw 1 62 1 7 #[43, 62, 45, 62, 59, 43, 59] (vd_I (i : Nat)) = (if i = 1 ∨ i = 6 then 44 else if i = 3 then 46 else if i = 5 ∨ i = 7 then 60 else 63) := by decide +kernel
  unfold vd_dy
  simp only [vd_S93_0 hM, vd_S93_1 hM, ht i hi]
  by_cases c1 : i = 1 ∨ i = 6
  · simp only [if_pos c1, vd_S93_0 hM, vd_S93_44 hM, vd_S93_46 hM, vd_S93_60 hM, vd_S93_63 hM, vd_S93_1 hM, vd_S93_56 hM]
  · rw [if_neg c1, if_neg c1]
    by_cases c2 : i = 3
    · simp (disch := omega) only [if_pos c2, vd_S93_0 hM, vd_S93_44 hM, vd_S93_46 hM, vd_S93_60 hM, vd_S93_63 hM, vd_S93_1 hM, vd_S93_56 hM, vd_I_add, vd_I_sub, ei, hw]
    · rw [if_neg c2, if_neg c2]
      by_cases c3 : i = 5 ∨ i = 7
      · simp only [if_pos c3, vd_S93_0 hM, vd_S93_44 hM, vd_S93_46 hM, vd_S93_60 hM, vd_S93_63 hM, vd_S93_1 hM, vd_S93_56 hM]
      · simp only [if_neg c3, vd_S93_0 hM, vd_S93_44 hM, vd_S93_46 hM, vd_S93_60 hM, vd_S93_63 hM, vd_S93_1 hM, vd_S93_56 hM]
/-- the motion of the frame before: L, if mo -/
def vd_LA (lo lf W H : Nat) (mo : Int) (L : Nat → Nat → Nat → Int) (f : Nat → Nat → Int32) : Prop := f 37 6 = vd_I mo ∧ (mo = 1 → ∀ i j, i < W → j < H → ∃ k : Nat, k < 576 ∧ f lo (24 * j + i) = vd_I (18 * (k : Int)) ∧ ∀ q, 9 ≤ q → q < 16 → f lf (18 * k + q) = vd_I (L i j q))
def vd_LB (W H : Nat) (mo : Int) (L : Nat → Nat → Nat → Int) (g : Nat → Nat → Int32) : Prop := g 63 39 = vd_I mo ∧ (mo = 1 → ∀ i j, i < W → j < H → vd_og g 76 77 78 (W * j + i) (L i j))
def vd_LV (W H : Nat) (mo : Int) (L : Nat → Nat → Nat → Int) : Prop := (mo = 0 ∨ mo = 1) ∧ (mo = 1 → ∀ i j, i < W → j < H → vd_OV (L i j))
theorem vd_LA.keep {lo lf W H : Nat} {mo : Int} {L : Nat → Nat → Nat → Int} {f f' : Nat → Nat → Int32} (h : vd_LA lo lf W H mo L f) (hf : ∀ c i, c = lo ∨ c = lf ∨ (c = 37 ∧ i = 6) → f' c i = f c i) : vd_LA lo lf W H mo L f' := by
  obtain ⟨h1, h2⟩ := h
  refine ⟨by rw [hf _ _ (by omega)]; exact h1, fun q i j hi hj => ?_⟩
  obtain ⟨k, k1, k2, k3⟩ := h2 q i j hi hj
  exact ⟨k, k1, by rw [hf _ _ (by omega)]; exact k2, fun q q1 q2 => by rw [hf _ _ (by omega)]; exact k3 q q1 q2⟩
theorem vd_LB.keep {W H : Nat} {mo : Int} {L : Nat → Nat → Nat → Int} {g g' : Nat → Nat → Int32} (h : vd_LB W H mo L g) (hg : ∀ c i, (76 ≤ c ∧ c ≤ 78) ∨ (c = 63 ∧ i = 39) → g' c i = g c i) : vd_LB W H mo L g' := by
  obtain ⟨h1, h2⟩ := h
  refine ⟨by rw [hg _ _ (by omega)]; exact h1, fun q i j hi hj => ?_⟩
  obtain ⟨⟨a1, a2⟩, a3, a4, a5, a6⟩ := h2 q i j hi hj
  refine ⟨⟨?_, ?_⟩, ?_, ?_, ?_, ?_⟩ <;> rw [hg _ _ (by omega)] <;> assumption
theorem vd_P91 (hM : vd_SC M ow fa lo lf) {W H nb x y : Nat} {O : Nat → Nat → Option Nat} {B : Nat → Nat → Int} {mo : Int} {L : Nat → Nat → Nat → Int} (hG : vd_GA ow fa W H nb O B f) (hL : vd_LA lo lf W H mo L f) (hm : mo = 0 ∨ mo = 1) (hx : x < W) (hy : y < H) : ∃ p : Int, (∀ d Q, vd_wp (d + 1) 91 0 [.ref 37, .int (vd_I (x : Int)), .int (vd_I (y : Int))] [] (vd_mf M f) Q = Q (vd_mf M f) (.inl (some (.int (vd_I p))))) ∧ ((mo = 0 ∧ p = -1) ∨ (mo = 1 ∧ ∃ k : Nat, k < 576 ∧ p = 18 * (k : Int) ∧ ∀ q, 9 ≤ q → q < 16 → f lf (18 * k + q) = vd_I (L x y q))) := by
  have hw := hG.2.1
  rcases hm with rfl | rfl
  · refine ⟨-1, fun d Q => ?_, Or.inl ⟨rfl, rfl⟩⟩
    simp (disch := omega) only [vd_S91_0 hM, vd_S91_7 hM, vd_S91_16 hM, vd_S91_30 hM, vd_S91_31 hM, vd_S91_10 hM, vd_S91_26 hM, vd_S91_13 hM, hL.1, vd_I_toInt, eq_self, if_true]
  · obtain ⟨k, k1, k2, k3⟩ := hL.2 rfl x y hx hy
    refine ⟨18 * (k : Int), fun d Q => ?_, Or.inr ⟨rfl, k, k1, rfl, k3⟩⟩
    have ei : ((y : Int) * 24 + (x : Int)).toNat = 24 * y + x := by omega
    have c : 0 ≤ (x : Int) ∧ 0 ≤ (y : Int) ∧ (x : Int) < (W : Int) ∧ (y : Int) < (H : Int) := by omega
    simp (disch := omega) only [vd_S91_0 hM, vd_S91_7 hM, vd_S91_16 hM, vd_S91_30 hM, vd_S91_31 hM, vd_S91_10 hM, vd_S91_26 hM, vd_S91_13 hM, hL.1, vd_I_toInt, show ¬ ((1 : Int) = 0) by decide, if_false, vd_P69 hM hG, if_pos c, vd_rs_v, vd_rs_n, vd_I_mul, vd_I_add, ei, k2]
end VDFD
