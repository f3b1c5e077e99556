/-! ===== single calls of the class on a fresh object ===== -/
/-- what the reference, the script and the row of answers hold has not changed -/
def vd_kp (M M' : vd_M) : Prop := (197 ≤ vd_n M → 197 ≤ vd_n M') ∧ ∀ a, (a = 9 ∨ (63 ≤ a ∧ a < 197)) → vd_k M' a = vd_k M a ∧ vd_l M' a = vd_l M a ∧ (∀ b, vd_i M' a b = vd_i M a b) ∧ (∀ b, vd_r M' a b = vd_r M a b)
theorem vd_kp.refl (M : vd_M) : vd_kp M M := ⟨id, fun _ _ => ⟨rfl, rfl, fun _ => rfl, fun _ => rfl⟩⟩
theorem vd_kp.trans {M M' M'' : vd_M} (h : vd_kp M M') (g : vd_kp M' M'') : vd_kp M M'' := ⟨fun q => g.1 (h.1 q), fun a ha => by
  obtain ⟨h1, h2, h3, h4⟩ := h.2 a ha
  obtain ⟨g1, g2, g3, g4⟩ := g.2 a ha
  exact ⟨g1.trans h1, g2.trans h2, fun b => (g3 b).trans (h3 b), fun b => (g4 b).trans (h4 b)⟩⟩
theorem vd_kp.si {M M' : vd_M} (h : vd_kp M M') {o i : Nat} {v : Int32} (hb : o ≠ 9 ∧ (o < 63 ∨ 197 ≤ o)) : vd_kp M (vd_si M' o i v) := h.trans ⟨id, fun a ha => by
  have : a ≠ o := by omega
  simp only [vd_MM, this, false_and, if_false]
  exact ⟨trivial, trivial, fun _ => trivial, fun _ => trivial⟩⟩
theorem vd_kp.sj {M M' : vd_M} (h : vd_kp M M') {o i : Nat} {v : Int64} : vd_kp M (vd_sj M' o i v) := h.trans ⟨id, fun a ha => ⟨rfl, rfl, fun _ => rfl, fun _ => rfl⟩⟩
theorem vd_kp.new {M M' : vd_M} (h : vd_kp M M') {k len sl : Nat} (hb : 197 ≤ vd_n M') : vd_kp M (vd_new M' k len sl) := h.trans ⟨fun q => Nat.le_trans q (Nat.le_succ _), fun a ha => by
  have : a ≠ vd_n M' := by omega
  simp only [vd_MM, this, if_false]
  exact ⟨trivial, trivial, fun _ => trivial, fun _ => trivial⟩⟩
theorem vd_I0 : (0 : Int32) = vd_I 0 := by decide
/-- how a helper of the law ends -/
def vd_CL (M : vd_M) (k : Int) (v : Int32) (Q : vd_M → (Option Value ⊕ Nat) → Prop) : Prop := ∀ M', vd_kp M M' → (k = 0 → vd_j M' 196 0 = v.toInt64) → vd_c M' ≤ vd_c M + 1 → vd_s M' ≤ vd_s M + 6 → Q M' (.inl (some (.int (vd_I k))))
/-- how a call of the class ends: an answer, or an exception of a kind -/
def vd_OC (M : vd_M) (k : Int) (v : Int32) (ex : Nat) (M1 : vd_M) (r : Option Value ⊕ Nat) : Prop := (k = 0 ∧ r = .inl (some (.int v)) ∧ vd_kp M M1 ∧ vd_c M1 ≤ vd_c M ∧ vd_s M1 ≤ vd_s M) ∨ (k ≠ 0 ∧ ∃ o, r = .inr o ∧ vd_k M1 o = ex ∧ vd_kp M M1 ∧ vd_c M1 ≤ vd_c M + 1 ∧ vd_s M1 ≤ vd_s M + 6)
theorem vd_OC.throw {M : vd_M} {k : Int} {v : Int32} {ex : Nat} (h : k ≠ 0) (hn : 197 ≤ vd_n M) : vd_OC M k v ex (vd_new M ex 0 6) (.inr (vd_n M)) := Or.inr ⟨h, _, rfl, by simp only [vd_MM, if_true], (vd_kp.refl M).new hn, by simp only [vd_MM]; omega, by simp only [vd_MM]; omega⟩
section VDK
variable {d L : Nat} {xs : Nat → Int32} {M : vd_M} {Q : vd_M → (Option Value ⊕ Nat) → Prop} {k : Int} {v : Int32} {ex : Nat} {x0 x1 x2 x3 x4 : Int32}
theorem vd_hp16 (k10 : vd_k M 10 = 0) (k196 : vd_k M 196 = 35) (l196 : vd_l M 196 = 1) (hc : vd_wp d 17 0 [.ref 10, .int x0, .int x1, .int x2, .int x3, .int x4] [] M (vd_OC M k v ex)) (hex : k = 0 ∨ (ex = 14 ∧ k = 1)) (hQ : vd_CL M k v Q) : vd_wp (d + 1) 16 0 [.ref 10, .int x0, .int x1, .int x2, .int x3, .int x4, .ref 196, vd_U] [] M Q := by
  simp (disch := first | assumption | (simp only [vd_MM, if_true, if_false]; done) | omega | (simp only [vd_MM, if_true, if_false]; first | assumption | omega)) only [vd_E16_0, vd_E16_0n, vd_E16_2, vd_E16_3, vd_E16_3n, vd_E16_4, vd_E16_5, vd_E16_6, vd_E16_7, vd_E16_9, vd_E16_14, vd_E16_15, vd_E16_16, vd_E16_19, vd_E16_19n, vd_E16_21, vd_E16_22, vd_E16_23, vd_E16_24]
  refine vd_E16_11 (Nat.le_of_ble_eq_true rfl) k10 (vd_wp_mono hc fun M1 r h => ?_)
  rcases h with ⟨rfl, rfl, kp, c1, s1⟩ | ⟨hk, o, rfl, ho, kp, c1, s1⟩
  · have e := kp.2 196 (by omega)
    have e1 := e.1.trans k196
    have e2 := e.2.1.trans l196
    simp only [Option.toList_some, List.cons_append, List.nil_append]
    simp (disch := first | assumption | (simp only [vd_MM, if_true, if_false, e1, e2]; done) | omega | (simp only [vd_MM, if_true, if_false, e1, e2]; first | assumption | omega)) only [vd_E16_0, vd_E16_0n, vd_E16_2, vd_E16_3, vd_E16_3n, vd_E16_4, vd_E16_5, vd_E16_6, vd_E16_7, vd_E16_9, vd_E16_14, vd_E16_15, vd_E16_16, vd_E16_19, vd_E16_19n, vd_E16_21, vd_E16_22, vd_E16_23, vd_E16_24]
    exact hQ _ kp.sj (fun _ => by simp only [vd_MM, Int.toNat_zero, and_self, if_true]) (by simp only [vd_MM]; omega) (by simp only [vd_MM]; omega)
  · rcases hex with q | ⟨rfl, rfl⟩
    · exact absurd q hk
    · refine ⟨19, by rw [ho]; rfl, ?_⟩
      simp (disch := first | assumption | (simp only [vd_MM, if_true, if_false]; done) | omega | (simp only [vd_MM, if_true, if_false]; first | assumption | omega)) only [vd_E16_0, vd_E16_0n, vd_E16_2, vd_E16_3, vd_E16_3n, vd_E16_4, vd_E16_5, vd_E16_6, vd_E16_7, vd_E16_9, vd_E16_14, vd_E16_15, vd_E16_16, vd_E16_19, vd_E16_19n, vd_E16_21, vd_E16_22, vd_E16_23, vd_E16_24]
      exact hQ _ kp (fun q => by omega) c1 s1
theorem vd_hp19 (k10 : vd_k M 10 = 0) (k196 : vd_k M 196 = 35) (l196 : vd_l M 196 = 1) (hc : vd_wp d 20 0 [.ref 10, .int x0] [] M (vd_OC M k v ex)) (hex : k = 0 ∨ (ex = 15 ∧ k = 1)) (hQ : vd_CL M k v Q) : vd_wp (d + 1) 19 0 [.ref 10, .int x0, .ref 196, vd_U] [] M Q := by
  simp (disch := first | assumption | (simp only [vd_MM, if_true, if_false]; done) | omega | (simp only [vd_MM, if_true, if_false]; first | assumption | omega)) only [vd_E19_0, vd_E19_0n, vd_E19_1, vd_E19_2, vd_E19_2n, vd_E19_3, vd_E19_7, vd_E19_8, vd_E19_9, vd_E19_12, vd_E19_12n, vd_E19_13, vd_E19_14, vd_E19_15, vd_E19_16]
  refine vd_E19_4 (Nat.le_of_ble_eq_true rfl) k10 (vd_wp_mono hc fun M1 r h => ?_)
  rcases h with ⟨rfl, rfl, kp, c1, s1⟩ | ⟨hk, o, rfl, ho, kp, c1, s1⟩
  · have e := kp.2 196 (by omega)
    have e1 := e.1.trans k196
    have e2 := e.2.1.trans l196
    simp only [Option.toList_some, List.cons_append, List.nil_append]
    simp (disch := first | assumption | (simp only [vd_MM, if_true, if_false, e1, e2]; done) | omega | (simp only [vd_MM, if_true, if_false, e1, e2]; first | assumption | omega)) only [vd_E19_0, vd_E19_0n, vd_E19_1, vd_E19_2, vd_E19_2n, vd_E19_3, vd_E19_7, vd_E19_8, vd_E19_9, vd_E19_12, vd_E19_12n, vd_E19_13, vd_E19_14, vd_E19_15, vd_E19_16]
    exact hQ _ kp.sj (fun _ => by simp only [vd_MM, Int.toNat_zero, and_self, if_true]) (by simp only [vd_MM]; omega) (by simp only [vd_MM]; omega)
  · rcases hex with q | ⟨rfl, rfl⟩
    · exact absurd q hk
    · refine ⟨12, by rw [ho]; rfl, ?_⟩
      simp (disch := first | assumption | (simp only [vd_MM, if_true, if_false]; done) | omega | (simp only [vd_MM, if_true, if_false]; first | assumption | omega)) only [vd_E19_0, vd_E19_0n, vd_E19_1, vd_E19_2, vd_E19_2n, vd_E19_3, vd_E19_7, vd_E19_8, vd_E19_9, vd_E19_12, vd_E19_12n, vd_E19_13, vd_E19_14, vd_E19_15, vd_E19_16]
      exact hQ _ kp (fun q => by omega) c1 s1
theorem vd_hp21 (k10 : vd_k M 10 = 0) (k196 : vd_k M 196 = 35) (l196 : vd_l M 196 = 1) (hc : vd_wp d 22 0 [.ref 10, vd_U, vd_U, vd_U, vd_U, vd_U, vd_U, vd_U] [] M (vd_OC M k v ex)) (hex : k = 0 ∨ (ex = 16 ∧ k = 1)) (hQ : vd_CL M k v Q) : vd_wp (d + 1) 21 0 [.ref 10, .ref 196, vd_U] [] M Q := by
  simp (disch := first | assumption | (simp only [vd_MM, if_true, if_false]; done) | omega | (simp only [vd_MM, if_true, if_false]; first | assumption | omega)) only [vd_E21_0, vd_E21_0n, vd_E21_1, vd_E21_2, vd_E21_2n, vd_E21_6, vd_E21_7, vd_E21_8, vd_E21_11, vd_E21_11n, vd_E21_12, vd_E21_13, vd_E21_14, vd_E21_15]
  refine vd_E21_3 (Nat.le_of_ble_eq_true rfl) k10 (vd_wp_mono hc fun M1 r h => ?_)
  rcases h with ⟨rfl, rfl, kp, c1, s1⟩ | ⟨hk, o, rfl, ho, kp, c1, s1⟩
  · have e := kp.2 196 (by omega)
    have e1 := e.1.trans k196
    have e2 := e.2.1.trans l196
    simp only [Option.toList_some, List.cons_append, List.nil_append]
    simp (disch := first | assumption | (simp only [vd_MM, if_true, if_false, e1, e2]; done) | omega | (simp only [vd_MM, if_true, if_false, e1, e2]; first | assumption | omega)) only [vd_E21_0, vd_E21_0n, vd_E21_1, vd_E21_2, vd_E21_2n, vd_E21_6, vd_E21_7, vd_E21_8, vd_E21_11, vd_E21_11n, vd_E21_12, vd_E21_13, vd_E21_14, vd_E21_15]
    exact hQ _ kp.sj (fun _ => by simp only [vd_MM, Int.toNat_zero, and_self, if_true]) (by simp only [vd_MM]; omega) (by simp only [vd_MM]; omega)
  · rcases hex with q | ⟨rfl, rfl⟩
    · exact absurd q hk
    · refine ⟨11, by rw [ho]; rfl, ?_⟩
      simp (disch := first | assumption | (simp only [vd_MM, if_true, if_false]; done) | omega | (simp only [vd_MM, if_true, if_false]; first | assumption | omega)) only [vd_E21_0, vd_E21_0n, vd_E21_1, vd_E21_2, vd_E21_2n, vd_E21_6, vd_E21_7, vd_E21_8, vd_E21_11, vd_E21_11n, vd_E21_12, vd_E21_13, vd_E21_14, vd_E21_15]
      exact hQ _ kp (fun q => by omega) c1 s1
theorem vd_hp150 (k10 : vd_k M 10 = 0) (k196 : vd_k M 196 = 35) (l196 : vd_l M 196 = 1) (hc : vd_wp d 151 0 [.ref 10, .int x0] [] M (vd_OC M k v ex)) (hex : k = 0 ∨ (ex = 15 ∧ k = 1)) (hQ : vd_CL M k v Q) : vd_wp (d + 1) 150 0 [.ref 10, .int x0, .ref 196, vd_U] [] M Q := by
  simp (disch := first | assumption | (simp only [vd_MM, if_true, if_false]; done) | omega | (simp only [vd_MM, if_true, if_false]; first | assumption | omega)) only [vd_E150_0, vd_E150_0n, vd_E150_1, vd_E150_2, vd_E150_2n, vd_E150_3, vd_E150_7, vd_E150_8, vd_E150_9, vd_E150_12, vd_E150_12n, vd_E150_13, vd_E150_14, vd_E150_15, vd_E150_16]
  refine vd_E150_4 (Nat.le_of_ble_eq_true rfl) k10 (vd_wp_mono hc fun M1 r h => ?_)
  rcases h with ⟨rfl, rfl, kp, c1, s1⟩ | ⟨hk, o, rfl, ho, kp, c1, s1⟩
  · have e := kp.2 196 (by omega)
    have e1 := e.1.trans k196
    have e2 := e.2.1.trans l196
    simp only [Option.toList_some, List.cons_append, List.nil_append]
    simp (disch := first | assumption | (simp only [vd_MM, if_true, if_false, e1, e2]; done) | omega | (simp only [vd_MM, if_true, if_false, e1, e2]; first | assumption | omega)) only [vd_E150_0, vd_E150_0n, vd_E150_1, vd_E150_2, vd_E150_2n, vd_E150_3, vd_E150_7, vd_E150_8, vd_E150_9, vd_E150_12, vd_E150_12n, vd_E150_13, vd_E150_14, vd_E150_15, vd_E150_16]
    exact hQ _ kp.sj (fun _ => by simp only [vd_MM, Int.toNat_zero, and_self, if_true]) (by simp only [vd_MM]; omega) (by simp only [vd_MM]; omega)
  · rcases hex with q | ⟨rfl, rfl⟩
    · exact absurd q hk
    · refine ⟨12, by rw [ho]; rfl, ?_⟩
      simp (disch := first | assumption | (simp only [vd_MM, if_true, if_false]; done) | omega | (simp only [vd_MM, if_true, if_false]; first | assumption | omega)) only [vd_E150_0, vd_E150_0n, vd_E150_1, vd_E150_2, vd_E150_2n, vd_E150_3, vd_E150_7, vd_E150_8, vd_E150_9, vd_E150_12, vd_E150_12n, vd_E150_13, vd_E150_14, vd_E150_15, vd_E150_16]
      exact hQ _ kp (fun q => by omega) c1 s1
theorem vd_hp152 (k10 : vd_k M 10 = 0) (k196 : vd_k M 196 = 35) (l196 : vd_l M 196 = 1) (hc : vd_wp d 153 0 [.ref 10, .int x0, .int x1, .int x2, .int x3, vd_U] [] M (vd_OC M k v ex)) (hex : k = 0 ∨ (ex = 17 ∧ k = 1) ∨ (ex = 18 ∧ k = 2)) (hQ : vd_CL M k v Q) : vd_wp (d + 1) 152 0 [.ref 10, .int x0, .int x1, .int x2, .int x3, .ref 196, vd_U] [] M Q := by
  simp (disch := first | assumption | (simp only [vd_MM, if_true, if_false]; done) | omega | (simp only [vd_MM, if_true, if_false]; first | assumption | omega)) only [vd_E152_0, vd_E152_0n, vd_E152_2, vd_E152_3, vd_E152_3n, vd_E152_4, vd_E152_5, vd_E152_6, vd_E152_7, vd_E152_12, vd_E152_13, vd_E152_14, vd_E152_17, vd_E152_17n, vd_E152_19, vd_E152_20, vd_E152_21, vd_E152_21n, vd_E152_23, vd_E152_24, vd_E152_25, vd_E152_26]
  refine vd_E152_9 (Nat.le_of_ble_eq_true rfl) k10 (vd_wp_mono hc fun M1 r h => ?_)
  rcases h with ⟨rfl, rfl, kp, c1, s1⟩ | ⟨hk, o, rfl, ho, kp, c1, s1⟩
  · have e := kp.2 196 (by omega)
    have e1 := e.1.trans k196
    have e2 := e.2.1.trans l196
    simp only [Option.toList_some, List.cons_append, List.nil_append]
    simp (disch := first | assumption | (simp only [vd_MM, if_true, if_false, e1, e2]; done) | omega | (simp only [vd_MM, if_true, if_false, e1, e2]; first | assumption | omega)) only [vd_E152_0, vd_E152_0n, vd_E152_2, vd_E152_3, vd_E152_3n, vd_E152_4, vd_E152_5, vd_E152_6, vd_E152_7, vd_E152_12, vd_E152_13, vd_E152_14, vd_E152_17, vd_E152_17n, vd_E152_19, vd_E152_20, vd_E152_21, vd_E152_21n, vd_E152_23, vd_E152_24, vd_E152_25, vd_E152_26]
    exact hQ _ kp.sj (fun _ => by simp only [vd_MM, Int.toNat_zero, and_self, if_true]) (by simp only [vd_MM]; omega) (by simp only [vd_MM]; omega)
  · rcases hex with q | ⟨rfl, rfl⟩ | ⟨rfl, rfl⟩
    · exact absurd q hk
    · refine ⟨17, by rw [ho]; rfl, ?_⟩
      simp (disch := first | assumption | (simp only [vd_MM, if_true, if_false]; done) | omega | (simp only [vd_MM, if_true, if_false]; first | assumption | omega)) only [vd_E152_0, vd_E152_0n, vd_E152_2, vd_E152_3, vd_E152_3n, vd_E152_4, vd_E152_5, vd_E152_6, vd_E152_7, vd_E152_12, vd_E152_13, vd_E152_14, vd_E152_17, vd_E152_17n, vd_E152_19, vd_E152_20, vd_E152_21, vd_E152_21n, vd_E152_23, vd_E152_24, vd_E152_25, vd_E152_26]
      exact hQ _ kp (fun q => by omega) c1 s1
    · refine ⟨21, by rw [ho]; rfl, ?_⟩
      simp (disch := first | assumption | (simp only [vd_MM, if_true, if_false]; done) | omega | (simp only [vd_MM, if_true, if_false]; first | assumption | omega)) only [vd_E152_0, vd_E152_0n, vd_E152_2, vd_E152_3, vd_E152_3n, vd_E152_4, vd_E152_5, vd_E152_6, vd_E152_7, vd_E152_12, vd_E152_13, vd_E152_14, vd_E152_17, vd_E152_17n, vd_E152_19, vd_E152_20, vd_E152_21, vd_E152_21n, vd_E152_23, vd_E152_24, vd_E152_25, vd_E152_26]
      exact hQ _ kp (fun q => by omega) c1 s1
theorem vd_hp155 (k10 : vd_k M 10 = 0) (k196 : vd_k M 196 = 35) (l196 : vd_l M 196 = 1) (hc : vd_wp d 156 0 [.ref 10, .int x0, .int x1, vd_U, vd_U, vd_U, vd_U, vd_U] [] M (vd_OC M k v ex)) (hex : k = 0 ∨ (ex = 17 ∧ k = 1) ∨ (ex = 18 ∧ k = 2)) (hQ : vd_CL M k v Q) : vd_wp (d + 1) 155 0 [.ref 10, .int x0, .int x1, .ref 196, vd_U] [] M Q := by
  simp (disch := first | assumption | (simp only [vd_MM, if_true, if_false]; done) | omega | (simp only [vd_MM, if_true, if_false]; first | assumption | omega)) only [vd_E155_0, vd_E155_0n, vd_E155_1, vd_E155_2, vd_E155_2n, vd_E155_3, vd_E155_4, vd_E155_8, vd_E155_9, vd_E155_10, vd_E155_13, vd_E155_13n, vd_E155_15, vd_E155_16, vd_E155_17, vd_E155_17n, vd_E155_19, vd_E155_20, vd_E155_21, vd_E155_22]
  refine vd_E155_5 (Nat.le_of_ble_eq_true rfl) k10 (vd_wp_mono hc fun M1 r h => ?_)
  rcases h with ⟨rfl, rfl, kp, c1, s1⟩ | ⟨hk, o, rfl, ho, kp, c1, s1⟩
  · have e := kp.2 196 (by omega)
    have e1 := e.1.trans k196
    have e2 := e.2.1.trans l196
    simp only [Option.toList_some, List.cons_append, List.nil_append]
    simp (disch := first | assumption | (simp only [vd_MM, if_true, if_false, e1, e2]; done) | omega | (simp only [vd_MM, if_true, if_false, e1, e2]; first | assumption | omega)) only [vd_E155_0, vd_E155_0n, vd_E155_1, vd_E155_2, vd_E155_2n, vd_E155_3, vd_E155_4, vd_E155_8, vd_E155_9, vd_E155_10, vd_E155_13, vd_E155_13n, vd_E155_15, vd_E155_16, vd_E155_17, vd_E155_17n, vd_E155_19, vd_E155_20, vd_E155_21, vd_E155_22]
    exact hQ _ kp.sj (fun _ => by simp only [vd_MM, Int.toNat_zero, and_self, if_true]) (by simp only [vd_MM]; omega) (by simp only [vd_MM]; omega)
  · rcases hex with q | ⟨rfl, rfl⟩ | ⟨rfl, rfl⟩
    · exact absurd q hk
    · refine ⟨13, by rw [ho]; rfl, ?_⟩
      simp (disch := first | assumption | (simp only [vd_MM, if_true, if_false]; done) | omega | (simp only [vd_MM, if_true, if_false]; first | assumption | omega)) only [vd_E155_0, vd_E155_0n, vd_E155_1, vd_E155_2, vd_E155_2n, vd_E155_3, vd_E155_4, vd_E155_8, vd_E155_9, vd_E155_10, vd_E155_13, vd_E155_13n, vd_E155_15, vd_E155_16, vd_E155_17, vd_E155_17n, vd_E155_19, vd_E155_20, vd_E155_21, vd_E155_22]
      exact hQ _ kp (fun q => by omega) c1 s1
    · refine ⟨17, by rw [ho]; rfl, ?_⟩
      simp (disch := first | assumption | (simp only [vd_MM, if_true, if_false]; done) | omega | (simp only [vd_MM, if_true, if_false]; first | assumption | omega)) only [vd_E155_0, vd_E155_0n, vd_E155_1, vd_E155_2, vd_E155_2n, vd_E155_3, vd_E155_4, vd_E155_8, vd_E155_9, vd_E155_10, vd_E155_13, vd_E155_13n, vd_E155_15, vd_E155_16, vd_E155_17, vd_E155_17n, vd_E155_19, vd_E155_20, vd_E155_21, vd_E155_22]
      exact hQ _ kp (fun q => by omega) c1 s1
theorem vd_hp157 (k10 : vd_k M 10 = 0) (k196 : vd_k M 196 = 35) (l196 : vd_l M 196 = 1) (hc : vd_wp d 158 0 [.ref 10, .int x0, .int x1, vd_U] [] M (vd_OC M k v ex)) (hex : k = 0 ∨ (ex = 17 ∧ k = 1) ∨ (ex = 15 ∧ k = 2)) (hQ : vd_CL M k v Q) : vd_wp (d + 1) 157 0 [.ref 10, .int x0, .int x1, .ref 196, vd_U] [] M Q := by
  simp (disch := first | assumption | (simp only [vd_MM, if_true, if_false]; done) | omega | (simp only [vd_MM, if_true, if_false]; first | assumption | omega)) only [vd_E157_0, vd_E157_0n, vd_E157_1, vd_E157_2, vd_E157_2n, vd_E157_3, vd_E157_4, vd_E157_8, vd_E157_9, vd_E157_10, vd_E157_13, vd_E157_13n, vd_E157_15, vd_E157_16, vd_E157_17, vd_E157_17n, vd_E157_19, vd_E157_20, vd_E157_21, vd_E157_22]
  refine vd_E157_5 (Nat.le_of_ble_eq_true rfl) k10 (vd_wp_mono hc fun M1 r h => ?_)
  rcases h with ⟨rfl, rfl, kp, c1, s1⟩ | ⟨hk, o, rfl, ho, kp, c1, s1⟩
  · have e := kp.2 196 (by omega)
    have e1 := e.1.trans k196
    have e2 := e.2.1.trans l196
    simp only [Option.toList_some, List.cons_append, List.nil_append]
    simp (disch := first | assumption | (simp only [vd_MM, if_true, if_false, e1, e2]; done) | omega | (simp only [vd_MM, if_true, if_false, e1, e2]; first | assumption | omega)) only [vd_E157_0, vd_E157_0n, vd_E157_1, vd_E157_2, vd_E157_2n, vd_E157_3, vd_E157_4, vd_E157_8, vd_E157_9, vd_E157_10, vd_E157_13, vd_E157_13n, vd_E157_15, vd_E157_16, vd_E157_17, vd_E157_17n, vd_E157_19, vd_E157_20, vd_E157_21, vd_E157_22]
    exact hQ _ kp.sj (fun _ => by simp only [vd_MM, Int.toNat_zero, and_self, if_true]) (by simp only [vd_MM]; omega) (by simp only [vd_MM]; omega)
  · rcases hex with q | ⟨rfl, rfl⟩ | ⟨rfl, rfl⟩
    · exact absurd q hk
    · refine ⟨13, by rw [ho]; rfl, ?_⟩
      simp (disch := first | assumption | (simp only [vd_MM, if_true, if_false]; done) | omega | (simp only [vd_MM, if_true, if_false]; first | assumption | omega)) only [vd_E157_0, vd_E157_0n, vd_E157_1, vd_E157_2, vd_E157_2n, vd_E157_3, vd_E157_4, vd_E157_8, vd_E157_9, vd_E157_10, vd_E157_13, vd_E157_13n, vd_E157_15, vd_E157_16, vd_E157_17, vd_E157_17n, vd_E157_19, vd_E157_20, vd_E157_21, vd_E157_22]
      exact hQ _ kp (fun q => by omega) c1 s1
    · refine ⟨17, by rw [ho]; rfl, ?_⟩
      simp (disch := first | assumption | (simp only [vd_MM, if_true, if_false]; done) | omega | (simp only [vd_MM, if_true, if_false]; first | assumption | omega)) only [vd_E157_0, vd_E157_0n, vd_E157_1, vd_E157_2, vd_E157_2n, vd_E157_3, vd_E157_4, vd_E157_8, vd_E157_9, vd_E157_10, vd_E157_13, vd_E157_13n, vd_E157_15, vd_E157_16, vd_E157_17, vd_E157_17n, vd_E157_19, vd_E157_20, vd_E157_21, vd_E157_22]
      exact hQ _ kp (fun q => by omega) c1 s1
theorem vd_hp159 (k10 : vd_k M 10 = 0) (k196 : vd_k M 196 = 35) (l196 : vd_l M 196 = 1) (hc : vd_wp d 160 0 [.ref 10, .int x0, .int x1] [] M (vd_OC M k v ex)) (hex : k = 0 ∨ (ex = 18 ∧ k = 1)) (hQ : vd_CL M k v Q) : vd_wp (d + 1) 159 0 [.ref 10, .int x0, .int x1, .ref 196, vd_U] [] M Q := by
  simp (disch := first | assumption | (simp only [vd_MM, if_true, if_false]; done) | omega | (simp only [vd_MM, if_true, if_false]; first | assumption | omega)) only [vd_E159_0, vd_E159_0n, vd_E159_1, vd_E159_2, vd_E159_2n, vd_E159_3, vd_E159_4, vd_E159_8, vd_E159_9, vd_E159_10, vd_E159_13, vd_E159_13n, vd_E159_15, vd_E159_16, vd_E159_17, vd_E159_18]
  refine vd_E159_5 (Nat.le_of_ble_eq_true rfl) k10 (vd_wp_mono hc fun M1 r h => ?_)
  rcases h with ⟨rfl, rfl, kp, c1, s1⟩ | ⟨hk, o, rfl, ho, kp, c1, s1⟩
  · have e := kp.2 196 (by omega)
    have e1 := e.1.trans k196
    have e2 := e.2.1.trans l196
    simp only [Option.toList_some, List.cons_append, List.nil_append]
    simp (disch := first | assumption | (simp only [vd_MM, if_true, if_false, e1, e2]; done) | omega | (simp only [vd_MM, if_true, if_false, e1, e2]; first | assumption | omega)) only [vd_E159_0, vd_E159_0n, vd_E159_1, vd_E159_2, vd_E159_2n, vd_E159_3, vd_E159_4, vd_E159_8, vd_E159_9, vd_E159_10, vd_E159_13, vd_E159_13n, vd_E159_15, vd_E159_16, vd_E159_17, vd_E159_18]
    exact hQ _ kp.sj (fun _ => by simp only [vd_MM, Int.toNat_zero, and_self, if_true]) (by simp only [vd_MM]; omega) (by simp only [vd_MM]; omega)
  · rcases hex with q | ⟨rfl, rfl⟩
    · exact absurd q hk
    · refine ⟨13, by rw [ho]; rfl, ?_⟩
      simp (disch := first | assumption | (simp only [vd_MM, if_true, if_false]; done) | omega | (simp only [vd_MM, if_true, if_false]; first | assumption | omega)) only [vd_E159_0, vd_E159_0n, vd_E159_1, vd_E159_2, vd_E159_2n, vd_E159_3, vd_E159_4, vd_E159_8, vd_E159_9, vd_E159_10, vd_E159_13, vd_E159_13n, vd_E159_15, vd_E159_16, vd_E159_17, vd_E159_18]
      exact hQ _ kp (fun q => by omega) c1 s1
theorem vd_hp161 (k10 : vd_k M 10 = 0) (k196 : vd_k M 196 = 35) (l196 : vd_l M 196 = 1) (hc : vd_wp d 162 0 [.ref 10, .int x0, .int x1, .int x2, vd_U] [] M (vd_OC M k v ex)) (hex : k = 0 ∨ (ex = 18 ∧ k = 1) ∨ (ex = 15 ∧ k = 2)) (hQ : vd_CL M k v Q) : vd_wp (d + 1) 161 0 [.ref 10, .int x0, .int x1, .int x2, .ref 196, vd_U] [] M Q := by
  simp (disch := first | assumption | (simp only [vd_MM, if_true, if_false]; done) | omega | (simp only [vd_MM, if_true, if_false]; first | assumption | omega)) only [vd_E161_0, vd_E161_0n, vd_E161_2, vd_E161_3, vd_E161_3n, vd_E161_4, vd_E161_5, vd_E161_6, vd_E161_10, vd_E161_11, vd_E161_12, vd_E161_15, vd_E161_15n, vd_E161_17, vd_E161_18, vd_E161_19, vd_E161_19n, vd_E161_21, vd_E161_22, vd_E161_23, vd_E161_24]
  refine vd_E161_7 (Nat.le_of_ble_eq_true rfl) k10 (vd_wp_mono hc fun M1 r h => ?_)
  rcases h with ⟨rfl, rfl, kp, c1, s1⟩ | ⟨hk, o, rfl, ho, kp, c1, s1⟩
  · have e := kp.2 196 (by omega)
    have e1 := e.1.trans k196
    have e2 := e.2.1.trans l196
    simp only [Option.toList_some, List.cons_append, List.nil_append]
    simp (disch := first | assumption | (simp only [vd_MM, if_true, if_false, e1, e2]; done) | omega | (simp only [vd_MM, if_true, if_false, e1, e2]; first | assumption | omega)) only [vd_E161_0, vd_E161_0n, vd_E161_2, vd_E161_3, vd_E161_3n, vd_E161_4, vd_E161_5, vd_E161_6, vd_E161_10, vd_E161_11, vd_E161_12, vd_E161_15, vd_E161_15n, vd_E161_17, vd_E161_18, vd_E161_19, vd_E161_19n, vd_E161_21, vd_E161_22, vd_E161_23, vd_E161_24]
    exact hQ _ kp.sj (fun _ => by simp only [vd_MM, Int.toNat_zero, and_self, if_true]) (by simp only [vd_MM]; omega) (by simp only [vd_MM]; omega)
  · rcases hex with q | ⟨rfl, rfl⟩ | ⟨rfl, rfl⟩
    · exact absurd q hk
    · refine ⟨15, by rw [ho]; rfl, ?_⟩
      simp (disch := first | assumption | (simp only [vd_MM, if_true, if_false]; done) | omega | (simp only [vd_MM, if_true, if_false]; first | assumption | omega)) only [vd_E161_0, vd_E161_0n, vd_E161_2, vd_E161_3, vd_E161_3n, vd_E161_4, vd_E161_5, vd_E161_6, vd_E161_10, vd_E161_11, vd_E161_12, vd_E161_15, vd_E161_15n, vd_E161_17, vd_E161_18, vd_E161_19, vd_E161_19n, vd_E161_21, vd_E161_22, vd_E161_23, vd_E161_24]
      exact hQ _ kp (fun q => by omega) c1 s1
    · refine ⟨19, by rw [ho]; rfl, ?_⟩
      simp (disch := first | assumption | (simp only [vd_MM, if_true, if_false]; done) | omega | (simp only [vd_MM, if_true, if_false]; first | assumption | omega)) only [vd_E161_0, vd_E161_0n, vd_E161_2, vd_E161_3, vd_E161_3n, vd_E161_4, vd_E161_5, vd_E161_6, vd_E161_10, vd_E161_11, vd_E161_12, vd_E161_15, vd_E161_15n, vd_E161_17, vd_E161_18, vd_E161_19, vd_E161_19n, vd_E161_21, vd_E161_22, vd_E161_23, vd_E161_24]
      exact hQ _ kp (fun q => by omega) c1 s1
end VDK
