/-! ===== the face: size, sample, block ===== -/
section VDA2
variable {M N : vd_M} {ow fa lo lf : Nat} {Z : Nat → Nat → Nat → Nat} {f g : Nat → Nat → Int32}
/-- the picture that a number names -/
def vd_po (H : Nat → Option Nat) (z : Int) : Option Nat := if z = -1 then H 8 else if 0 ≤ z ∧ z < 8 then H z.toNat else none
theorem vd_P154 (hM : vd_SC M ow fa lo lf) {z : Int} (z0 : -2147483648 ≤ z) (z1 : z < 2147483648) (d : Nat) (Q : vd_M → (Option Value ⊕ Nat) → Prop) : vd_wp d 154 0 [.ref 10, .int (vd_I z)] [] (vd_mf M f) Q = Q (vd_mf M f) (.inl (some (vd_vr (vd_po (vd_hol M) z)))) := by
  unfold vd_po
  by_cases c : z = -1
  · subst c
    rw [if_pos rfl]
    have e8 : vd_hol M 8 = vd_r M 10 9 := rfl
    rw [e8]
    cases ho : vd_r M 10 9 with
    | none => simp (disch := omega) only [vd_S154_0 hM, vd_I_toInt, eq_self, if_true, vd_S154_5 hM, ho, vd_vr_none, vd_S154_9n hM]
    | some p => simp (disch := omega) only [vd_S154_0 hM, vd_I_toInt, eq_self, if_true, vd_S154_5 hM, ho, vd_vr_some, vd_S154_9 hM]
  · rw [if_neg c]
    by_cases c2 : 0 ≤ z ∧ z < 8
    · rw [if_pos c2]
      have e8 : vd_hol M z.toNat = vd_r M 13 z.toNat := if_pos (by omega)
      rw [e8]
      cases ho : vd_r M 13 z.toNat with
      | none => simp (disch := omega) only [vd_S154_0 hM, vd_I_toInt, c, if_false, vd_S154_10 hM, show ¬ (z < 0) by omega, vd_S154_14 hM, show (z < 8) by omega, if_true, vd_S154_20 hM, vd_S154_25 hM, ho, vd_vr_none, vd_S154_30n hM]
      | some p => simp (disch := omega) only [vd_S154_0 hM, vd_I_toInt, c, if_false, vd_S154_10 hM, show ¬ (z < 0) by omega, vd_S154_14 hM, show (z < 8) by omega, if_true, vd_S154_20 hM, vd_S154_25 hM, ho, vd_vr_some, vd_S154_30 hM]
    · rw [if_neg c2, vd_vr_none]
      by_cases c3 : z < 0
      · simp (disch := omega) only [vd_S154_0 hM, vd_I_toInt, c, if_false, vd_S154_10 hM, c3, if_true, vd_S154_29 hM, vd_S154_30n hM]
      · simp (disch := omega) only [vd_S154_0 hM, vd_I_toInt, c, if_false, vd_S154_10 hM, c3, vd_S154_14 hM, show ¬ (z < 8) by omega, vd_S154_29 hM, vd_S154_30n hM]
theorem vd_P279 (hN : vd_SR N) {z : Int} (z0 : -2147483648 ≤ z) (z1 : z < 2147483648) (d : Nat) (Q : vd_M → (Option Value ⊕ Nat) → Prop) : vd_wp d 279 0 [.ref 63, .int (vd_I z)] [] (vd_mf N g) Q = Q (vd_mf N g) (.inl (some (vd_vr (vd_po (vd_hor N) z)))) := by
  unfold vd_po
  by_cases c : z = -1
  · subst c
    rw [if_pos rfl]
    have e8 : vd_hor N 8 = vd_r N 63 7 := rfl
    rw [e8]
    cases ho : vd_r N 63 7 with
    | none => simp (disch := omega) only [vd_S279_0 hN, vd_I_toInt, eq_self, if_true, vd_S279_5 hN, ho, vd_vr_none, vd_S279_32n hN]
    | some p => simp (disch := omega) only [vd_S279_0 hN, vd_I_toInt, eq_self, if_true, vd_S279_5 hN, ho, vd_vr_some, vd_S279_32 hN]
  · rw [if_neg c]
    by_cases c2 : 0 ≤ z ∧ z < 8
    · rw [if_pos c2]
      have e8 : vd_hor N z.toNat = vd_r N 66 z.toNat := if_pos (by omega)
      rw [e8]
      cases ho : vd_r N 66 z.toNat with
      | none => simp (disch := omega) only [vd_S279_0 hN, vd_I_toInt, c, if_false, vd_S279_12 hN, show ¬ (z < 0) by omega, vd_S279_16 hN, show (z < 8) by omega, if_true, vd_S279_22 hN, vd_S279_27 hN, ho, vd_vr_none, vd_S279_32n hN]
      | some p => simp (disch := omega) only [vd_S279_0 hN, vd_I_toInt, c, if_false, vd_S279_12 hN, show ¬ (z < 0) by omega, vd_S279_16 hN, show (z < 8) by omega, if_true, vd_S279_22 hN, vd_S279_27 hN, ho, vd_vr_some, vd_S279_32 hN]
    · rw [if_neg c2, vd_vr_none]
      by_cases c3 : z < 0
      · simp (disch := omega) only [vd_S279_0 hN, vd_I_toInt, c, if_false, vd_S279_12 hN, c3, if_true, vd_S279_31 hN, vd_S279_32n hN]
      · simp (disch := omega) only [vd_S279_0 hN, vd_I_toInt, c, if_false, vd_S279_12 hN, c3, vd_S279_16 hN, show ¬ (z < 8) by omega, vd_S279_31 hN, vd_S279_32n hN]
theorem vd_po_pic (hI : vd_INV M N ow fa lo lf Z f g) (z : Int) : (vd_po (vd_hol M) z = none ∧ vd_po (vd_hor N) z = none) ∨ ∃ (p s k : Nat) (w hh : Int) (P : Nat → Nat → Nat → Int), (vd_po (vd_hol M) z = some p ∧ vd_PC M p s) ∧ (k < 11 ∧ vd_po (vd_hor N) z = some (129 + 5 * k)) ∧ (1 ≤ w ∧ w ≤ 192 ∧ 1 ≤ hh ∧ hh ≤ 192) ∧ (f p 0 = vd_I w ∧ f p 1 = vd_I hh) ∧ (g (129 + 5 * k) 0 = vd_I w ∧ g (129 + 5 * k) 1 = vd_I hh) ∧ vd_PSC s w hh P f ∧ vd_PSR (129 + 5 * k) w hh P g ∧ ∀ pl x y, 0 ≤ P pl x y ∧ P pl x y ≤ 255 := by
  have hp := hI.2.2.1.1
  unfold vd_po
  by_cases c : z = -1
  · rw [if_pos c, if_pos c]
    exact hp 8 (by decide)
  · rw [if_neg c, if_neg c]
    by_cases c2 : 0 ≤ z ∧ z < 8
    · rw [if_pos c2, if_pos c2]
      exact hp z.toNat (by omega)
    · rw [if_neg c2, if_neg c2]
      exact Or.inl ⟨rfl, rfl⟩
theorem vd_sizeA (hA : vd_API M N ow fa lo lf Z f g) (x y : Int32) : vd_AP M N Z f g 1 158 [.ref 10, .int x, .int y, vd_U] 1 281 [.ref 63, .int x, .int y, vd_U] 17 15 0 0 := by
  have hA' := hA
  obtain ⟨hI, _, _, _⟩ := hA
  have hM := hI.1.1
  have hN := hI.1.2.1
  obtain ⟨z, hz, z0, z1⟩ := vd_I_of x
  obtain ⟨k, hk, k0, k1⟩ := vd_I_of y
  subst hz hk
  obtain ⟨g', hg⟩ : ∃ g', g' = vd_up g 63 2 (vd_I 0) := ⟨_, rfl⟩
  have kg : ∀ c i, ¬ (c = 63 ∧ i = 2) → g' c i = g c i := fun c i q => by rw [hg, vd_up_ne q]
  have g2 : g' 63 2 = vd_I 0 := by rw [hg, vd_up_eq]
  have p0 := fun (x : Int32) (d : Nat) Q => vd_P168 hN (g := g') x (b := 0) (Or.inl rfl) d Q
  have p1 := fun (x : Int32) (d : Nat) Q => vd_P168 hN (g := g') x (b := 1) (Or.inr rfl) d Q
  have pc := fun (d : Nat) Q => vd_P154 hM (f := f) z0 z1 d Q
  have pr := fun (d : Nat) Q => vd_P279 hN (g := g') z0 z1 d Q
  rcases vd_po_pic hI z with ⟨e1, e2⟩ | ⟨p, s, q, w, hh, P, ⟨e1, a2⟩, ⟨b1, e2⟩, wb, ⟨d1, d2⟩, ⟨d3, d4⟩, _⟩
  · rw [e1] at pc
    rw [e2] at pr
    refine vd_AP.ro hA' (t := 1) (v := 0) (v' := vd_I 0) (g' := vd_up g' 63 2 (vd_I 1)) (fun h => absurd h (by decide)) (fun _ d Q => ?_) (fun h => absurd h (by decide)) (fun d Q => ?_) (fun h => absurd h (by decide)) (Or.inr (Or.inl ⟨rfl, by decide⟩)) (by rw [vd_up_eq]) (fun c i q => by rw [vd_up_ne q, kg c i q])
    · simp only [vd_S158_0 hM, vd_S158_2 hM, pc, vd_rs_v, vd_vr_none, vd_S158_5n hM, vd_S158_6n hM, vd_S158_7n hM, vd_S158_10 hM]
    · simp (disch := omega) only [vd_S281_0 hN, ← hg, vd_S281_7 hN, pr, vd_rs_v, vd_vr_none, vd_S281_10n hN, vd_S281_13n hN, vd_S281_14n hN, vd_S281_17 hN, vd_S281_22 hN, p1, show ¬ ((1 : Int) = 0) by decide, if_false, vd_S281_25 hN, vd_I_toInt, vd_S281_50 hN]
  · rw [e1] at pc
    rw [e2] at pr
    have kp := a2.1.1
    have kq : vd_k N (129 + 5 * q) = 13 := (vd_PD_of hN b1).1.1
    have eC : ∀ d Q, vd_wp (d + 1) 158 0 [.ref 10, .int (vd_I z), .int (vd_I k), vd_U] [] (vd_mf M f) Q = vd_wp (d + 1) 158 18 [.ref 10, .int (vd_I z), .int (vd_I k), .ref p] [] (vd_mf M f) Q := fun d Q => by
      simp only [vd_S158_0 hM, vd_S158_2 hM, pc, vd_rs_v, vd_vr_some, vd_S158_5 hM, vd_S158_7 hM]
    have eR : ∀ d Q, vd_wp (d + 1) 281 0 [.ref 63, .int (vd_I z), .int (vd_I k), vd_U] [] (vd_mf N g) Q = vd_wp (d + 1) 281 28 [.ref 63, .int (vd_I z), .int (vd_I k), .ref (129 + 5 * q)] [] (vd_mf N g') Q := fun d Q => by
      simp (disch := omega) only [vd_S281_0 hN, ← hg, vd_S281_7 hN, pr, vd_rs_v, vd_vr_some, vd_S281_10 hN, vd_S281_14 hN, vd_S281_21 hN, vd_S281_22 hN, p0, eq_self, if_true, vd_S281_25 hN, vd_I_toInt]
    by_cases c : k < 0 ∨ 1 < k
    · refine vd_AP.ro hA' (t := 2) (v := 0) (v' := vd_I 0) (g' := vd_up g' 63 2 (vd_I 2)) (fun h => absurd h (by decide)) (fun h => absurd h (by decide)) (fun _ d Q => ?_) (fun d Q => ?_) (fun h => absurd h (by decide)) (Or.inr (Or.inr ⟨rfl, by decide⟩)) (by rw [vd_up_eq]) (fun c i q => by rw [vd_up_ne q, kg c i q])
      · rw [eC d Q]
        by_cases c2 : k < 0
        · simp (disch := omega) only [vd_S158_18 hM, vd_I_toInt, c2, if_true, vd_S158_27 hM]
        · simp (disch := omega) only [vd_S158_18 hM, vd_I_toInt, c2, if_false, vd_S158_22 hM, show (1 < k) by omega, if_true, vd_S158_27 hM]
      · rw [eR d Q]
        have e : vd_wp (d + 1) 281 39 [.ref 63, .int (vd_I z), .int (vd_I k), .ref (129 + 5 * q)] [.int (vd_I 2), .ref 63] (vd_mf N g') Q = Q (vd_mf N (vd_up g' 63 2 (vd_I 2))) (.inl (some (.int (vd_I 0)))) := by
          simp (disch := omega) only [vd_S281_39 hN, vd_S281_44 hN, p1, show ¬ ((1 : Int) = 0) by decide, if_false, vd_rs_v, vd_S281_47 hN, vd_I_toInt, vd_S281_50 hN]
        by_cases c2 : k < 0
        · simp (disch := omega) only [vd_S281_28 hN, vd_I_toInt, c2, if_true]
          exact e
        · simp (disch := omega) only [vd_S281_28 hN, vd_I_toInt, c2, if_false, vd_S281_34 hN, show (1 < k) by omega, if_true]
          exact e
    · have eC2 : ∀ d Q, vd_wp (d + 1) 158 0 [.ref 10, .int (vd_I z), .int (vd_I k), vd_U] [] (vd_mf M f) Q = vd_wp (d + 1) 158 35 [.ref 10, .int (vd_I z), .int (vd_I k), .ref p] [] (vd_mf M f) Q := fun d Q => by
        rw [eC d Q]
        simp (disch := omega) only [vd_S158_18 hM, vd_I_toInt, show ¬ (k < 0) by omega, if_false, vd_S158_22 hM, show ¬ (1 < k) by omega]
      have eR2 : ∀ d Q, vd_wp (d + 1) 281 0 [.ref 63, .int (vd_I z), .int (vd_I k), vd_U] [] (vd_mf N g) Q = vd_wp (d + 1) 281 52 [.ref 63, .int (vd_I z), .int (vd_I k), .ref (129 + 5 * q)] [] (vd_mf N g') Q := fun d Q => by
        rw [eR d Q]
        simp (disch := omega) only [vd_S281_28 hN, vd_I_toInt, show ¬ (k < 0) by omega, if_false, vd_S281_34 hN, show ¬ (1 < k) by omega, vd_S281_43 hN, vd_S281_44 hN, p0, eq_self, if_true, vd_rs_v, vd_S281_47 hN]
      by_cases c3 : k = 0
      · refine vd_AP.ro hA' (t := 0) (v := f p 0) (v' := g' (129 + 5 * q) 0) (g' := g') (fun _ d Q => ?_) (fun h => absurd h (by decide)) (fun h => absurd h (by decide)) (fun d Q => ?_) (fun _ => by rw [d1, kg _ _ (by omega), d3]) (Or.inl rfl) g2 kg
        · rw [eC2 d Q]
          simp (disch := first | assumption | omega) only [vd_S158_35 hM, vd_I_toInt, c3, eq_self, if_true, vd_S158_39 hM, vd_S158_50 hM]
        · rw [eR2 d Q]
          simp (disch := first | assumption | omega) only [vd_S281_52 hN, vd_I_toInt, c3, eq_self, if_true, vd_S281_56 hN, vd_S281_67 hN]
      · refine vd_AP.ro hA' (t := 0) (v := f p 1) (v' := g' (129 + 5 * q) 1) (g' := g') (fun _ d Q => ?_) (fun h => absurd h (by decide)) (fun h => absurd h (by decide)) (fun d Q => ?_) (fun _ => by rw [d2, kg _ _ (by omega), d4]) (Or.inl rfl) g2 kg
        · rw [eC2 d Q]
          simp (disch := first | assumption | omega) only [vd_S158_35 hM, vd_I_toInt, c3, if_false, vd_S158_46 hM, vd_S158_50 hM]
        · rw [eR2 d Q]
          simp (disch := first | assumption | omega) only [vd_S281_52 hN, vd_I_toInt, c3, if_false, vd_S281_63 hN, vd_S281_67 hN]
theorem vd_sample (hA : vd_API M N ow fa lo lf Z f g) (x1 x2 x3 x4 : Int32) : vd_AP M N Z f g 1 153 [.ref 10, .int x1, .int x2, .int x3, .int x4, vd_U] 2 278 [.ref 63, .int x1, .int x2, .int x3, .int x4, vd_U] 17 18 0 0 := by
  have hA' := hA
  obtain ⟨hI, _, _, _⟩ := hA
  have hM := hI.1.1
  have hN := hI.1.2.1
  obtain ⟨z, hz, z0, z1⟩ := vd_I_of x1
  obtain ⟨pl, hpl, pl0, pl1⟩ := vd_I_of x2
  obtain ⟨x, hx, xx0, xx1⟩ := vd_I_of x3
  obtain ⟨y, hy, yy0, yy1⟩ := vd_I_of x4
  subst hz hpl hx hy
  obtain ⟨g', hg⟩ : ∃ g', g' = vd_up g 63 2 (vd_I 0) := ⟨_, rfl⟩
  have kg : ∀ c i, ¬ (c = 63 ∧ i = 2) → g' c i = g c i := fun c i q => by rw [hg, vd_up_ne q]
  have g2 : g' 63 2 = vd_I 0 := by rw [hg, vd_up_eq]
  have p0 := fun (x : Int32) (d : Nat) Q => vd_P168 hN (g := g') x (b := 0) (Or.inl rfl) d Q
  have p1 := fun (x : Int32) (d : Nat) Q => vd_P168 hN (g := g') x (b := 1) (Or.inr rfl) d Q
  have pc := fun (d : Nat) Q => vd_P154 hM (f := f) z0 z1 d Q
  have pr := fun (d : Nat) Q => vd_P279 hN (g := g') z0 z1 d Q
  rcases vd_po_pic hI z with ⟨e1, e2⟩ | ⟨p, s, q, w, hh, P, ⟨e1, a2⟩, ⟨b1, e2⟩, wb, ⟨d1, d2⟩, ⟨d3, d4⟩, psc, psr, hP⟩
  · rw [e1] at pc
    rw [e2] at pr
    refine vd_AP.ro hA' (t := 1) (v := 0) (v' := vd_I 0) (g' := vd_up g' 63 2 (vd_I 1)) (fun h => absurd h (by decide)) (fun _ d Q => ?_) (fun h => absurd h (by decide)) (fun d Q => ?_) (fun h => absurd h (by decide)) (Or.inr (Or.inl ⟨rfl, by decide⟩)) (by rw [vd_up_eq]) (fun c i q => by rw [vd_up_ne q, kg c i q])
    · simp only [vd_S153_0 hM, vd_S153_2 hM, pc, vd_rs_v, vd_vr_none, vd_S153_5n hM, vd_S153_7n hM, vd_S153_9n hM, vd_S153_12 hM]
    · simp (disch := omega) only [vd_S278_0 hN, ← hg, vd_S278_7 hN, pr, vd_rs_v, vd_vr_none, vd_S278_10n hN, vd_S278_14n hN, vd_S278_16n hN, vd_S278_19 hN, vd_S278_24 hN, p1, show ¬ ((1 : Int) = 0) by decide, if_false, vd_S278_27 hN, vd_I_toInt, vd_S278_82 hN]
  · rw [e1] at pc
    rw [e2] at pr
    have kp := a2.1.1
    have hq := vd_PD_of hN b1
    have kq : vd_k N (129 + 5 * q) = 13 := hq.1.1
    have d3' : g' (129 + 5 * q) 0 = vd_I w := by rw [kg _ _ (by omega), d3]
    have d4' : g' (129 + 5 * q) 1 = vd_I hh := by rw [kg _ _ (by omega), d4]
    have eC : ∀ d Q, vd_wp (d + 1) 153 0 [.ref 10, .int (vd_I z), .int (vd_I pl), .int (vd_I x), .int (vd_I y), vd_U] [] (vd_mf M f) Q = vd_wp (d + 1) 153 20 [.ref 10, .int (vd_I z), .int (vd_I pl), .int (vd_I x), .int (vd_I y), .ref p] [] (vd_mf M f) Q := fun d Q => by
      simp only [vd_S153_0 hM, vd_S153_2 hM, pc, vd_rs_v, vd_vr_some, vd_S153_5 hM, vd_S153_9 hM]
    have eR : ∀ d Q, vd_wp (d + 2) 278 0 [.ref 63, .int (vd_I z), .int (vd_I pl), .int (vd_I x), .int (vd_I y), vd_U] [] (vd_mf N g) Q = vd_wp (d + 2) 278 30 [.ref 63, .int (vd_I z), .int (vd_I pl), .int (vd_I x), .int (vd_I y), .ref (129 + 5 * q)] [] (vd_mf N g') Q := fun d Q => by
      simp (disch := omega) only [vd_S278_0 hN, ← hg, vd_S278_7 hN, pr, vd_rs_v, vd_vr_some, vd_S278_10 hN, vd_S278_16 hN, vd_S278_23 hN, vd_S278_24 hN, p0, eq_self, if_true, vd_S278_27 hN, vd_I_toInt]
    have eRb : ∀ d Q, vd_wp (d + 2) 278 71 [.ref 63, .int (vd_I z), .int (vd_I pl), .int (vd_I x), .int (vd_I y), .ref (129 + 5 * q)] [.int (vd_I 2), .ref 63] (vd_mf N g') Q = Q (vd_mf N (vd_up g' 63 2 (vd_I 2))) (.inl (some (.int (vd_I 0)))) := fun d Q => by
      simp (disch := omega) only [vd_S278_71 hN, vd_S278_76 hN, p1, show ¬ ((1 : Int) = 0) by decide, if_false, vd_rs_v, vd_S278_79 hN, vd_I_toInt, vd_S278_82 hN]
    have bad : (∀ d Q, vd_wp (d + 1) 153 20 [.ref 10, .int (vd_I z), .int (vd_I pl), .int (vd_I x), .int (vd_I y), .ref p] [] (vd_mf M f) Q = Q (vd_new (vd_mf M f) 18 0 6) (.inr (vd_n M))) → (∀ d Q, vd_wp (d + 2) 278 30 [.ref 63, .int (vd_I z), .int (vd_I pl), .int (vd_I x), .int (vd_I y), .ref (129 + 5 * q)] [] (vd_mf N g') Q = Q (vd_mf N (vd_up g' 63 2 (vd_I 2))) (.inl (some (.int (vd_I 0))))) → vd_AP M N Z f g 1 153 [.ref 10, .int (vd_I z), .int (vd_I pl), .int (vd_I x), .int (vd_I y), vd_U] 2 278 [.ref 63, .int (vd_I z), .int (vd_I pl), .int (vd_I x), .int (vd_I y), vd_U] 17 18 0 0 := fun h1 h2 => vd_AP.ro hA' (t := 2) (v := 0) (v' := vd_I 0) (g' := vd_up g' 63 2 (vd_I 2)) (fun h => absurd h (by decide)) (fun h => absurd h (by decide)) (fun _ d Q => (eC d Q).trans (h1 d Q)) (fun d Q => (eR d Q).trans (h2 d Q)) (fun h => absurd h (by decide)) (Or.inr (Or.inr ⟨rfl, by decide⟩)) (by rw [vd_up_eq]) (fun c i q => by rw [vd_up_ne q, kg c i q])
    by_cases c1 : pl < 0
    · refine bad (fun d Q => ?_) (fun d Q => ?_)
      · simp (disch := omega) only [vd_S153_20 hM, vd_I_toInt, c1, if_true, vd_S153_59 hM]
      · simp (disch := omega) only [vd_S278_30 hN, vd_I_toInt, c1, if_true, eRb]
    by_cases c2 : 2 < pl
    · refine bad (fun d Q => ?_) (fun d Q => ?_)
      · simp (disch := omega) only [vd_S153_20 hM, vd_I_toInt, c1, if_false, vd_S153_24 hM, c2, if_true, vd_S153_59 hM]
      · simp (disch := omega) only [vd_S278_30 hN, vd_I_toInt, c1, if_false, vd_S278_36 hN, c2, if_true, eRb]
    by_cases c3 : x < 0
    · refine bad (fun d Q => ?_) (fun d Q => ?_)
      · simp (disch := omega) only [vd_S153_20 hM, vd_I_toInt, c1, if_false, vd_S153_24 hM, c2, vd_S153_29 hM, c3, if_true, vd_S153_59 hM]
      · simp (disch := omega) only [vd_S278_30 hN, vd_I_toInt, c1, if_false, vd_S278_36 hN, c2, vd_S278_41 hN, c3, if_true, eRb]
    by_cases c4 : y < 0
    · refine bad (fun d Q => ?_) (fun d Q => ?_)
      · simp (disch := omega) only [vd_S153_20 hM, vd_I_toInt, c1, if_false, vd_S153_24 hM, c2, vd_S153_29 hM, c3, vd_S153_33 hM, c4, if_true, vd_S153_59 hM]
      · simp (disch := omega) only [vd_S278_30 hN, vd_I_toInt, c1, if_false, vd_S278_36 hN, c2, vd_S278_41 hN, c3, vd_S278_45 hN, c4, if_true, eRb]
    obtain ⟨pn, epn⟩ : ∃ pn : Nat, pl = (pn : Int) := ⟨pl.toNat, by omega⟩
    subst epn
    have hpn : pn < 3 := by omega
    obtain ⟨xn, exn⟩ : ∃ xn : Nat, x = (xn : Int) := ⟨x.toNat, by omega⟩
    obtain ⟨yn, eyn⟩ : ∃ yn : Nat, y = (yn : Int) := ⟨y.toNat, by omega⟩
    subst exn eyn
    have pdb : vd_pd pn w ≤ 192 ∧ vd_pd pn hh ≤ 192 := by unfold vd_pd; split <;> omega
    have P107 := fun (d : Nat) Q => vd_P107 hM (f := f) (d := d) (Q := Q) kp d1 (by omega) (by omega) hpn
    have P108 := fun (d : Nat) Q => vd_P108 hM (f := f) (d := d) (Q := Q) kp d2 (by omega) (by omega) hpn
    have P227 := fun (d : Nat) Q => vd_P227 hN (g := g') (d := d) (Q := Q) kq d3' (by omega) (by omega) hpn
    have P228 := fun (d : Nat) Q => vd_P228 hN (g := g') (d := d) (Q := Q) kq d4' (by omega) (by omega) hpn
    have pd0 : -1000 ≤ vd_pd pn w ∧ -1000 ≤ vd_pd pn hh := by unfold vd_pd; split <;> omega
    by_cases c5 : (xn : Int) < vd_pd pn w
    · by_cases c6 : (yn : Int) < vd_pd pn hh
      · have t1 := (vd_ws_b (pl := pn) wb.1 wb.2.1).2
        have t2 := vd_ws_b (pl := pn) wb.2.2.1 wb.2.2.2
        have t1' := (vd_ws_b (pl := pn) wb.1 wb.2.1).1
        have v1 := psc pn xn yn hpn (by omega) (by omega)
        have v2 := psr pn xn yn hpn (by omega) (by omega)
        have v2' : g' (129 + 5 * q + 2 + pn) (yn * vd_ws pn w + xn) &&& vd_I 255 = vd_I (P pn xn yn) := by rw [kg _ _ (by omega)]; exact v2
        have axb : vd_ax pn xn yn < 55296 := by
          unfold vd_sd at t1' t2
          unfold vd_ax
          by_cases c : pn = 0
          · rw [if_pos c] at t1' t2 ⊢
            omega
          · rw [if_neg c] at t1' t2 ⊢
            omega
        have P109 := fun (d : Nat) Q => vd_P109 hM (f := f) (x := xn) (y := yn) (d := d) (Q := Q) hpn
        have P229 := fun (d : Nat) Q => vd_P229 hN (g := g') hq (d := d) (Q := Q) d3' wb.1 wb.2.1 hpn (show xn < vd_ws pn w by omega) (show yn < vd_sd pn by omega) v2'
        refine vd_AP.ro hA' (t := 0) (v := vd_I (P pn xn yn)) (v' := vd_I (P pn xn yn)) (g' := g') (fun _ d Q => ?_) (fun h => absurd h (by decide)) (fun h => absurd h (by decide)) (fun d Q => ?_) (fun _ => rfl) (Or.inl rfl) g2 kg
        · have cs : vd_cs [Value.ref s] ≤ 8 := Nat.le_of_ble_eq_true rfl
          have r2 := a2.1.2
          have ks := a2.2.1.1
          have ls : ((vd_ax pn xn yn : Nat) : Int) < (vd_l M s : Int) := by rw [a2.2.1.2]; omega
          rw [eC d Q]
          simp (disch := first | assumption | omega) only [vd_S153_20 hM, vd_I_toInt, c1, if_false, vd_S153_24 hM, c2, vd_S153_29 hM, c3, vd_S153_33 hM, c4, vd_S153_38 hM, vd_S153_39 hM, vd_S153_42 hM, P107, vd_rs_v, vd_S153_45 hM, c5, if_true, vd_S153_48 hM, vd_S153_50 hM, vd_S153_53 hM, P108, vd_S153_56 hM, c6, vd_S153_67 hM, r2, vd_vr_some, vd_S153_76 hM, P109, vd_S153_79 hM, Int.toNat_natCast, v1]
        · rw [eR d Q]
          simp (disch := first | assumption | omega) only [vd_S278_30 hN, vd_I_toInt, c1, if_false, vd_S278_36 hN, c2, vd_S278_41 hN, c3, vd_S278_45 hN, c4, vd_S278_50 hN, vd_S278_51 hN, vd_S278_54 hN, P227, vd_rs_v, vd_S278_57 hN, c5, if_true, vd_S278_60 hN, vd_S278_62 hN, vd_S278_65 hN, P228, vd_S278_68 hN, c6, vd_S278_75 hN, vd_S278_76 hN, p0, eq_self, vd_S278_79 hN, vd_S278_84 hN, vd_S278_90 hN, P229, vd_S278_93 hN]
      · refine bad (fun d Q => ?_) (fun d Q => ?_)
        · simp (disch := first | assumption | omega) only [vd_S153_20 hM, vd_I_toInt, c1, if_false, vd_S153_24 hM, c2, vd_S153_29 hM, c3, vd_S153_33 hM, c4, vd_S153_38 hM, vd_S153_39 hM, vd_S153_42 hM, P107, vd_rs_v, vd_S153_45 hM, c5, if_true, vd_S153_48 hM, vd_S153_50 hM, vd_S153_53 hM, P108, vd_S153_56 hM, c6, vd_S153_59 hM]
        · simp (disch := first | assumption | omega) only [vd_S278_30 hN, vd_I_toInt, c1, if_false, vd_S278_36 hN, c2, vd_S278_41 hN, c3, vd_S278_45 hN, c4, vd_S278_50 hN, vd_S278_51 hN, vd_S278_54 hN, P227, vd_rs_v, vd_S278_57 hN, c5, if_true, vd_S278_60 hN, vd_S278_62 hN, vd_S278_65 hN, P228, vd_S278_68 hN, c6, eRb]
    · refine bad (fun d Q => ?_) (fun d Q => ?_)
      · simp (disch := first | assumption | omega) only [vd_S153_20 hM, vd_I_toInt, c1, if_false, vd_S153_24 hM, c2, vd_S153_29 hM, c3, vd_S153_33 hM, c4, vd_S153_38 hM, vd_S153_39 hM, vd_S153_42 hM, P107, vd_rs_v, vd_S153_45 hM, c5, vd_S153_59 hM]
      · simp (disch := first | assumption | omega) only [vd_S278_30 hN, vd_I_toInt, c1, if_false, vd_S278_36 hN, c2, vd_S278_41 hN, c3, vd_S278_45 hN, c4, vd_S278_50 hN, vd_S278_51 hN, vd_S278_54 hN, P227, vd_rs_v, vd_S278_57 hN, c5, eRb]
end VDA2
