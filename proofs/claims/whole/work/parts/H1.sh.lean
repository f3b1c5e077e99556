/-! ===== the second header ===== -/
section VDSH
variable {M N : vd_M} {ow fa lo lf : Nat}
def vd_f53 (f f' : Nat → Nat → Int32) : Prop := ∀ c i, ¬ (c = 34 ∧ 4 ≤ i) → ¬ (c = 17 ∧ 17 ≤ i) → f' c i = f c i
def vd_g53 (g g' : Nat → Nat → Int32) : Prop := ∀ c i, ¬ (c = 63 ∧ (i = 44 ∨ i = 45 ∨ (91 ≤ i ∧ i ≤ 94))) → g' c i = g c i
theorem vd_RE.upX {n : Nat} {f g f' g' : Nat → Nat → Int32} (h : vd_RE n f g) (hf : ∀ c i, c = 11 ∨ c = 34 → f' c i = f c i) (hg : ∀ c i, c = 64 ∨ (c = 63 ∧ 91 ≤ i ∧ i ≤ 94) → g' c i = g c i) : vd_RE n f' g' := by
  obtain ⟨hT, R, V, nx, lm, hb, cb, ⟨⟨a1, a2, a3, a4, a5⟩, ⟨b1, b2, b3, b4⟩, x1, x2, x3⟩, y⟩ := h
  refine ⟨fun i hi => by rw [hf 11 i (Or.inl rfl), hg 64 i (Or.inl rfl)]; exact hT i hi, R, V, nx, lm, hb, cb, ⟨⟨?_, ?_, ?_, ?_, ?_⟩, ⟨?_, ?_, ?_, ?_⟩, x1, x2, ?_⟩, y⟩
  · rw [hf _ _ (Or.inr rfl)]; exact a1
  · rw [hf _ _ (Or.inr rfl)]; exact a2
  · rw [hf _ _ (Or.inr rfl)]; exact a3
  · rw [hf _ _ (Or.inr rfl)]; exact a4
  · rw [hf _ _ (Or.inr rfl)]; exact a5
  · rw [hg _ _ (Or.inr (by omega))]; exact b1
  · rw [hg _ _ (Or.inr (by omega))]; exact b2
  · rw [hg _ _ (Or.inr (by omega))]; exact b3
  · rw [hg _ _ (Or.inr (by omega))]; exact b4
  · rcases x3 with ⟨q, r⟩ | ⟨q, r, s⟩
    · exact Or.inl ⟨q, fun z => by rw [hf _ _ (Or.inr rfl), hf _ _ (Or.inl rfl)]; exact r z⟩
    · exact Or.inr ⟨q, r, fun z => by rw [hf _ _ (Or.inr rfl)]; exact s z⟩
/-- how often two references may be mixed -/
theorem vd_sh2 (hM : vd_SC M ow fa lo lf) (hN : vd_SR N) {n : Nat} {f g : Nat → Nat → Int32} {l kd : Int} (h : vd_RE n f g) (hn : n + 2 ≤ 8000000) (h4 : f 17 4 = vd_I kd) (k0 : 0 ≤ kd) (k1 : kd ≤ 2) (h33 : g 63 33 = vd_I (if kd = 2 then 0 else 1)) (hsd : kd = 2 → ∀ j, j < 3 → ∃ sd : Int, (sd = 0 ∨ sd = 1) ∧ f 19 j = vd_I sd ∧ g 84 j = vd_I sd) : ∃ (f' g' : Nat → Nat → Int32) (db : Int), (∀ a3 d Q, vd_wp (d + 2) 53 40 [.ref 17, .ref 34, .int (vd_I l), a3] [] (vd_mf M f) Q = Q (vd_mf M f') (.inl none)) ∧ (∀ a1 a2 d Q, vd_wp (d + 2) 191 49 [.ref 63, a1, a2] [] (vd_mf N g) Q = vd_wp (d + 2) 191 111 [.ref 63, a1, a2] [] (vd_mf N g') Q) ∧ (0 ≤ db ∧ db ≤ 2) ∧ (f' 17 18 = vd_I (if db = 0 then 0 else 1) ∧ f' 17 19 = vd_I (if db = 2 then 1 else 0) ∧ g' 63 45 = vd_I db) ∧ vd_RE (n + 2) f' g' ∧ (∀ c i, ¬ (c = 34 ∧ 4 ≤ i) → ¬ (c = 17 ∧ 18 ≤ i) → f' c i = f c i) ∧ (∀ c i, ¬ (c = 63 ∧ (i = 45 ∨ (91 ≤ i ∧ i ≤ 94))) → g' c i = g c i) := by
  have t0 : (0 : Int).toNat = 0 := rfl
  have t1 : (1 : Int).toNat = 1 := rfl
  have t2 : (2 : Int).toNat = 2 := rfl
  obtain ⟨f1, hf1⟩ : ∃ f1, f1 = vd_up (vd_up f 17 18 (vd_I 0)) 17 19 (vd_I 0) := ⟨_, rfl⟩
  obtain ⟨g1, hg1⟩ : ∃ g1, g1 = vd_up g 63 45 (vd_I 0) := ⟨_, rfl⟩
  have F1 : ∀ c i, ¬ (c = 17 ∧ 18 ≤ i) → f1 c i = f c i := fun c i q => by rw [hf1, vd_up_ne (by omega), vd_up_ne (by omega)]
  have G1 : ∀ c i, ¬ (c = 63 ∧ i = 45) → g1 c i = g c i := fun c i q => by rw [hg1, vd_up_ne (by omega)]
  have f18 : f1 17 18 = vd_I 0 := by rw [hf1, vd_up_ne (by omega), vd_up_eq]
  have f19 : f1 17 19 = vd_I 0 := by rw [hf1, vd_up_eq]
  have g45 : g1 63 45 = vd_I 0 := by rw [hg1, vd_up_eq]
  have h1 : vd_RE n f1 g1 := h.upX (fun c i q => F1 c i (by omega)) (fun c i q => G1 c i (by omega))
  have P33 := fun d Q => vd_P33k (f := f1) (d := d) (Q := Q) hM (by rw [F1 17 4 (by omega)]; exact h4) k0 k1
  have z33 : g1 63 33 = vd_I (if kd = 2 then 0 else 1) := by rw [G1 63 33 (by omega)]; exact h33
  -- whether the sides are alike, whatever they are
  have al : ∃ al : Int, (al = 0 ∨ al = 1) ∧ (al = 1 ↔ (f 19 0).toInt = (f 19 1).toInt ∧ (f 19 1).toInt = (f 19 2).toInt) ∧ ∀ a3 d Q, vd_wp (d + 2) 53 40 [.ref 17, .ref 34, .int (vd_I l), a3] [] (vd_mf M f) Q = vd_wp (d + 2) 53 90 [.ref 17, .ref 34, .int (vd_I l), .int (vd_I al)] [.int (vd_I (if kd = 2 then 0 else 1))] (vd_mf M f1) Q := by
    have e0 := F1 19 0 (by omega)
    have e1 := F1 19 1 (by omega)
    have e2 := F1 19 2 (by omega)
    by_cases c1 : (f 19 0).toInt = (f 19 1).toInt
    · by_cases c2 : (f 19 1).toInt = (f 19 2).toInt
      · refine ⟨1, Or.inr rfl, ⟨fun _ => ⟨c1, c2⟩, fun _ => rfl⟩, fun a3 d Q => ?_⟩
        rw [vd_S53_40 hM, ← hf1]
        simp (disch := omega) only [vd_S53_55 hM, vd_S53_61 hM, vd_S53_65 hM, vd_S53_70 hM, vd_S53_76 hM, vd_S53_80 hM, vd_S53_85 hM, vd_S53_87 hM, t0, t1, t2, e0, e1, e2, c1, c2, eq_self, if_true, P33, vd_rs_v, vd_rs_n]
      · refine ⟨0, Or.inl rfl, ⟨fun q => absurd q (by decide), fun q => absurd q.2 c2⟩, fun a3 d Q => ?_⟩
        rw [vd_S53_40 hM, ← hf1]
        simp (disch := omega) only [vd_S53_55 hM, vd_S53_61 hM, vd_S53_65 hM, vd_S53_70 hM, vd_S53_76 hM, vd_S53_84 hM, vd_S53_85 hM, vd_S53_87 hM, t0, t1, t2, e0, e1, e2, c1, c2, if_true, if_false, P33, vd_rs_v, vd_rs_n]
    · refine ⟨0, Or.inl rfl, ⟨fun q => absurd q (by decide), fun q => absurd q.1 c1⟩, fun a3 d Q => ?_⟩
      rw [vd_S53_40 hM, ← hf1]
      simp (disch := omega) only [vd_S53_55 hM, vd_S53_61 hM, vd_S53_84 hM, vd_S53_85 hM, vd_S53_87 hM, t0, t1, t2, e0, e1, e2, c1, if_false, P33, vd_rs_v, vd_rs_n]
  obtain ⟨al, al01, alw, eC⟩ := al
  by_cases ck : kd = 2
  · have hs := hsd ck
    rw [if_pos ck] at eC z33
    obtain ⟨s0, s01, fs0, gs0⟩ := hs 0 (by decide)
    obtain ⟨s1, s11, fs1, gs1⟩ := hs 1 (by decide)
    obtain ⟨s2, s21, fs2, gs2⟩ := hs 2 (by decide)
    rw [fs0, fs1, fs2, vd_I_toInt (by omega) (by omega), vd_I_toInt (by omega) (by omega), vd_I_toInt (by omega) (by omega)] at alw
    have d0 : g1 84 0 = vd_I s0 := by rw [G1 84 0 (by omega)]; exact gs0
    have d1 : g1 84 1 = vd_I s1 := by rw [G1 84 1 (by omega)]; exact gs1
    have d2 : g1 84 2 = vd_I s2 := by rw [G1 84 2 (by omega)]; exact gs2
    have eR : ∀ a1 a2 d Q, vd_wp (d + 2) 191 49 [.ref 63, a1, a2] [] (vd_mf N g) Q = if al = 1 then vd_wp (d + 2) 191 111 [.ref 63, a1, a2] [] (vd_mf N g1) Q else vd_wp (d + 2) 191 91 [.ref 63, a1, a2] [] (vd_mf N g1) Q := fun a1 a2 d Q => by
      have z0 : g 63 33 = vd_I 0 := by rw [← G1 63 33 (by omega)]; exact z33
      by_cases c1 : s0 = s1
      · by_cases c2 : s0 = s2
        · rw [if_pos (alw.mpr ⟨c1, by omega⟩), vd_S191_49 hN, ← hg1]
          subst c1 c2
          simp (disch := omega) only [vd_S191_61 hN, vd_S191_66 hN, vd_S191_72 hN, vd_S191_76 hN, vd_S191_81 hN, vd_S191_87 hN, t0, t1, t2, d0, d1, d2, z0, vd_I_toInt, eq_self, if_true]
        · rw [if_neg (fun q => c2 (by have := alw.mp q; omega)), vd_S191_49 hN, ← hg1]
          subst c1
          simp (disch := omega) only [vd_S191_61 hN, vd_S191_66 hN, vd_S191_72 hN, vd_S191_76 hN, vd_S191_81 hN, vd_S191_87 hN, t0, t1, t2, d0, d1, d2, z0, vd_I_toInt, eq_self, if_true, c2, if_false]
      · rw [if_neg (fun q => c1 (alw.mp q).1), vd_S191_49 hN, ← hg1]
        simp (disch := omega) only [vd_S191_61 hN, vd_S191_66 hN, vd_S191_72 hN, t0, t1, t2, d0, d1, d2, z0, vd_I_toInt, eq_self, if_true, c1, if_false]
    rcases al01 with ha | ha
    · -- they differ: a bit, and perhaps another
      subst ha
      obtain ⟨f2, g2, r, p1, p2, p3, p4, p5, p6, p7⟩ := vd_plainE hM hN (w := 1) (by decide) (by decide) (show n + (1 : Int).toNat ≤ 8000000 by rw [t1]; omega) h1
      have p4 : r < 2 := p4
      rw [t1] at p5
      by_cases cr : r = 1
      · subst cr
        obtain ⟨f3, hf3⟩ : ∃ f3, f3 = vd_up f2 17 18 (vd_I 1) := ⟨_, rfl⟩
        have F3 : ∀ c i, ¬ (c = 17 ∧ i = 18) → f3 c i = f2 c i := fun c i q => by rw [hf3, vd_up_ne (by omega)]
        have h3 : vd_RE (n + 1) f3 g2 := p5.upX (fun c i q => F3 c i (by omega)) (fun _ _ _ => rfl)
        obtain ⟨f4, g4, s, q1, q2, q3, q4, q5, q6, q7⟩ := vd_plainE hM hN (w := 1) (by decide) (by decide) (show n + 1 + (1 : Int).toNat ≤ 8000000 by rw [t1]; omega) h3
        have q4 : s < 2 := q4
        rw [t1] at q5
        obtain ⟨f5, hf5⟩ : ∃ f5, f5 = vd_up f4 17 19 (vd_I s) := ⟨_, rfl⟩
        obtain ⟨g5, hg5⟩ : ∃ g5, g5 = vd_up g4 63 45 (vd_I (1 + s)) := ⟨_, rfl⟩
        have F5 : ∀ c i, ¬ (c = 17 ∧ i = 19) → f5 c i = f4 c i := fun c i q => by rw [hf5, vd_up_ne (by omega)]
        have G5 : ∀ c i, ¬ (c = 63 ∧ i = 45) → g5 c i = g4 c i := fun c i q => by rw [hg5, vd_up_ne (by omega)]
        refine ⟨f5, g5, 1 + s, fun a3 d Q => ?_, fun a1 a2 d Q => ?_, by omega, ⟨?_, ?_, ?_⟩, q5.upX (fun c i q => F5 c i (by omega)) (fun c i q => G5 c i (by omega)), fun c i a b => ?_, fun c i a => ?_⟩
        · rw [eC]
          by_cases cs : s = 1
          · subst cs
            simp (disch := first | decide | omega) only [vd_S53_90 hM, vd_S53_93 hM, vd_S53_97 hM, vd_S53_100 hM, p1, vd_rs_v, vd_rs_n, vd_S53_103 hM, vd_S53_107 hM, vd_S53_112 hM, vd_S53_123 hM, vd_S53_125 hM, ← hf3, q1, vd_S53_128 hM, vd_S53_132 hM, vd_S53_137 hM, ← hf5, vd_S53_140 hM, vd_I_toInt, eq_self, if_true, show ¬ ((1 : Int) = 0) by decide, if_false, vd_fok1]
          · have : s = 0 := by omega
            subst this
            simp (disch := first | decide | omega) only [vd_S53_90 hM, vd_S53_93 hM, vd_S53_97 hM, vd_S53_100 hM, p1, vd_rs_v, vd_rs_n, vd_S53_103 hM, vd_S53_107 hM, vd_S53_112 hM, vd_S53_123 hM, vd_S53_125 hM, ← hf3, q1, vd_S53_128 hM, vd_S53_136 hM, vd_S53_137 hM, ← hf5, vd_S53_140 hM, vd_I_toInt, eq_self, if_true, show ¬ ((1 : Int) = 0) by decide, show ¬ ((0 : Int) = 1) by decide, if_false, vd_fok0, vd_fok1]
        · rw [eR, if_neg (by decide)]
          simp (disch := omega) only [vd_S191_91 hN, vd_S191_93 hN, p2, vd_rs_v, vd_rs_n, vd_S191_96 hN, vd_S191_100 hN, vd_S191_104 hN, q2, vd_S191_107 hN, vd_I_add, ← hg5, vd_I_toInt, eq_self, if_true]
        · rw [F5 17 18 (by omega), q6 17 18 (by omega), hf3, vd_up_eq, if_neg (by omega)]
        · rw [hf5, vd_up_eq]
          congr 1
          split <;> omega
        · rw [hg5, vd_up_eq]
        · rw [F5 c i (by omega), q6 c i (by omega), F3 c i (by omega), p6 c i (by omega), F1 c i (by omega)]
        · rw [G5 c i (by omega), q7 c i (by omega), p7 c i (by omega), G1 c i (by omega)]
      · have : r = 0 := by omega
        subst this
        obtain ⟨f5, hf5⟩ : ∃ f5, f5 = vd_up (vd_up f2 17 18 (vd_I 0)) 17 19 (vd_I 0) := ⟨_, rfl⟩
        have F5 : ∀ c i, ¬ (c = 17 ∧ (i = 18 ∨ i = 19)) → f5 c i = f2 c i := fun c i q => by rw [hf5, vd_up_ne (by omega), vd_up_ne (by omega)]
        refine ⟨f5, g2, 0, fun a3 d Q => ?_, fun a1 a2 d Q => ?_, by omega, ⟨?_, ?_, ?_⟩, (p5.upX (fun c i q => F5 c i (by omega)) (fun _ _ _ => rfl)).mono (by omega), fun c i a b => ?_, fun c i a => ?_⟩
        · rw [eC]
          simp (disch := first | decide | omega) only [vd_S53_90 hM, vd_S53_93 hM, vd_S53_97 hM, vd_S53_100 hM, p1, vd_rs_v, vd_rs_n, vd_S53_103 hM, vd_S53_111 hM, vd_S53_112 hM, vd_S53_136 hM, vd_S53_137 hM, ← hf5, vd_S53_140 hM, vd_I_toInt, eq_self, if_true, show ¬ ((0 : Int) = 1) by decide, if_false, vd_fok0]
        · rw [eR, if_neg (by decide)]
          simp (disch := omega) only [vd_S191_91 hN, vd_S191_93 hN, p2, vd_rs_v, vd_rs_n, vd_S191_96 hN, vd_I_toInt, show ¬ ((0 : Int) = 1) by decide, if_false]
        · rw [hf5, vd_up_ne (by omega), vd_up_eq, if_pos rfl]
        · rw [hf5, vd_up_eq, if_neg (by decide)]
        · rw [p7 63 45 (by omega)]; exact g45
        · rw [F5 c i (by omega), p6 c i (by omega), F1 c i (by omega)]
        · rw [p7 c i (by omega), G1 c i (by omega)]
    · subst ha
      refine ⟨f1, g1, 0, fun a3 d Q => ?_, fun a1 a2 d Q => ?_, by omega, ⟨by rw [f18, if_pos rfl], by rw [f19, if_neg (by decide)], g45⟩, h1.mono (by omega), fun c i a b => F1 c i (by omega), fun c i a => G1 c i (by omega)⟩
      · rw [eC]
        simp (disch := omega) only [vd_S53_90 hM, vd_S53_93 hM, vd_S53_140 hM, vd_I_toInt, eq_self, if_true, show ¬ ((1 : Int) = 0) by decide, if_false]
      · rw [eR, if_pos rfl]
  · rw [if_neg ck] at eC z33
    refine ⟨f1, g1, 0, fun a3 d Q => ?_, fun a1 a2 d Q => ?_, by omega, ⟨by rw [f18, if_pos rfl], by rw [f19, if_neg (by decide)], g45⟩, h1.mono (by omega), fun c i a b => F1 c i (by omega), fun c i a => G1 c i (by omega)⟩
    · rw [eC]
      simp (disch := omega) only [vd_S53_90 hM, vd_S53_140 hM, vd_I_toInt, show ¬ ((1 : Int) = 0) by decide, if_false]
    · have z0 : g 63 33 = vd_I 1 := by rw [← G1 63 33 (by omega)]; exact z33
      rw [vd_S191_49 hN, ← hg1]
      simp (disch := omega) only [z0, vd_I_toInt, show ¬ ((1 : Int) = 0) by decide, if_false]
/-- readSecond, and the reference's second header up to the models -/
theorem vd_second (hM : vd_SC M ow fa lo lf) (hN : vd_SR N) {n : Nat} {f g : Nat → Nat → Int32} {l kd : Int} (h : vd_RE n f g) (hn : n + 5 ≤ 8000000) (hl : l = 0 ∨ l = 1) (h35 : g 63 35 = vd_I l) (h4 : f 17 4 = vd_I kd) (k0 : 0 ≤ kd) (k1 : kd ≤ 2) (h33 : g 63 33 = vd_I (if kd = 2 then 0 else 1)) (hsd : kd = 2 → ∀ j, j < 3 → ∃ sd : Int, (sd = 0 ∨ sd = 1) ∧ f 19 j = vd_I sd ∧ g 84 j = vd_I sd) : ∃ (f' g' : Nat → Nat → Int32) (tm db : Int), (∀ d Q, vd_wp (d + 2) 53 0 [.ref 17, .ref 34, .int (vd_I l), vd_U] [] (vd_mf M f) Q = Q (vd_mf M f') (.inl none)) ∧ (∀ a1 a2 d Q, vd_wp (d + 2) 191 0 [.ref 63, a1, a2] [] (vd_mf N g) Q = vd_wp (d + 2) 191 111 [.ref 63, a1, a2] [] (vd_mf N g') Q) ∧ (0 ≤ tm ∧ tm ≤ 4 ∧ (l = 1 → tm = 0)) ∧ (0 ≤ db ∧ db ≤ 2) ∧ (f' 17 17 = vd_I tm ∧ f' 17 18 = vd_I (if db = 0 then 0 else 1) ∧ f' 17 19 = vd_I (if db = 2 then 1 else 0)) ∧ (g' 63 44 = vd_I tm ∧ g' 63 45 = vd_I db) ∧ vd_RE (n + 5) f' g' ∧ vd_f53 f f' ∧ vd_g53 g g' := by
  have t1 : (1 : Int).toNat = 1 := rfl
  have t2 : (2 : Int).toNat = 2 := rfl
  -- the rest, from any memory in which the transforms' mode is told
  have fin : ∀ (m : Nat) (f1 g1 : Nat → Nat → Int32) (tm : Int), m + 2 ≤ n + 5 → vd_RE m f1 g1 → (0 ≤ tm ∧ tm ≤ 4 ∧ (l = 1 → tm = 0)) → f1 17 17 = vd_I tm → g1 63 44 = vd_I tm → (∀ c i, ¬ (c = 34 ∧ 4 ≤ i) → ¬ (c = 17 ∧ i = 17) → f1 c i = f c i) → (∀ c i, ¬ (c = 63 ∧ (i = 44 ∨ (91 ≤ i ∧ i ≤ 94))) → g1 c i = g c i) → (∀ d Q, vd_wp (d + 2) 53 0 [.ref 17, .ref 34, .int (vd_I l), vd_U] [] (vd_mf M f) Q = vd_wp (d + 2) 53 40 [.ref 17, .ref 34, .int (vd_I l), vd_U] [] (vd_mf M f1) Q) → (∀ a1 a2 d Q, vd_wp (d + 2) 191 0 [.ref 63, a1, a2] [] (vd_mf N g) Q = vd_wp (d + 2) 191 49 [.ref 63, a1, a2] [] (vd_mf N g1) Q) → ∃ (f' g' : Nat → Nat → Int32) (tm db : Int), (∀ d Q, vd_wp (d + 2) 53 0 [.ref 17, .ref 34, .int (vd_I l), vd_U] [] (vd_mf M f) Q = Q (vd_mf M f') (.inl none)) ∧ (∀ a1 a2 d Q, vd_wp (d + 2) 191 0 [.ref 63, a1, a2] [] (vd_mf N g) Q = vd_wp (d + 2) 191 111 [.ref 63, a1, a2] [] (vd_mf N g') Q) ∧ (0 ≤ tm ∧ tm ≤ 4 ∧ (l = 1 → tm = 0)) ∧ (0 ≤ db ∧ db ≤ 2) ∧ (f' 17 17 = vd_I tm ∧ f' 17 18 = vd_I (if db = 0 then 0 else 1) ∧ f' 17 19 = vd_I (if db = 2 then 1 else 0)) ∧ (g' 63 44 = vd_I tm ∧ g' 63 45 = vd_I db) ∧ vd_RE (n + 5) f' g' ∧ vd_f53 f f' ∧ vd_g53 g g' := by
    intro m f1 g1 tm hm h1 htm e1 e2 F G eC eR
    obtain ⟨f2, g2, db, p1, p2, p3, ⟨p4, p5, p6⟩, p7, p8, p9⟩ := vd_sh2 hM hN (l := l) (kd := kd) h1 (by omega) (by rw [F 17 4 (by omega) (by omega)]; exact h4) k0 k1 (by rw [G 63 33 (by omega)]; exact h33) (fun q j hj => by
      obtain ⟨sd, x, y, z⟩ := hsd q j hj
      exact ⟨sd, x, by rw [F 19 j (by omega) (by omega)]; exact y, by rw [G 84 j (by omega)]; exact z⟩)
    exact ⟨f2, g2, tm, db, fun d Q => by rw [eC, p1], fun a1 a2 d Q => by rw [eR, p2], htm, p3, ⟨by rw [p8 17 17 (by omega) (by omega)]; exact e1, p4, p5⟩, ⟨by rw [p9 63 44 (by omega)]; exact e2, p6⟩, p7.mono (by omega), fun c i a b => by rw [p8 c i a (by omega), F c i a (by omega)], fun c i a => by rw [p9 c i (by omega), G c i (by omega)]⟩
  rcases hl with rfl | rfl
  · have h1 : vd_RE n (vd_up f 17 17 (vd_I 0)) g := h.upX (fun c i q => by rw [vd_up_ne (by omega)]) (fun _ _ _ => rfl)
    obtain ⟨f2, g2, r, p1, p2, p3, p4, p5, p6, p7⟩ := vd_plainE hM hN (w := 2) (by decide) (by decide) (show n + (2 : Int).toNat ≤ 8000000 by rw [t2]; omega) h1
    have p4 : r < 4 := p4
    rw [t2] at p5
    have e35 : g2 63 35 = vd_I 0 := by rw [p7 63 35 (by omega)]; exact h35
    by_cases cr : r = 3
    · subst cr
      have h3 : vd_RE (n + 2) (vd_up f2 17 17 (vd_I 3)) (vd_up g2 63 44 (vd_I 3)) := p5.upX (fun c i q => by rw [vd_up_ne (by omega)]) (fun c i q => by rw [vd_up_ne (by omega)])
      obtain ⟨f4, g4, s, q1, q2, q3, q4, q5, q6, q7⟩ := vd_plainE hM hN (w := 1) (by decide) (by decide) (show n + 2 + (1 : Int).toNat ≤ 8000000 by rw [t1]; omega) h3
      have q4 : s < 2 := q4
      rw [t1] at q5
      refine fin (n + 2 + 1) (vd_up f4 17 17 (vd_I (3 + s))) (vd_up g4 63 44 (vd_I (3 + s))) (3 + s) (by omega) (q5.upX (fun c i q => by rw [vd_up_ne (by omega)]) (fun c i q => by rw [vd_up_ne (by omega)])) ⟨by omega, by omega, fun q => absurd q (by decide)⟩ (vd_up_eq _ _ _ _) (vd_up_eq _ _ _ _) (fun c i a b => by rw [vd_up_ne (by omega), q6 c i a, vd_up_ne (by omega), p6 c i a, vd_up_ne (by omega)]) (fun c i a => by rw [vd_up_ne (by omega), q7 c i (by omega), vd_up_ne (by omega), p7 c i (by omega)]) (fun d Q => ?_) (fun a1 a2 d Q => ?_)
      · simp (disch := omega) only [vd_S53_0 hM, vd_S53_9 hM, vd_S53_12 hM, p1, vd_rs_v, vd_rs_n, vd_S53_15 hM, vd_S53_26 hM, vd_S53_33 hM, vd_up_eq, q1, vd_S53_36 hM, vd_I_add, vd_I_toInt, eq_self, if_true]
      · simp (disch := omega) only [vd_S191_0 hN, vd_S191_12 hN, vd_S191_14 hN, p2, vd_rs_v, vd_rs_n, vd_S191_17 hN, h35, e35, vd_S191_27 hN, vd_S191_35 hN, vd_S191_42 hN, vd_up_eq, q2, vd_S191_45 hN, vd_I_add, vd_I_toInt, eq_self, if_true]
    · refine fin (n + 2) (vd_up f2 17 17 (vd_I r)) (vd_up g2 63 44 (vd_I r)) r (by omega) (p5.upX (fun c i q => by rw [vd_up_ne (by omega)]) (fun c i q => by rw [vd_up_ne (by omega)])) ⟨by omega, by omega, fun q => absurd q (by decide)⟩ (vd_up_eq _ _ _ _) (vd_up_eq _ _ _ _) (fun c i a b => by rw [vd_up_ne (by omega), p6 c i a, vd_up_ne (by omega)]) (fun c i a => by rw [vd_up_ne (by omega), p7 c i (by omega)]) (fun d Q => ?_) (fun a1 a2 d Q => ?_)
      · simp (disch := omega) only [vd_S53_0 hM, vd_S53_9 hM, vd_S53_12 hM, p1, vd_rs_v, vd_rs_n, vd_S53_15 hM, vd_I_toInt, eq_self, if_true, cr, if_false]
      · simp (disch := omega) only [vd_S191_0 hN, vd_S191_12 hN, vd_S191_14 hN, p2, vd_rs_v, vd_rs_n, vd_S191_17 hN, h35, e35, vd_S191_27 hN, vd_up_eq, vd_I_toInt, eq_self, if_true, cr, if_false]
  · refine fin n (vd_up f 17 17 (vd_I 0)) (vd_up g 63 44 (vd_I 0)) 0 (by omega) (h.upX (fun c i q => by rw [vd_up_ne (by omega)]) (fun c i q => by rw [vd_up_ne (by omega)])) ⟨by decide, by decide, fun _ => rfl⟩ (vd_up_eq _ _ _ _) (vd_up_eq _ _ _ _) (fun c i a b => by rw [vd_up_ne (by omega)]) (fun c i a => by rw [vd_up_ne (by omega)]) (fun d Q => ?_) (fun a1 a2 d Q => ?_)
    · simp (disch := omega) only [vd_S53_0 hM, vd_I_toInt, show ¬ ((1 : Int) = 0) by decide, if_false]
    · simp (disch := omega) only [vd_S191_0 hN, vd_S191_8 hN, vd_S191_17 hN, h35, vd_I_toInt, show ¬ ((1 : Int) = 0) by decide, if_false]
end VDSH
