/-! ===== models and tallies; read, ladder, plain ===== -/
/-- the models are alike -/
def vd_RM (f g : Nat → Nat → Int32) : Prop := ∀ k, k < 2941 → f 35 k = g 80 k ∧ ∃ z : Int, f 35 k = vd_I z ∧ 0 ≤ z ∧ z ≤ 255
/-- the tallies are alike; n readings at most -/
def vd_RY (n : Nat) (f g : Nat → Nat → Int32) : Prop := (∀ k, k < 2941 → f 36 (2 * k) = g 81 k ∧ f 36 (2 * k + 1) = g 82 k ∧ ∃ a b : Int, f 36 (2 * k) = vd_I a ∧ f 36 (2 * k + 1) = vd_I b ∧ 0 ≤ a ∧ 0 ≤ b ∧ a + b ≤ (n : Int)) ∧ f 34 3 = g 63 46 ∧ ∃ c : Int, f 34 3 = vd_I c ∧ 0 ≤ c ∧ c ≤ (n : Int)
def vd_RE (n : Nat) (f g : Nat → Nat → Int32) : Prop := vd_RT f g ∧ vd_RC n f g
def vd_RD (n : Nat) (f g : Nat → Nat → Int32) : Prop := vd_RT f g ∧ vd_RC n f g ∧ vd_RM f g ∧ vd_RY n f g
def vd_fD (f f' : Nat → Nat → Int32) : Prop := ∀ c i, ¬ (c = 34 ∧ 3 ≤ i) → c ≠ 36 → f' c i = f c i
def vd_gD (g g' : Nat → Nat → Int32) : Prop := ∀ c i, ¬ (c = 63 ∧ (i = 46 ∨ (91 ≤ i ∧ i ≤ 94))) → c ≠ 81 → c ≠ 82 → g' c i = g c i
theorem vd_fD.refl (f : Nat → Nat → Int32) : vd_fD f f := fun _ _ _ _ => rfl
theorem vd_gD.refl (f : Nat → Nat → Int32) : vd_gD f f := fun _ _ _ _ _ => rfl
theorem vd_fD.trans {f f' f'' : Nat → Nat → Int32} (h : vd_fD f f') (h' : vd_fD f' f'') : vd_fD f f'' := fun c i q q2 => (h' c i q q2).trans (h c i q q2)
theorem vd_gD.trans {f f' f'' : Nat → Nat → Int32} (h : vd_gD f f') (h' : vd_gD f' f'') : vd_gD f f'' := fun c i q q2 q3 => (h' c i q q2 q3).trans (h c i q q2 q3)
theorem vd_fC.toD {f f' : Nat → Nat → Int32} (h : vd_fC f f') : vd_fD f f' := fun c i q _ => h c i (by omega)
theorem vd_gC.toD {f f' : Nat → Nat → Int32} (h : vd_gC f f') : vd_gD f f' := fun c i q _ _ => h c i (by omega)
theorem vd_fD.up {f f' : Nat → Nat → Int32} {c i : Nat} {v : Int32} (h : vd_fD f f') (hi : c = 36 ∨ (c = 34 ∧ 3 ≤ i)) : vd_fD f (vd_up f' c i v) := fun a j q q2 => by
  rw [vd_up_ne (by omega)]
  exact h a j q q2
theorem vd_gD.up {f f' : Nat → Nat → Int32} {c i : Nat} {v : Int32} (h : vd_gD f f') (hi : c = 81 ∨ c = 82 ∨ (c = 63 ∧ i = 46)) : vd_gD f (vd_up f' c i v) := fun a j q q2 q3 => by
  rw [vd_up_ne (by omega)]
  exact h a j q q2 q3
theorem vd_RM.keep {f f' g g' : Nat → Nat → Int32} (h : vd_RM f g) (hf : vd_fD f f') (hg : vd_gD g g') : vd_RM f' g' := fun k hk => by
  rw [hf 35 k (by omega) (by omega), hg 80 k (by omega) (by omega) (by omega)]
  exact h k hk
theorem vd_RT.keepD {f f' g g' : Nat → Nat → Int32} (h : vd_RT f g) (hf : vd_fD f f') (hg : vd_gD g g') : vd_RT f' g' := fun k hk => by
  rw [hf 11 k (by omega) (by omega), hg 64 k (by omega) (by omega) (by omega)]
  exact h k hk
theorem vd_RY.keep {n : Nat} {f f' g g' : Nat → Nat → Int32} (h : vd_RY n f g) (hf : vd_fC f f') (hg : vd_gC g g') : vd_RY n f' g' := by
  refine ⟨fun k hk => ?_, ?_⟩
  · rw [hf 36 _ (by omega), hf 36 _ (by omega), hg 81 k (by omega), hg 82 k (by omega)]
    exact h.1 k hk
  · rw [hf 34 3 (by omega), hg 63 46 (by omega)]
    exact h.2
theorem vd_RY.mono {n m : Nat} {f g : Nat → Nat → Int32} (h : vd_RY n f g) (hm : n ≤ m) : vd_RY m f g := by
  refine ⟨fun k hk => ?_, h.2.1, ?_⟩
  · obtain ⟨h1, h2, a, b, h3, h4, h5, h6, h7⟩ := h.1 k hk
    exact ⟨h1, h2, a, b, h3, h4, h5, h6, by omega⟩
  · obtain ⟨c, h1, h2, h3⟩ := h.2.2
    exact ⟨c, h1, h2, by omega⟩
theorem vd_RC.keepU {n : Nat} {f f' g g' : Nat → Nat → Int32} (h : vd_RC n f g) (hf : ∀ i, 4 ≤ i → f' 34 i = f 34 i) (hf2 : ∀ i, f' 11 i = f 11 i) (hg : ∀ i, 91 ≤ i → i ≤ 94 → g' 63 i = g 63 i) : vd_RC n f' g' := by
  obtain ⟨R, V, nx, lm, hb, cb, ⟨⟨e1, e2, e3, e4, e5⟩, ⟨g1, g2, g3, g4⟩, r, b, hh⟩, hR, hcb⟩ := h
  refine ⟨R, V, nx, lm, hb, cb, ⟨⟨?_, ?_, ?_, ?_, ?_⟩, ⟨?_, ?_, ?_, ?_⟩, r, b, ?_⟩, hR, hcb⟩
  · rw [hf 8 (by decide)]; exact e1
  · rw [hf 9 (by decide)]; exact e2
  · rw [hf 4 (by decide)]; exact e3
  · rw [hf 5 (by decide)]; exact e4
  · rw [hf 7 (by decide)]; exact e5
  · rw [hg 91 (by decide) (by decide)]; exact g1
  · rw [hg 92 (by decide) (by decide)]; exact g2
  · rw [hg 93 (by decide) (by decide)]; exact g3
  · rw [hg 94 (by decide) (by decide)]; exact g4
  · unfold vd_HB
    rw [hf 6 (by decide), hf2]
    exact hh
theorem vd_RD.mono {n m : Nat} {f g : Nat → Nat → Int32} (h : vd_RD n f g) (hm : n ≤ m) : vd_RD m f g := ⟨h.1, h.2.1.mono hm, h.2.2.1, h.2.2.2.mono hm⟩
/-- what a reading leaves in the tallies -/
def vd_tF (f : Nat → Nat → Int32) (k : Nat) (b : Int) : Nat → Nat → Int32 := vd_up (vd_up f 36 (2 * (k : Int) + b).toNat (f 36 (2 * (k : Int) + b).toNat + vd_I 1)) 34 3 (f 34 3 + vd_I 1)
def vd_tG (g : Nat → Nat → Int32) (k : Nat) (b : Int) : Nat → Nat → Int32 := vd_up (vd_up g 63 46 (g 63 46 + vd_I 1)) (if b = 0 then 81 else 82) k (g (if b = 0 then 81 else 82) k + vd_I 1)
theorem vd_RY.read {n k : Nat} {f g : Nat → Nat → Int32} {b : Int} (h : vd_RY n f g) (hk : k < 2941) (hb : b = 0 ∨ b = 1) : vd_RY (n + 1) (vd_tF f k b) (vd_tG g k b) := by
  unfold vd_tF vd_tG
  refine ⟨fun q hq => ?_, ?_, ?_⟩
  · obtain ⟨h1, h2, a, c, h3, h4, h5, h6, h7⟩ := h.1 q hq
    rcases hb with rfl | rfl
    · have e0 : (2 * (k : Int) + 0).toNat = 2 * k := by omega
      rw [e0, if_pos rfl]
      by_cases hqk : q = k
      · subst hqk
        refine ⟨?_, ?_, a + 1, c, ?_, ?_, by omega, by omega, by omega⟩
        · rw [vd_up_ne (by omega), vd_up_eq, vd_up_eq, h1]
        · rw [vd_up_ne (by omega), vd_up_ne (by omega), vd_up_ne (by omega), vd_up_ne (by omega), h2]
        · rw [vd_up_ne (by omega), vd_up_eq, h3, vd_I_add]
        · rw [vd_up_ne (by omega), vd_up_ne (by omega), h4]
      · refine ⟨?_, ?_, a, c, ?_, ?_, by omega, by omega, by omega⟩
        · rw [vd_up_ne (by omega), vd_up_ne (by omega), vd_up_ne (by omega), vd_up_ne (by omega), h1]
        · rw [vd_up_ne (by omega), vd_up_ne (by omega), vd_up_ne (by omega), vd_up_ne (by omega), h2]
        · rw [vd_up_ne (by omega), vd_up_ne (by omega), h3]
        · rw [vd_up_ne (by omega), vd_up_ne (by omega), h4]
    · have e0 : (2 * (k : Int) + 1).toNat = 2 * k + 1 := by omega
      rw [e0, if_neg (by decide)]
      by_cases hqk : q = k
      · subst hqk
        refine ⟨?_, ?_, a, c + 1, ?_, ?_, by omega, by omega, by omega⟩
        · rw [vd_up_ne (by omega), vd_up_ne (by omega), vd_up_ne (by omega), vd_up_ne (by omega), h1]
        · rw [vd_up_ne (by omega), vd_up_eq, vd_up_eq, h2]
        · rw [vd_up_ne (by omega), vd_up_ne (by omega), h3]
        · rw [vd_up_ne (by omega), vd_up_eq, h4, vd_I_add]
      · refine ⟨?_, ?_, a, c, ?_, ?_, by omega, by omega, by omega⟩
        · rw [vd_up_ne (by omega), vd_up_ne (by omega), vd_up_ne (by omega), vd_up_ne (by omega), h1]
        · rw [vd_up_ne (by omega), vd_up_ne (by omega), vd_up_ne (by omega), vd_up_ne (by omega), h2]
        · rw [vd_up_ne (by omega), vd_up_ne (by omega), h3]
        · rw [vd_up_ne (by omega), vd_up_ne (by omega), h4]
  · rw [vd_up_eq, h.2.1]
    rcases hb with rfl | rfl
    · rw [if_pos rfl, vd_up_ne (by omega), vd_up_eq]
    · rw [if_neg (by decide), vd_up_ne (by omega), vd_up_eq]
  · obtain ⟨c, h1, h2, h3⟩ := h.2.2
    exact ⟨c + 1, by rw [vd_up_eq, h1, vd_I_add], by omega, by omega⟩
section VDCP
variable {M N : vd_M} {ow fa lo lf : Nat}
theorem vd_bitD (hM : vd_SC M ow fa lo lf) (hN : vd_SR N) {n : Nat} {f g : Nat → Nat → Int32} {p : Int} (h : vd_RD n f g) (hn : n ≤ 8000000) (p0 : 0 ≤ p) (p1 : p ≤ 255) : ∃ (f' g' : Nat → Nat → Int32) (b : Int), (∀ d Q, vd_wp d 55 0 [.ref 34, .int (vd_I p), vd_U, vd_U, vd_U] [] (vd_mf M f) Q = Q (vd_mf M f') (.inl (some (.int (vd_I b))))) ∧ (∀ d Q, vd_wp d 193 0 [.ref 63, .int (vd_I p), vd_U, vd_U] [] (vd_mf N g) Q = Q (vd_mf N g') (.inl (some (.int (vd_I b))))) ∧ (b = 0 ∨ b = 1) ∧ vd_RD (n + 1) f' g' ∧ vd_fC f f' ∧ vd_gC g g' := by
  obtain ⟨h1, h2, h3, h4⟩ := h
  obtain ⟨f', g', b, q1, q2, q3, q4, q5, q6⟩ := vd_bit hM hN h1 h2 hn p0 p1
  exact ⟨f', g', b, q1, q2, q3, ⟨h1.keep q5 q6, q4, h3.keep q5.toD q6.toD, (h4.keep q5 q6).mono (by omega)⟩, q5, q6⟩
/-- a reading by a model: the class's parts, the reference's m -/
theorem vd_readC (hM : vd_SC M ow fa lo lf) (hN : vd_SR N) {n k : Nat} {f g : Nat → Nat → Int32} (h : vd_RD n f g) (hn : n ≤ 8000000) (hk : k < 2941) : ∃ (f1 g1 : Nat → Nat → Int32) (b : Int), (∀ d Q, vd_wp d 55 0 [.ref 34, .int (f 35 k), vd_U, vd_U, vd_U] [] (vd_mf M f) Q = Q (vd_mf M f1) (.inl (some (.int (vd_I b))))) ∧ (∀ d Q, vd_wp (d + 1) 202 0 [.ref 63, .int (vd_I (k : Int)), vd_U] [] (vd_mf N g) Q = Q (vd_mf N (vd_tG g1 k b)) (.inl (some (.int (vd_I b))))) ∧ (b = 0 ∨ b = 1) ∧ vd_RD (n + 1) (vd_tF f1 k b) (vd_tG g1 k b) ∧ vd_fD f (vd_tF f1 k b) ∧ vd_gD g (vd_tG g1 k b) := by
  obtain ⟨hm, p, hp, p0, p1⟩ := h.2.2.1 k hk
  have hp' : g 80 k = vd_I p := by rw [← hm]; exact hp
  obtain ⟨f1, g1, b, q1, q2, q3, q4, q5, q6⟩ := vd_bitD hM hN h hn p0 p1
  have hy := (h.2.2.2.keep q5 q6).read hk q3
  have hF : vd_fD f1 (vd_tF f1 k b) := ((vd_fD.refl f1).up (Or.inl rfl)).up (Or.inr ⟨rfl, by decide⟩)
  have hG : vd_gD g1 (vd_tG g1 k b) := ((vd_gD.refl g1).up (Or.inr (Or.inr ⟨rfl, rfl⟩))).up (by rcases q3 with rfl | rfl <;> simp)
  refine ⟨f1, g1, b, fun d Q => ?_, fun d Q => ?_, q3, ⟨q4.1.keepD hF hG, ?_, q4.2.2.1.keep hF hG, hy⟩, q5.toD.trans hF, q6.toD.trans hG⟩
  · rw [hp]
    exact q1 d Q
  · rcases q3 with rfl | rfl
    · simp (disch := omega) only [vd_S202_0 hN, vd_S202_25 hN, vd_S202_38 hN, vd_S202_48 hN, vd_S202_6 hN, vd_S202_31 hN, vd_S202_44 hN, vd_S202_7 hN, vd_S202_34 hN, vd_S202_47 hN, vd_S202_10 hN, Int.toNat_natCast, hp', q2, vd_rs_v, vd_rs_n, vd_I_toInt, eq_self, if_true]
      simp only [vd_tG, vd_up_at, vd_ua_at, Nat.reduceEqDiff, Nat.reduceAdd, Nat.reduceMul, and_false, false_and, and_true, true_and, and_self, if_true, if_false, reduceIte, ne_eq, not_false_eq_true, not_true_eq_false, eq_self]
    · simp (disch := omega) only [vd_S202_0 hN, vd_S202_25 hN, vd_S202_38 hN, vd_S202_48 hN, vd_S202_6 hN, vd_S202_31 hN, vd_S202_44 hN, vd_S202_7 hN, vd_S202_34 hN, vd_S202_47 hN, vd_S202_10 hN, Int.toNat_natCast, hp', q2, vd_rs_v, vd_rs_n, vd_I_toInt, show ¬ ((1 : Int) = 0) by decide, if_false]
      simp only [vd_tG, show ¬ ((1 : Int) = 0) by decide, vd_up_at, vd_ua_at, Nat.reduceEqDiff, Nat.reduceAdd, Nat.reduceMul, and_false, false_and, and_true, true_and, and_self, if_true, if_false, reduceIte, ne_eq, not_false_eq_true, not_true_eq_false, eq_self]
  · refine q4.2.1.keepU (fun i hi => ?_) (fun i => ?_) (fun i hi hi2 => ?_)
    · unfold vd_tF
      rw [vd_up_ne (by omega), vd_up_ne (by omega)]
    · unfold vd_tF
      rw [vd_up_ne (by omega), vd_up_ne (by omega)]
    · unfold vd_tG
      rw [vd_up_ne (by rcases q3 with rfl | rfl <;> simp), vd_up_ne (by omega)]
/-- read and m -/
theorem vd_read (hM : vd_SC M ow fa lo lf) (hN : vd_SR N) {n : Nat} {f g : Nat → Nat → Int32} {z : Int} (h : vd_RD n f g) (hn : n ≤ 8000000) (z0 : 0 ≤ z) (z1 : z < 2941) : ∃ (f' g' : Nat → Nat → Int32) (b : Int), (∀ d Q, vd_wp (d + 1) 79 0 [.ref 34, .int (vd_I z), vd_U] [] (vd_mf M f) Q = Q (vd_mf M f') (.inl (some (.int (vd_I b))))) ∧ (∀ d Q, vd_wp (d + 1) 202 0 [.ref 63, .int (vd_I z), vd_U] [] (vd_mf N g) Q = Q (vd_mf N g') (.inl (some (.int (vd_I b))))) ∧ (b = 0 ∨ b = 1) ∧ vd_RD (n + 1) f' g' ∧ vd_fD f f' ∧ vd_gD g g' := by
  obtain ⟨k, rfl⟩ := Int.eq_ofNat_of_zero_le z0
  obtain ⟨f1, g1, b, q1, q2, q3, q4, q5, q6⟩ := vd_readC hM hN h hn (show k < 2941 by omega)
  refine ⟨vd_tF f1 k b, vd_tG g1 k b, b, fun d Q => ?_, q2, q3, q4, q5, q6⟩
  have hb : 0 ≤ 2 * (k : Int) + b ∧ 2 * (k : Int) + b < 5882 := by omega
  simp (disch := omega) only [vd_S79_0 hM, vd_S79_6 hM, vd_S79_7 hM, vd_S79_10 hM, vd_S79_21 hM, vd_S79_24 hM, Int.toNat_natCast, q1, vd_rs_v, vd_rs_n, vd_I_mul, vd_I_add]
  rfl
/-- plain and l -/
theorem vd_bitE (hM : vd_SC M ow fa lo lf) (hN : vd_SR N) {n : Nat} {f g : Nat → Nat → Int32} {p : Int} (h : vd_RE n f g) (hn : n ≤ 8000000) (p0 : 0 ≤ p) (p1 : p ≤ 255) : ∃ (f' g' : Nat → Nat → Int32) (b : Int), (∀ d Q, vd_wp d 55 0 [.ref 34, .int (vd_I p), vd_U, vd_U, vd_U] [] (vd_mf M f) Q = Q (vd_mf M f') (.inl (some (.int (vd_I b))))) ∧ (∀ d Q, vd_wp d 193 0 [.ref 63, .int (vd_I p), vd_U, vd_U] [] (vd_mf N g) Q = Q (vd_mf N g') (.inl (some (.int (vd_I b))))) ∧ (b = 0 ∨ b = 1) ∧ vd_RE (n + 1) f' g' ∧ vd_fC f f' ∧ vd_gC g g' := by
  obtain ⟨f', g', b, q1, q2, q3, q4, q5, q6⟩ := vd_bit hM hN h.1 h.2 hn p0 p1
  exact ⟨f', g', b, q1, q2, q3, ⟨h.1.keep q5 q6, q4⟩, q5, q6⟩
theorem vd_plainLoop (hM : vd_SC M ow fa lo lf) (hN : vd_SR N) {w : Int} (w1 : w ≤ 16) : ∀ (m : Nat) (n : Nat) (f g : Nat → Nat → Int32) (j v : Int), j + m = w → 0 ≤ j → 0 ≤ v → v < 2 ^ j.toNat → n + m ≤ 8000000 → vd_RE n f g → ∃ (f' g' : Nat → Nat → Int32) (r : Int), (∀ d Q, vd_wp (d + 1) 54 4 [.ref 34, .int (vd_I w), .int (vd_I v), .int (vd_I j)] [] (vd_mf M f) Q = Q (vd_mf M f') (.inl (some (.int (vd_I r))))) ∧ (∀ d Q, vd_wp (d + 1) 192 4 [.ref 63, .int (vd_I w), .int (vd_I v), .int (vd_I j)] [] (vd_mf N g) Q = Q (vd_mf N g') (.inl (some (.int (vd_I r))))) ∧ 0 ≤ r ∧ r < 2 ^ w.toNat ∧ vd_RE (n + m) f' g' ∧ vd_fC f f' ∧ vd_gC g g' := by
  intro m
  induction m with
  | zero =>
    intro n f g j v hj j0 v0 v1 hn h
    have hj : j = w := by omega
    subst hj
    refine ⟨f, g, v, fun d Q => ?_, fun d Q => ?_, v0, v1, h, vd_fC.refl f, vd_gC.refl g⟩
    · simp (disch := omega) only [vd_S54_4 hM, vd_S54_27 hM, vd_I_toInt, Int.lt_irrefl, if_false]
    · simp (disch := omega) only [vd_S192_4 hN, vd_S192_27 hN, vd_I_toInt, Int.lt_irrefl, if_false]
  | succ m ih =>
    intro n f g j v hj j0 v0 v1 hn h
    obtain ⟨f1, g1, b, q1, q2, q3, q4, q5, q6⟩ := vd_bitE hM hN (p := 128) h (by omega) (by decide) (by decide)
    have e2 : (2 : Int) ^ (j + 1).toNat = 2 ^ j.toNat * 2 := by
      rw [show (j + 1).toNat = j.toNat + 1 by omega, Int.pow_succ]
    obtain ⟨f2, g2, r, p1, p2, p3, p4, p5, p6, p7⟩ := ih (n + 1) f1 g1 (j + 1) (v * 2 + b) (by omega) (by omega) (by omega) (by omega) (by omega) q4
    have hjw : j < w := by omega
    refine ⟨f2, g2, r, fun d Q => ?_, fun d Q => ?_, p3, p4, by rw [show n + (m + 1) = n + 1 + m by omega]; exact p5, q5.trans p6, q6.trans p7⟩
    · rw [vd_S54_4 hM]
      simp (disch := omega) only [vd_S54_0 hM, vd_S54_9 hM, vd_S54_27 hM, vd_S54_16 hM, vd_S54_19 hM, vd_I_toInt, hjw, if_true, q1, vd_rs_v, vd_rs_n, vd_I_mul, vd_I_add]
      exact p1 d Q
    · rw [vd_S192_4 hN]
      simp (disch := omega) only [vd_S192_0 hN, vd_S192_9 hN, vd_S192_27 hN, vd_S192_16 hN, vd_S192_19 hN, vd_I_toInt, hjw, if_true, q2, vd_rs_v, vd_rs_n, vd_I_mul, vd_I_add, Int.mul_comm 2 v]
      exact p2 d Q
theorem vd_plainE (hM : vd_SC M ow fa lo lf) (hN : vd_SR N) {n : Nat} {f g : Nat → Nat → Int32} {w : Int} (w0 : 0 ≤ w) (w1 : w ≤ 16) (hn : n + w.toNat ≤ 8000000) (h : vd_RE n f g) : ∃ (f' g' : Nat → Nat → Int32) (r : Int), (∀ d Q, vd_wp (d + 1) 54 0 [.ref 34, .int (vd_I w), vd_U, vd_U] [] (vd_mf M f) Q = Q (vd_mf M f') (.inl (some (.int (vd_I r))))) ∧ (∀ d Q, vd_wp (d + 1) 192 0 [.ref 63, .int (vd_I w), vd_U, vd_U] [] (vd_mf N g) Q = Q (vd_mf N g') (.inl (some (.int (vd_I r))))) ∧ 0 ≤ r ∧ r < 2 ^ w.toNat ∧ vd_RE (n + w.toNat) f' g' ∧ vd_fC f f' ∧ vd_gC g g' := by
  obtain ⟨f', g', r, q1, q2, q3⟩ := vd_plainLoop hM hN w1 w.toNat n f g 0 0 (by omega) (by decide) (by decide) (by decide) hn h
  exact ⟨f', g', r, fun d Q => by rw [vd_S54_0 hM]; exact q1 d Q, fun d Q => by rw [vd_S192_0 hN]; exact q2 d Q, q3⟩
theorem vd_plain (hM : vd_SC M ow fa lo lf) (hN : vd_SR N) {n : Nat} {f g : Nat → Nat → Int32} {w : Int} (w0 : 0 ≤ w) (w1 : w ≤ 16) (hn : n + w.toNat ≤ 8000000) (h : vd_RD n f g) : ∃ (f' g' : Nat → Nat → Int32) (r : Int), (∀ d Q, vd_wp (d + 1) 54 0 [.ref 34, .int (vd_I w), vd_U, vd_U] [] (vd_mf M f) Q = Q (vd_mf M f') (.inl (some (.int (vd_I r))))) ∧ (∀ d Q, vd_wp (d + 1) 192 0 [.ref 63, .int (vd_I w), vd_U, vd_U] [] (vd_mf N g) Q = Q (vd_mf N g') (.inl (some (.int (vd_I r))))) ∧ 0 ≤ r ∧ r < 2 ^ w.toNat ∧ vd_RD (n + w.toNat) f' g' ∧ vd_fC f f' ∧ vd_gC g g' := by
  obtain ⟨f', g', r, q1, q2, q3, q4, q5, q6, q7⟩ := vd_plainE hM hN w0 w1 hn ⟨h.1, h.2.1⟩
  exact ⟨f', g', r, q1, q2, q3, q4, ⟨q5.1, q5.2, h.2.2.1.keep q6.toD q7.toD, (h.2.2.2.keep q6 q7).mono (by omega)⟩, q6, q7⟩
/-- ladder and oneByOne -/
theorem vd_ladLoop (hM : vd_SC M ow fa lo lf) (hN : vd_SR N) {z w : Int} (z0 : 0 ≤ z) (w1 : w ≤ 100) (z1 : z + w ≤ 2941) : ∀ (m : Nat) (n : Nat) (f g : Nat → Nat → Int32) (j : Int), j + m = w → 0 ≤ j → n + m ≤ 8000000 → vd_RD n f g → ∃ (f' g' : Nat → Nat → Int32) (r : Int), (∀ d Q, vd_wp (d + 1) 86 5 [.ref 34, .int (vd_I z), .int (vd_I w), .int (vd_I j), .int (vd_I 1)] [] (vd_mf M f) Q = Q (vd_mf M f') (.inl (some (.int (vd_I r))))) ∧ (∀ d Q, vd_wp (d + 2) 205 2 [.ref 63, .int (vd_I z), .int (vd_I w), .int (vd_I j)] [] (vd_mf N g) Q = Q (vd_mf N g') (.inl (some (.int (vd_I r))))) ∧ j ≤ r ∧ r ≤ w ∧ vd_RD (n + m) f' g' ∧ vd_fD f f' ∧ vd_gD g g' := by
  intro m
  induction m with
  | zero =>
    intro n f g j hj j0 hn h
    have hj : j = w := by omega
    subst hj
    refine ⟨f, g, j, fun d Q => ?_, fun d Q => ?_, Int.le_refl j, Int.le_refl j, h, vd_fD.refl f, vd_gD.refl g⟩
    · simp (disch := omega) only [vd_S86_5 hM, vd_S86_65 hM, vd_I_toInt, Int.lt_irrefl, if_false]
    · simp (disch := omega) only [vd_S205_2 hN, vd_S205_24 hN, vd_I_toInt, Int.lt_irrefl, if_false]
  | succ m ih =>
    intro n f g j hj j0 hn h
    obtain ⟨k, hk⟩ := Int.eq_ofNat_of_zero_le (show 0 ≤ z + j by omega)
    obtain ⟨f1, g1, b, q1, q2, q3, q4, q5, q6⟩ := vd_readC hM hN h (by omega) (show k < 2941 by omega)
    have hjw : j < w := by omega
    have hb : 0 ≤ 2 * (k : Int) + b ∧ 2 * (k : Int) + b < 5882 := by omega
    rcases q3 with rfl | rfl
    · refine ⟨_, _, j, fun d Q => ?_, fun d Q => ?_, Int.le_refl j, by omega, q4.mono (by omega), q5, q6⟩
      · simp (disch := omega) only [vd_S86_5 hM, vd_S86_0 hM, vd_S86_10 hM, vd_S86_16 hM, vd_S86_65 hM, vd_S86_24 hM, vd_S86_25 hM, vd_S86_28 hM, vd_S86_43 hM, vd_S86_46 hM, vd_I_toInt, hjw, if_true, eq_self, vd_I_add, hk, Int.toNat_natCast, q1, vd_rs_v, vd_rs_n, vd_I_mul, Int.add_zero]
        simp (disch := omega) only [vd_S86_5 hM, vd_S86_0 hM, vd_S86_10 hM, vd_S86_16 hM, vd_S86_65 hM, vd_S86_24 hM, vd_S86_25 hM, vd_S86_28 hM, vd_S86_43 hM, vd_S86_46 hM, vd_I_toInt, hjw, if_true, show ¬ ((0 : Int) = 1) by decide, if_false]
        rfl
      · simp (disch := omega) only [vd_S205_2 hN, vd_S205_0 hN, vd_S205_7 hN, vd_S205_18 hN, vd_S205_24 hN, vd_S205_11 hN, vd_S205_14 hN, vd_I_toInt, hjw, if_true, vd_I_add, hk, q2, vd_rs_v, vd_rs_n, show ¬ ((0 : Int) = 1) by decide, if_false]
    · obtain ⟨f2, g2, r, p1, p2, p3, p4, p5, p6, p7⟩ := ih (n + 1) _ _ (j + 1) (by omega) (by omega) (by omega) q4
      refine ⟨f2, g2, r, fun d Q => ?_, fun d Q => ?_, by omega, p4, by rw [show n + (m + 1) = n + 1 + m by omega]; exact p5, q5.trans p6, q6.trans p7⟩
      · rw [vd_S86_5 hM]
        simp (disch := omega) only [vd_S86_0 hM, vd_S86_10 hM, vd_S86_16 hM, vd_S86_65 hM, vd_S86_24 hM, vd_S86_25 hM, vd_S86_28 hM, vd_S86_43 hM, vd_S86_46 hM, vd_I_toInt, hjw, if_true, eq_self, vd_I_add, hk, Int.toNat_natCast, q1, vd_rs_v, vd_rs_n, vd_I_mul]
        exact p1 d Q
      · rw [vd_S205_2 hN]
        simp (disch := omega) only [vd_S205_0 hN, vd_S205_7 hN, vd_S205_18 hN, vd_S205_24 hN, vd_S205_11 hN, vd_S205_14 hN, vd_I_toInt, hjw, if_true, vd_I_add, hk, q2, vd_rs_v, vd_rs_n, eq_self]
        exact p2 d Q
theorem vd_ladder (hM : vd_SC M ow fa lo lf) (hN : vd_SR N) {n : Nat} {f g : Nat → Nat → Int32} {z w : Int} (z0 : 0 ≤ z) (w0 : 0 ≤ w) (w1 : w ≤ 100) (z1 : z + w ≤ 2941) (hn : n + w.toNat ≤ 8000000) (h : vd_RD n f g) : ∃ (f' g' : Nat → Nat → Int32) (r : Int), (∀ d Q, vd_wp (d + 1) 86 0 [.ref 34, .int (vd_I z), .int (vd_I w), vd_U, vd_U] [] (vd_mf M f) Q = Q (vd_mf M f') (.inl (some (.int (vd_I r))))) ∧ (∀ d Q, vd_wp (d + 2) 205 0 [.ref 63, .int (vd_I z), .int (vd_I w), vd_U] [] (vd_mf N g) Q = Q (vd_mf N g') (.inl (some (.int (vd_I r))))) ∧ 0 ≤ r ∧ r ≤ w ∧ vd_RD (n + w.toNat) f' g' ∧ vd_fD f f' ∧ vd_gD g g' := by
  obtain ⟨f', g', r, q1, q2, q3⟩ := vd_ladLoop hM hN z0 w1 z1 w.toNat n f g 0 (by omega) (by decide) hn h
  exact ⟨f', g', r, fun d Q => by rw [vd_S86_0 hM]; exact q1 d Q, fun d Q => by rw [vd_S205_0 hN]; exact q2 d Q, q3⟩
end VDCP
