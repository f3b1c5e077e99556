/-! ===== filterColumns ===== -/
def vd_mxv (mix o v : Int) : Int := if mix = 0 then v else (o + v + 1) / 2
def vd_sd (pl : Nat) : Nat := if pl = 0 then 192 else 96
theorem vd_ax_inj {pl a b a' b' : Nat} (ha : a < vd_sd pl) (ha' : a' < vd_sd pl) (h : vd_ax pl a b = vd_ax pl a' b') : a = a' ∧ b = b' := by
  unfold vd_ax at h
  unfold vd_sd at ha ha'
  by_cases c : pl = 0
  · simp only [c, if_true] at h ha ha'
    omega
  · simp only [c, if_false] at h ha ha'
    omega
section VDME
variable {M : vd_M} {ow fa lo lf : Nat} {p s pl : Nat}
theorem vd_L110t (hM : vd_SC M ow fa lo lf) {V R : Nat → Int} {first i j d : Nat} {Q : vd_M → (Option Value ⊕ Nat) → Prop} {f : Nat → Nat → Int32} (hV : ∀ t, t < 8 → f 57 (first + t) = vd_I (V t)) (hR : ∀ t, t < 8 → f 59 (64 * (j + t) + i) = vd_I (R (j + t))) (h1 : first + 8 ≤ 256) (h2 : i < 64) (hj : j < 64) (x3 x5 : Int32) : ∀ (m t : Nat), t + m = 8 → vd_wp d 110 51 [.ref 54, .ref p, .int (vd_I (first : Int)), .int x3, .int (vd_I (j : Int)), .int x5, .int (vd_I (i : Int)), .int (vd_I (64 + vd_sum (fun t => V t * R (j + t)) t)), .int (vd_I (t : Int))] [] (vd_mf M f) Q = vd_wp d 110 95 [.ref 54, .ref p, .int (vd_I (first : Int)), .int x3, .int (vd_I (j : Int)), .int x5, .int (vd_I (i : Int)), .int (vd_I (64 + vd_sum (fun t => V t * R (j + t)) 8)), .int (vd_I 8)] [] (vd_mf M f) Q := by
  intro m
  induction m with
  | zero =>
    intro t ht
    have e : t = 8 := by omega
    subst e
    rw [vd_S110_51 hM]
    simp (disch := omega) only [vd_I_toInt, show ((8 : Nat) : Int) = 8 from rfl, Int.lt_irrefl, if_false]
  | succ m ih =>
    intro t ht
    have c : (t : Int) < 8 := by omega
    have n1 : ((first : Int) + (t : Int)).toNat = first + t := by omega
    have n2 : (((j : Int) + (t : Int)) * 64 + (i : Int)).toNat = 64 * (j + t) + i := by omega
    have e1 : (t : Int) + 1 = ((t + 1 : Nat) : Int) := by omega
    have e2 : 64 + vd_sum (fun t => V t * R (j + t)) t + V t * R (j + t) = 64 + vd_sum (fun t => V t * R (j + t)) (t + 1) := Int.add_assoc _ _ _
    have a := hV t (by omega)
    have b := hR t (by omega)
    rw [← ih (t + 1) (by omega), vd_S110_51 hM]
    simp (disch := omega) only [vd_S110_58 hM, vd_S110_68 hM, vd_S110_84 hM, vd_I_toInt, c, if_true, vd_I_add, vd_I_mul, n1, n2, a, b, e1, e2]
theorem vd_L110i (hM : vd_SC M ow fa lo lf) (hp : vd_PC M p s) {V : Nat → Int} {R : Nat → Nat → Int} {Ov : Nat → Int} {first wide j row : Nat} {mix : Int} (h1 : first + 8 ≤ 256) (h2 : wide ≤ 64) (hj : j < 64) (hVb : ∀ t, -128 ≤ V t ∧ V t ≤ 128) (hRb : ∀ i t, 0 ≤ R i t ∧ R i t ≤ 255) (hOb : ∀ i, 0 ≤ Ov i ∧ Ov i ≤ 255) (hm : mix = 0 ∨ mix = 1) (hrow : row + wide ≤ 55296) : ∀ (m i : Nat) (f : Nat → Nat → Int32) (a7 a8 : Value), i + m = wide → (∀ t, t < 8 → f 57 (first + t) = vd_I (V t)) → (∀ c t, c < wide → t < 8 → f 59 (64 * (j + t) + c) = vd_I (R c (j + t))) → (∀ c, mix = 1 → i ≤ c → c < wide → f s (row + c) = vd_I (Ov c)) → f 54 11 = vd_I (wide : Int) → ∃ (f' : Nat → Nat → Int32) (b7 b8 : Value), (∀ d Q, vd_wp (d + 1) 110 35 [.ref 54, .ref p, .int (vd_I (first : Int)), .int (vd_I mix), .int (vd_I (j : Int)), .int (vd_I (row : Int)), .int (vd_I (i : Int)), a7, a8] [] (vd_mf M f) Q = vd_wp (d + 1) 110 147 [.ref 54, .ref p, .int (vd_I (first : Int)), .int (vd_I mix), .int (vd_I (j : Int)), .int (vd_I (row : Int)), .int (vd_I (wide : Int)), b7, b8] [] (vd_mf M f') Q) ∧ (∀ c, i ≤ c → c < wide → f' s (row + c) = vd_I (vd_mxv mix (Ov c) (vd_hr V (R c) j))) ∧ (∀ c q, ¬ (c = s ∧ row + i ≤ q ∧ q < row + wide) → f' c q = f c q) := by
  obtain ⟨⟨hk, hr⟩, ⟨hks, hls⟩, hp1, hp2, hp3⟩ := id hp
  intro m
  induction m with
  | zero =>
    intro i f a7 a8 hi hV hR hO h11
    refine ⟨f, a7, a8, fun d Q => ?_, fun c a b => by omega, fun _ _ _ => rfl⟩
    have e : i = wide := by omega
    subst e
    rw [vd_S110_35 hM, h11]
    simp (disch := omega) only [Int.lt_irrefl, if_false]
  | succ m ih =>
    intro i f a7 a8 hi hV hR hO h11
    have c : (i : Int) < (wide : Int) := by omega
    have sb := vd_sum_b (F := fun t => V t * R i (j + t)) (fun t => vd_mulb (hVb t).1 (hVb t).2 (hRb _ _).1 (hRb _ _).2) 8
    have e8 : ((8 : Nat) : Int) = 8 := rfl
    rw [e8] at sb
    have e1 : (i : Int) + 1 = ((i + 1 : Nat) : Int) := by omega
    have n1 : ((row : Int) + (i : Int)).toNat = row + i := by omega
    have tl := fun d (Q : vd_M → (Option Value ⊕ Nat) → Prop) => vd_L110t (p := p) (R := R i) (d := d) (Q := Q) hM hV (fun t ht => hR i t (by omega) ht) h1 (show i < 64 by omega) hj (vd_I mix) (vd_I (row : Int)) 8 0 rfl
    have s0 : vd_sum (fun t => V t * R i (j + t)) 0 = 0 := rfl
    have z0 : ((0 : Nat) : Int) = 0 := rfl
    simp only [s0, z0, Int.add_zero] at tl
    have hb := vd_hr_b V (R i) j
    have ev0 : vd_hr V (R i) j = vd_wn ((64 + vd_sum (fun t => V t * R i (j + t)) 8) / 128) 0 255 := rfl
    generalize hS : 64 + vd_sum (fun t => V t * R i (j + t)) 8 = S at tl ev0
    have P103 := fun (f : Nat → Nat → Int32) (d : Nat) (Q : vd_M → (Option Value ⊕ Nat) → Prop) => vd_P103 (a := S / 128) (f := f) (d := d) (Q := Q) hM (by omega) (by omega)
    rw [← ev0] at P103
    generalize hH : vd_hr V (R i) j = hv at *
    obtain ⟨f2, b7, b8, p1, p2, p3⟩ := ih (i + 1) (vd_up f s (row + i) (vd_I (vd_mxv mix (Ov i) hv))) (.int (vd_I S)) (.int (vd_I hv)) (by omega) (fun t ht => by rw [vd_up_ne (by omega)]; exact hV t ht) (fun c t hc ht => by rw [vd_up_ne (by omega)]; exact hR c t hc ht) (fun c hm a b => by rw [vd_up_ne (by omega)]; exact hO c hm (by omega) b) (by rw [vd_up_ne (by omega)]; exact h11)
    refine ⟨f2, b7, b8, fun d Q => ?_, fun q a b => ?_, fun c q hq => ?_⟩
    · rw [← p1 d Q, vd_S110_35 hM, h11]
      rcases hm with c0 | c0
      · have em : vd_mxv mix (Ov i) hv = hv := by unfold vd_mxv; rw [if_pos c0]
        rw [c0] at tl
        rw [em, c0]
        simp (disch := first | assumption | omega) only [vd_S110_44 hM, tl, c0, vd_S110_95 hM, vd_S110_100 hM, vd_S110_103 hM, vd_S110_138 hM, vd_S110_140 hM, hr, vd_vr_some, vd_I_toInt, c, eq_self, if_true, vd_shr7, vd_I_add, P103, n1, e1, vd_rs_v, vd_rs_n]
      · have ho := hO i c0 (Nat.le_refl _) (by omega)
        have hob := hOb i
        have em : vd_mxv mix (Ov i) hv = (Ov i + hv + 1) / 2 := by unfold vd_mxv; rw [if_neg (by omega)]
        rw [c0] at tl
        rw [em, c0]
        simp (disch := first | assumption | omega) only [vd_S110_44 hM, tl, c0, vd_S110_95 hM, vd_S110_100 hM, vd_S110_103 hM, vd_S110_118 hM, vd_S110_127 hM, vd_S110_140 hM, hr, vd_vr_some, vd_I_toInt, c, show ¬ ((1 : Int) = 0) by decide, if_true, if_false, vd_shr7, vd_shr1, vd_I_add, P103, n1, e1, ho, vd_rs_v, vd_rs_n]
    · by_cases cq : q = i
      · subst cq
        rw [p3 _ _ (by omega), vd_up_eq, hH]
      · exact p2 q (by omega) b
    · rw [p3 c q (by omega), vd_up_ne (by omega)]
theorem vd_L110j (hM : vd_SC M ow fa lo lf) (hp : vd_PC M p s) {V : Nat → Int} {R : Nat → Nat → Int} {Ov : Nat → Nat → Int} {first wide high left top : Nat} {mix : Int} (hpl : pl < 3) (h1 : first + 8 ≤ 256) (h2 : wide ≤ 64) (h3 : high ≤ 64) (hVb : ∀ t, -128 ≤ V t ∧ V t ≤ 128) (hRb : ∀ i t, 0 ≤ R i t ∧ R i t ≤ 255) (hOb : ∀ i j, 0 ≤ Ov i j ∧ Ov i j ≤ 255) (hm : mix = 0 ∨ mix = 1) (hrow : left + wide ≤ vd_sd pl) (hcol : top + high ≤ vd_sd pl) : ∀ (m j : Nat) (f : Nat → Nat → Int32) (a5 a6 a7 a8 : Value), j + m = high → (∀ t, t < 8 → f 57 (first + t) = vd_I (V t)) → (∀ c q, c < wide → q < high + 7 → f 59 (64 * q + c) = vd_I (R c q)) → (∀ i j', mix = 1 → i < wide → j ≤ j' → j' < high → f s (vd_ax pl (left + i) (top + j')) = vd_I (Ov i j')) → (f 54 8 = vd_I (pl : Int) ∧ f 54 9 = vd_I (left : Int) ∧ f 54 10 = vd_I (top : Int) ∧ f 54 11 = vd_I (wide : Int) ∧ f 54 12 = vd_I (high : Int)) → ∃ (f' : Nat → Nat → Int32), (∀ d Q, vd_wp (d + 1) 110 3 [.ref 54, .ref p, .int (vd_I (first : Int)), .int (vd_I mix), .int (vd_I (j : Int)), a5, a6, a7, a8] [] (vd_mf M f) Q = Q (vd_mf M f') (.inl none)) ∧ (∀ i j', i < wide → j ≤ j' → j' < high → f' s (vd_ax pl (left + i) (top + j')) = vd_I (vd_mxv mix (Ov i j') (vd_hr V (R i) j'))) ∧ (∀ c q, (c = s → ∀ i j', i < wide → j ≤ j' → j' < high → q ≠ vd_ax pl (left + i) (top + j')) → f' c q = f c q) := by
  obtain ⟨⟨hk, hr⟩, ⟨hks, hls⟩, hp1, hp2, hp3⟩ := id hp
  have hsd : vd_sd pl ≤ 192 := by unfold vd_sd; split <;> omega
  have hax : ∀ a b, a ≤ vd_sd pl → b < vd_sd pl → vd_ax pl 0 b + a ≤ 55296 := by
    intro a b ha hb
    unfold vd_ax
    unfold vd_sd at ha hb
    split
    · rename_i c
      rw [if_pos c] at ha hb
      omega
    · rename_i c
      rw [if_neg c] at ha hb
      omega
  intro m
  induction m with
  | zero =>
    intro j f a5 a6 a7 a8 hj hV hR hO hf
    refine ⟨f, fun d Q => ?_, fun i j' a b c => by omega, fun _ _ _ => rfl⟩
    have e : j = high := by omega
    subst e
    rw [vd_S110_3 hM, hf.2.2.2.2]
    simp (disch := omega) only [Int.lt_irrefl, if_false, vd_S110_153 hM]
  | succ m ih =>
    intro j f a5 a6 a7 a8 hj hV hR hO hf
    obtain ⟨f8, f9, f10, f11, f12⟩ := id hf
    have c : (j : Int) < (high : Int) := by omega
    have e1 : (j : Int) + 1 = ((j + 1 : Nat) : Int) := by omega
    have et : (top : Int) + (j : Int) = ((top + j : Nat) : Int) := by omega
    have P109 := fun (f : Nat → Nat → Int32) (d : Nat) (Q : vd_M → (Option Value ⊕ Nat) → Prop) => vd_P109 (x := left) (y := top + j) (f := f) (d := d) (Q := Q) hM hpl
    have ra : ∀ i, vd_ax pl left (top + j) + i = vd_ax pl (left + i) (top + j) := fun i => by rw [vd_ax_add pl (left + i), vd_ax_add pl left]; omega
    have rb := hax (left + wide) (top + j) hrow (by omega)
    have rc : vd_ax pl left (top + j) + wide ≤ 55296 := by rw [vd_ax_add]; omega
    obtain ⟨f1, b7, b8, p1, p2, p3⟩ := vd_L110i (Ov := fun i => Ov i j) (R := R) (V := V) (mix := mix) hM hp h1 h2 (show j < 64 by omega) hVb hRb (fun i => hOb i j) hm rc wide 0 f a7 a8 (by omega) hV (fun c t hc ht => hR c (j + t) hc (by omega)) (fun i hx _ hi => by rw [ra]; exact hO i j hx hi (Nat.le_refl _) (by omega)) f11
    have z0 : ((0 : Nat) : Int) = 0 := rfl
    rw [z0] at p1
    have ne : ∀ c q, c ≠ s → f1 c q = f c q := fun c q a => p3 c q (by omega)
    have nes : ∀ i j', i < wide → j' ≠ j → f1 s (vd_ax pl (left + i) (top + j')) = f s (vd_ax pl (left + i) (top + j')) := fun i j' hi hj' => p3 _ _ (by
      intro ⟨_, a, b⟩
      have ii : vd_ax pl (left + i) (top + j') = vd_ax pl (left + (vd_ax pl (left + i) (top + j') - vd_ax pl left (top + j))) (top + j) := by rw [← ra]; omega
      have := vd_ax_inj (by omega) (by omega) ii
      omega)
    obtain ⟨f2, q1, q2, q3⟩ := ih (j + 1) f1 (.int (vd_I ((vd_ax pl left (top + j) : Nat) : Int))) (.int (vd_I (wide : Int))) b7 b8 (by omega) (fun t ht => by rw [ne _ _ (by omega)]; exact hV t ht) (fun c q hc hq => by rw [ne _ _ (by omega)]; exact hR c q hc hq) (fun i j' hx hi a b => by rw [nes i j' hi (by omega)]; exact hO i j' hx hi (by omega) b) ⟨by rw [ne _ _ (by omega)]; exact f8, by rw [ne _ _ (by omega)]; exact f9, by rw [ne _ _ (by omega)]; exact f10, by rw [ne _ _ (by omega)]; exact f11, by rw [ne _ _ (by omega)]; exact f12⟩
    refine ⟨f2, fun d Q => ?_, fun i j' hi a b => ?_, fun c q hq => ?_⟩
    · rw [← q1 d Q, vd_S110_3 hM, f12]
      simp (disch := first | assumption | omega) only [vd_S110_12 hM, vd_S110_27 hM, vd_S110_30 hM, f8, f9, f10, vd_I_toInt, c, if_true, vd_I_add, et, P109, p1, vd_S110_147 hM, e1, vd_rs_v, vd_rs_n]
    · by_cases cj : j' = j
      · subst cj
        rw [q3 _ _ (fun _ i2 j2 hi2 a2 b2 e => by
          have := vd_ax_inj (by omega) (by omega) e
          omega), ← ra]
        exact p2 i (Nat.zero_le _) hi
      · exact q2 i j' hi (by omega) b
    · rw [q3 c q (fun e i j' hi a b => hq e i j' hi (by omega) b), p3 c q (fun ⟨e, a, b⟩ => hq e (q - vd_ax pl left (top + j)) j (by omega) (Nat.le_refl _) (by omega) (by rw [← ra]; omega))]
theorem vd_P110 (hM : vd_SC M ow fa lo lf) (hp : vd_PC M p s) {V : Nat → Int} {R : Nat → Nat → Int} {Ov : Nat → Nat → Int} {first wide high left top : Nat} {mix : Int} {f : Nat → Nat → Int32} (hpl : pl < 3) (h1 : first + 8 ≤ 256) (h2 : wide ≤ 64) (h3 : high ≤ 64) (hVb : ∀ t, -128 ≤ V t ∧ V t ≤ 128) (hRb : ∀ i t, 0 ≤ R i t ∧ R i t ≤ 255) (hOb : ∀ i j, 0 ≤ Ov i j ∧ Ov i j ≤ 255) (hm : mix = 0 ∨ mix = 1) (hrow : left + wide ≤ vd_sd pl) (hcol : top + high ≤ vd_sd pl) (hV : ∀ t, t < 8 → f 57 (first + t) = vd_I (V t)) (hR : ∀ c q, c < wide → q < high + 7 → f 59 (64 * q + c) = vd_I (R c q)) (hO : ∀ i j', mix = 1 → i < wide → j' < high → f s (vd_ax pl (left + i) (top + j')) = vd_I (Ov i j')) (hf : f 54 8 = vd_I (pl : Int) ∧ f 54 9 = vd_I (left : Int) ∧ f 54 10 = vd_I (top : Int) ∧ f 54 11 = vd_I (wide : Int) ∧ f 54 12 = vd_I (high : Int)) : ∃ (f' : Nat → Nat → Int32), (∀ d Q, vd_wp (d + 1) 110 0 [.ref 54, .ref p, .int (vd_I (first : Int)), .int (vd_I mix), vd_U, vd_U, vd_U, vd_U, vd_U] [] (vd_mf M f) Q = Q (vd_mf M f') (.inl none)) ∧ (∀ i j, i < wide → j < high → f' s (vd_ax pl (left + i) (top + j)) = vd_I (vd_mxv mix (Ov i j) (vd_hr V (R i) j))) ∧ (∀ c q, (c = s → ∀ i j', i < wide → j' < high → q ≠ vd_ax pl (left + i) (top + j')) → f' c q = f c q) := by
  obtain ⟨f', p1, p2, p3⟩ := vd_L110j (V := V) (R := R) (Ov := Ov) (mix := mix) (left := left) (top := top) hM hp hpl h1 h2 h3 hVb hRb hOb hm hrow hcol high 0 f vd_U vd_U vd_U vd_U (by omega) hV hR (fun i j' hx hi _ b => hO i j' hx hi b) hf
  refine ⟨f', fun d Q => ?_, fun i j a b => p2 i j a (by omega) b, fun c q hq => p3 c q fun e i j' a _ b => hq e i j' a b⟩
  rw [vd_S110_0 hM]
  exact p1 d Q
end VDME
