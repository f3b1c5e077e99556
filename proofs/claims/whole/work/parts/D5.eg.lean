/-! ===== what stands round a square: the class gathers it ===== -/
/-- how many cells in a row are written -/
def vd_lead (F : Nat → Int) : Nat → Nat → Nat
  | 0, t => t
  | m + 1, t => if F t = 0 then t else vd_lead F m (t + 1)
theorem vd_lead_b (F : Nat → Int) : ∀ m t : Nat, t ≤ vd_lead F m t ∧ vd_lead F m t ≤ t + m := by
  intro m
  induction m with
  | zero => intro t; simp only [vd_lead]; omega
  | succ m ih =>
    intro t
    have := ih (t + 1)
    simp only [vd_lead]
    split <;> omega
theorem vd_lead_in (F : Nat → Int) : ∀ m t u : Nat, t ≤ u → u < vd_lead F m t → F u ≠ 0 := by
  intro m
  induction m with
  | zero => intro t u a b; simp only [vd_lead] at b; omega
  | succ m ih =>
    intro t u a b
    simp only [vd_lead] at b
    split at b
    · omega
    · rename_i c
      by_cases e : u = t
      · rw [e]; exact c
      · exact ih (t + 1) u (by omega) b
theorem vd_lead_end (F : Nat → Int) : ∀ m t : Nat, vd_lead F m t < t + m → F (vd_lead F m t) = 0 := by
  intro m
  induction m with
  | zero => intro t a; simp only [vd_lead] at a; omega
  | succ m ih =>
    intro t a
    simp only [vd_lead] at a ⊢
    split
    · rename_i c; exact c
    · rename_i c
      rw [if_neg c] at a
      exact ih (t + 1) (by omega)
/-- samples as far as they are written, then the last one again -/
def vd_ed (kc : Nat) (S : Nat → Int) (d0 : Int) : Nat → Int
  | 0 => if 0 < kc then S 0 else d0
  | j + 1 => if j + 1 < kc then S (j + 1) else vd_ed kc S d0 j
def vd_la (kc : Nat) (S : Nat → Int) (d0 : Int) (j : Nat) : Int := if j = 0 then d0 else vd_ed kc S d0 (j - 1)
theorem vd_ed_la (kc : Nat) (S : Nat → Int) (d0 : Int) (j : Nat) : vd_ed kc S d0 j = if j < kc then S j else vd_la kc S d0 j := by
  cases j with
  | zero => rfl
  | succ j => rfl
theorem vd_la_s (kc : Nat) (S : Nat → Int) (d0 : Int) (j : Nat) : vd_la kc S d0 (j + 1) = vd_ed kc S d0 j := by
  unfold vd_la
  rw [if_neg (by omega)]
  rfl
theorem vd_ed_b {kc : Nat} {S : Nat → Int} {d0 : Int} (hS : ∀ j, 0 ≤ S j ∧ S j ≤ 255) (h0 : 0 ≤ d0 ∧ d0 ≤ 255) : ∀ j, 0 ≤ vd_ed kc S d0 j ∧ vd_ed kc S d0 j ≤ 255 := by
  intro j
  induction j with
  | zero =>
    simp only [vd_ed]
    split
    · exact hS 0
    · exact h0
  | succ j ih =>
    simp only [vd_ed]
    split
    · exact hS _
    · exact ih
theorem vd_ed_x {kc : Nat} {S : Nat → Int} {d0 : Int} {n : Nat} (hn : 1 ≤ n) (hk : kc ≤ n) : ∀ k, vd_ed kc S d0 (n + k) = vd_ed kc S d0 (n - 1) := by
  intro k
  induction k with
  | zero =>
    obtain ⟨m, rfl⟩ : ∃ m, n = m + 1 := ⟨n - 1, by omega⟩
    show vd_ed kc S d0 (m + 1) = vd_ed kc S d0 m
    simp only [vd_ed]
    rw [if_neg (by omega)]
  | succ k ih =>
    show vd_ed kc S d0 (n + k + 1) = _
    simp only [vd_ed]
    rw [if_neg (by omega)]
    exact ih
/-- the marks above and on the left -/
def vd_Fa (K : Nat → Nat → Nat → Int) (pl x y t : Nat) : Int := vd_mk K pl ((x + 4 * t : Nat) : Int) ((y : Int) - 1)
def vd_Fl (K : Nat → Nat → Nat → Int) (pl x y t : Nat) : Int := vd_mk K pl ((x : Int) - 1) ((y + 4 * t : Nat) : Int)
/-- how far what stands above and on the left is written -/
def vd_ka (K : Nat → Nat → Nat → Int) (pl x y n : Nat) : Nat := 4 * vd_lead (vd_Fa K pl x y) (n / 2) 0
def vd_kb (K : Nat → Nat → Nat → Int) (pl x y n : Nat) : Nat := 4 * vd_lead (vd_Fl K pl x y) (n / 4) 0
def vd_aA (P K : Nat → Nat → Nat → Int) (pl x y n : Nat) : Nat → Int := vd_ed (vd_ka K pl x y n) (fun j => P pl (x + j) (y - 1)) 127
def vd_aL (P K : Nat → Nat → Nat → Int) (pl x y n : Nat) : Nat → Int := vd_ed (vd_kb K pl x y n) (fun j => P pl (x - 1) (y + j)) 129
def vd_aC (P K : Nat → Nat → Nat → Int) (pl x y n : Nat) : Int := if vd_mk K pl ((x : Int) - 1) ((y : Int) - 1) = 0 then (if 0 < vd_ka K pl x y n then 129 else 127) else P pl (x - 1) (y - 1)
theorem vd_aE {P K : Nat → Nat → Nat → Int} (hP : ∀ pl x y, 0 ≤ P pl x y ∧ P pl x y ≤ 255) {pl x y n : Nat} (hn : vd_nn4 n) : vd_EV n (vd_aA P K pl x y n) (vd_aL P K pl x y n) (vd_aC P K pl x y n) := by
  have n32 : 4 ≤ n ∧ n ≤ 32 := by unfold vd_nn4 at hn; omega
  refine ⟨vd_ed_b (fun j => hP _ _ _) (by decide), vd_ed_b (fun j => hP _ _ _) (by decide), ?_, fun j hj => ?_⟩
  · unfold vd_aC
    split
    · split <;> decide
    · exact hP _ _ _
  · have hk : vd_kb K pl x y n ≤ n := by
      have := (vd_lead_b (vd_Fl K pl x y) (n / 4) 0).2
      unfold vd_kb
      omega
    obtain ⟨k, rfl⟩ : ∃ k, j = n + k := ⟨j - n, by omega⟩
    exact vd_ed_x (by omega) hk k
/-- where marks are, samples are -/
theorem vd_mk_in {W H : Nat} {pw ph : Int} {O : Nat → Nat → Option Nat} {P K : Nat → Nat → Nat → Int} (kv : vd_PKV W H pw ph O P K) (p0 : 1 ≤ pw ∧ pw ≤ 192) (q0 : 1 ≤ ph ∧ ph ≤ 192) {pl : Nat} {X Y : Int} (h : vd_mk K pl X Y ≠ 0) : 0 ≤ X ∧ 0 ≤ Y ∧ X < (vd_ws pl pw : Int) ∧ Y < (vd_ws pl ph : Int) ∧ X < 192 ∧ Y < 192 := by
  unfold vd_mk at h
  split at h
  · rename_i c
    have k0 := kv.2.2.1 pl (X.toNat / 4) (Y.toNat / 4)
    have w4 : vd_ws pl pw % 4 = 0 := by unfold vd_ws; split <;> omega
    have h4 : vd_ws pl ph % 4 = 0 := by unfold vd_ws; split <;> omega
    by_cases e : 4 * (X.toNat / 4) < vd_ws pl pw ∧ 4 * (Y.toNat / 4) < vd_ws pl ph
    · omega
    · exact absurd (k0 e) h
  · exact absurd rfl h
section VDEG
variable {M : vd_M} {ow fa lo lf W H p s pl n : Nat} {pw ph : Int} {O : Nat → Nat → Option Nat} {P K : Nat → Nat → Nat → Int}
theorem vd_L124k (hM : vd_SC M ow fa lo lf) {f : Nat → Nat → Int32} (hk : vd_KC K f) (hK : ∀ pl a b, K pl a b = 0 ∨ K pl a b = 1 ∨ K pl a b = 2) (hpl : pl < 3) (hn : vd_nn4 n) {x y : Nat} (hx : x < 192) (hy : y < 192) (f2 : f 52 2 = vd_I (pl : Int)) (f3 : f 52 3 = vd_I (x : Int)) (f4 : f 52 4 = vd_I (y : Int)) (f5 : f 52 5 = vd_I (n : Int)) (o1 : Nat) (a3 a4 : Value) (d : Nat) (Q : vd_M → (Option Value ⊕ Nat) → Prop) : ∀ (m t : Nat), t + m = n / 2 → vd_wp (d + 1) 124 2 [.ref 52, .ref o1, .int (vd_I (4 * (t : Int))), a3, a4] [] (vd_mf M f) Q = vd_wp (d + 1) 124 44 [.ref 52, .ref o1, .int (vd_I (4 * ((vd_lead (vd_Fa K pl x y) m t : Nat) : Int))), a3, a4] [] (vd_mf M f) Q := by
  have n32 : 4 ≤ n ∧ n ≤ 32 ∧ n % 4 = 0 := by unfold vd_nn4 at hn; omega
  intro m
  induction m with
  | zero =>
    intro t ht
    have c : ¬ (4 * (t : Int) < 2 * (n : Int)) := by omega
    rw [vd_S124_2 hM, f5]
    simp (disch := omega) only [vd_I_mul, vd_I_toInt, c, if_false, vd_lead]
  | succ m ih =>
    intro t ht
    have c : 4 * (t : Int) < 2 * (n : Int) := by omega
    have ex : (x : Int) + 4 * (t : Int) = ((x + 4 * t : Nat) : Int) := by omega
    have P118 := vd_P118 hM hk hpl (x := ((x + 4 * t : Nat) : Int)) (y := (y : Int) - 1) (by omega) (by omega) (by omega) (by omega)
    have mv := vd_mk_v hK pl ((x + 4 * t : Nat) : Int) ((y : Int) - 1)
    have eF : vd_Fa K pl x y t = vd_mk K pl ((x + 4 * t : Nat) : Int) ((y : Int) - 1) := rfl
    rw [← eF] at P118 mv
    have e4 : 4 * (t : Int) + 4 = 4 * ((t + 1 : Nat) : Int) := by omega
    by_cases cz : vd_Fa K pl x y t = 0
    · have el : vd_lead (vd_Fa K pl x y) (m + 1) t = t := by simp only [vd_lead]; rw [if_pos cz]
      rw [el, vd_S124_2 hM, f5]
      simp (disch := omega) only [vd_S124_12 hM, vd_S124_32 hM, vd_S124_35 hM, f2, f3, f4, vd_I_mul, vd_I_sub, vd_I_add, ex, vd_I_toInt, c, if_true, P118, cz, eq_self, vd_rs_v, vd_rs_n]
    · have el : vd_lead (vd_Fa K pl x y) (m + 1) t = vd_lead (vd_Fa K pl x y) m (t + 1) := by simp only [vd_lead]; rw [if_neg cz]
      rw [el, ← ih (t + 1) (by omega), vd_S124_2 hM, f5]
      simp (disch := omega) only [vd_S124_12 hM, vd_S124_32 hM, vd_S124_35 hM, vd_S124_38 hM, f2, f3, f4, vd_I_mul, vd_I_sub, vd_I_add, ex, vd_I_toInt, c, if_true, if_false, P118, cz, e4, vd_rs_v, vd_rs_n]
theorem vd_L125k (hM : vd_SC M ow fa lo lf) {f : Nat → Nat → Int32} (hk : vd_KC K f) (hK : ∀ pl a b, K pl a b = 0 ∨ K pl a b = 1 ∨ K pl a b = 2) (hpl : pl < 3) (hn : vd_nn4 n) {x y : Nat} (hx : x < 192) (hy : y < 192) (f2 : f 52 2 = vd_I (pl : Int)) (f3 : f 52 3 = vd_I (x : Int)) (f4 : f 52 4 = vd_I (y : Int)) (f5 : f 52 5 = vd_I (n : Int)) (o1 : Nat) (a3 a4 : Value) (d : Nat) (Q : vd_M → (Option Value ⊕ Nat) → Prop) : ∀ (m t : Nat), t + m = n / 4 → vd_wp (d + 1) 125 2 [.ref 52, .ref o1, .int (vd_I (4 * (t : Int))), a3, a4] [] (vd_mf M f) Q = vd_wp (d + 1) 125 42 [.ref 52, .ref o1, .int (vd_I (4 * ((vd_lead (vd_Fl K pl x y) m t : Nat) : Int))), a3, a4] [] (vd_mf M f) Q := by
  have n32 : 4 ≤ n ∧ n ≤ 32 ∧ n % 4 = 0 := by unfold vd_nn4 at hn; omega
  intro m
  induction m with
  | zero =>
    intro t ht
    have c : ¬ (4 * (t : Int) < (n : Int)) := by omega
    rw [vd_S125_2 hM, f5]
    simp (disch := omega) only [vd_I_toInt, c, if_false, vd_lead]
  | succ m ih =>
    intro t ht
    have c : 4 * (t : Int) < (n : Int) := by omega
    have ex : (y : Int) + 4 * (t : Int) = ((y + 4 * t : Nat) : Int) := by omega
    have P118 := vd_P118 hM hk hpl (x := (x : Int) - 1) (y := ((y + 4 * t : Nat) : Int)) (by omega) (by omega) (by omega) (by omega)
    have mv := vd_mk_v hK pl ((x : Int) - 1) ((y + 4 * t : Nat) : Int)
    have eF : vd_Fl K pl x y t = vd_mk K pl ((x : Int) - 1) ((y + 4 * t : Nat) : Int) := rfl
    rw [← eF] at P118 mv
    have e4 : 4 * (t : Int) + 4 = 4 * ((t + 1 : Nat) : Int) := by omega
    by_cases cz : vd_Fl K pl x y t = 0
    · have el : vd_lead (vd_Fl K pl x y) (m + 1) t = t := by simp only [vd_lead]; rw [if_pos cz]
      rw [el, vd_S125_2 hM, f5]
      simp (disch := omega) only [vd_S125_10 hM, vd_S125_30 hM, vd_S125_33 hM, f2, f3, f4, vd_I_sub, vd_I_add, ex, vd_I_toInt, c, if_true, P118, cz, eq_self, vd_rs_v, vd_rs_n]
    · have el : vd_lead (vd_Fl K pl x y) (m + 1) t = vd_lead (vd_Fl K pl x y) m (t + 1) := by simp only [vd_lead]; rw [if_neg cz]
      rw [el, ← ih (t + 1) (by omega), vd_S125_2 hM, f5]
      simp (disch := omega) only [vd_S125_10 hM, vd_S125_30 hM, vd_S125_33 hM, vd_S125_36 hM, f2, f3, f4, vd_I_sub, vd_I_add, ex, vd_I_toInt, c, if_true, if_false, P118, cz, e4, vd_rs_v, vd_rs_n]
theorem vd_L124j (hM : vd_SC M ow fa lo lf) (hp : vd_PC M p s) (hpl : pl < 3) (hn : vd_nn4 n) {x y kc : Nat} {S : Nat → Int} (hx : x < 192) (hy : y < 192) (hS : ∀ j, j < kc → j < 2 * n → 1 ≤ y ∧ x + j < vd_sd pl) (hy2 : y ≤ vd_sd pl) (hk2 : kc ≤ 1000) : ∀ (m j : Nat) (f : Nat → Nat → Int32), j + m = 2 * n → (f 52 2 = vd_I (pl : Int) ∧ f 52 3 = vd_I (x : Int) ∧ f 52 4 = vd_I (y : Int) ∧ f 52 5 = vd_I (n : Int)) → (∀ j', j ≤ j' → j' < kc → j' < 2 * n → f s (vd_ax pl (x + j') (y - 1)) = vd_I (S j')) → ∃ (f' : Nat → Nat → Int32), (∀ d Q, vd_wp (d + 1) 124 63 [.ref 52, .ref s, .int (vd_I (kc : Int)), .int (vd_I (vd_la kc S 127 j)), .int (vd_I (j : Int))] [] (vd_mf M f) Q = Q (vd_mf M f') (.inl none)) ∧ (∀ j', j ≤ j' → j' < 2 * n → f' 53 (65 + j') = vd_I (vd_ed kc S 127 j')) ∧ (∀ c i, ¬ (c = 53 ∧ 65 + j ≤ i) → f' c i = f c i) := by
  have n32 : 4 ≤ n ∧ n ≤ 32 ∧ n % 4 = 0 := by unfold vd_nn4 at hn; omega
  obtain ⟨⟨hk7, hrs⟩, ⟨hks, hls⟩, hp1, hp2, hp3⟩ := id hp
  have hax : ∀ a b, a < vd_sd pl → b < vd_sd pl → vd_ax pl a b < 55296 := by
    intro a b ha hb
    unfold vd_ax
    unfold vd_sd at ha hb
    split
    · rename_i c
      rw [if_pos c] at ha hb
      omega
    · rename_i c
      rw [if_neg c] at ha hb
      omega
  intro m
  induction m with
  | zero =>
    intro j f hj hf hS2
    have c : ¬ ((j : Int) < 2 * (n : Int)) := by omega
    refine ⟨f, fun d Q => ?_, fun j' a b => by omega, fun _ _ _ => rfl⟩
    rw [vd_S124_63 hM, hf.2.2.2]
    simp (disch := omega) only [vd_I_mul, vd_I_toInt, c, if_false, vd_S124_124 hM]
  | succ m ih =>
    intro j f hj hf hS2
    obtain ⟨f2, f3, f4, f5⟩ := id hf
    have c : (j : Int) < 2 * (n : Int) := by omega
    have e1 : (j : Int) + 1 = ((j + 1 : Nat) : Int) := by omega
    have n1 : (65 + (j : Int)).toNat = 65 + j := by omega
    obtain ⟨f9, q1, q2, q3⟩ := ih (j + 1) (vd_up f 53 (65 + j) (vd_I (vd_ed kc S 127 j))) (by omega) ⟨by rw [vd_up_ne (by omega)]; exact f2, by rw [vd_up_ne (by omega)]; exact f3, by rw [vd_up_ne (by omega)]; exact f4, by rw [vd_up_ne (by omega)]; exact f5⟩ (fun j' a b e => by rw [vd_up_ne (by omega)]; exact hS2 j' (by omega) b e)
    rw [vd_la_s] at q1
    refine ⟨f9, fun d Q => ?_, fun j' a b => ?_, fun k i hk => ?_⟩
    · rw [← q1 d Q, vd_S124_63 hM, f5]
      by_cases cj : j < kc
      · have cj' : (j : Int) < (kc : Int) := by omega
        obtain ⟨y1, xj⟩ := hS j cj (by omega)
        have ey : (y : Int) - 1 = ((y - 1 : Nat) : Int) := by omega
        have ex : (x : Int) + (j : Int) = ((x + j : Nat) : Int) := by omega
        have sv := hS2 j (Nat.le_refl _) cj (by omega)
        have ab := hax (x + j) (y - 1) xj (by omega)
        have P109 := fun (f : Nat → Nat → Int32) (d : Nat) (Q : vd_M → (Option Value ⊕ Nat) → Prop) => vd_P109 (x := x + j) (y := y - 1) (f := f) (d := d) (Q := Q) hM hpl
        have ee : vd_ed kc S 127 j = S j := by rw [vd_ed_la, if_pos cj]
        rw [ee]
        simp (disch := first | assumption | omega) only [vd_S124_74 hM, vd_S124_80 hM, vd_S124_98 hM, vd_S124_101 hM, vd_S124_106 hM, vd_S124_117 hM, f2, f3, f4, vd_I_mul, vd_I_sub, vd_I_add, ex, ey, vd_I_toInt, c, cj', if_true, P109, Int.toNat_natCast, sv, n1, e1, vd_rs_v, vd_rs_n]
      · have cj' : ¬ ((j : Int) < (kc : Int)) := by omega
        have ee : vd_ed kc S 127 j = vd_la kc S 127 j := by rw [vd_ed_la, if_neg cj]
        rw [ee]
        simp (disch := first | assumption | omega) only [vd_S124_74 hM, vd_S124_105 hM, vd_S124_106 hM, vd_S124_117 hM, vd_I_mul, vd_I_add, vd_I_toInt, c, cj', if_true, if_false, n1, e1]
    · by_cases cj : j' = j
      · subst cj
        rw [q3 _ _ (by omega), vd_up_eq]
      · exact q2 j' (by omega) b
    · rw [q3 k i (by omega), vd_up_ne (by omega)]
theorem vd_L125j (hM : vd_SC M ow fa lo lf) (hp : vd_PC M p s) (hpl : pl < 3) (hn : vd_nn4 n) {x y kc : Nat} {S : Nat → Int} (hx : x < 192) (hy : y < 192) (hS : ∀ j, j < kc → j < 2 * n → 1 ≤ x ∧ y + j < vd_sd pl) (hx2 : x ≤ vd_sd pl) (hk2 : kc ≤ 1000) : ∀ (m j : Nat) (f : Nat → Nat → Int32), j + m = 2 * n → (f 52 2 = vd_I (pl : Int) ∧ f 52 3 = vd_I (x : Int) ∧ f 52 4 = vd_I (y : Int) ∧ f 52 5 = vd_I (n : Int)) → (∀ j', j ≤ j' → j' < kc → j' < 2 * n → f s (vd_ax pl (x - 1) (y + j')) = vd_I (S j')) → ∃ (f' : Nat → Nat → Int32), (∀ d Q, vd_wp (d + 1) 125 62 [.ref 52, .ref s, .int (vd_I (kc : Int)), .int (vd_I (vd_la kc S 129 j)), .int (vd_I (j : Int))] [] (vd_mf M f) Q = Q (vd_mf M f') (.inl none)) ∧ (∀ j', j ≤ j' → j' < 2 * n → f' 53 (63 - j') = vd_I (vd_ed kc S 129 j')) ∧ (∀ c i, ¬ (c = 53 ∧ i + j ≤ 63) → f' c i = f c i) := by
  have n32 : 4 ≤ n ∧ n ≤ 32 ∧ n % 4 = 0 := by unfold vd_nn4 at hn; omega
  obtain ⟨⟨hk7, hrs⟩, ⟨hks, hls⟩, hp1, hp2, hp3⟩ := id hp
  have hax : ∀ a b, a < vd_sd pl → b < vd_sd pl → vd_ax pl a b < 55296 := by
    intro a b ha hb
    unfold vd_ax
    unfold vd_sd at ha hb
    split
    · rename_i c
      rw [if_pos c] at ha hb
      omega
    · rename_i c
      rw [if_neg c] at ha hb
      omega
  intro m
  induction m with
  | zero =>
    intro j f hj hf hS2
    have c : ¬ ((j : Int) < 2 * (n : Int)) := by omega
    refine ⟨f, fun d Q => ?_, fun j' a b => by omega, fun _ _ _ => rfl⟩
    rw [vd_S125_62 hM, hf.2.2.2]
    simp (disch := omega) only [vd_I_mul, vd_I_toInt, c, if_false, vd_S125_123 hM]
  | succ m ih =>
    intro j f hj hf hS2
    obtain ⟨f2, f3, f4, f5⟩ := id hf
    have c : (j : Int) < 2 * (n : Int) := by omega
    have e1 : (j : Int) + 1 = ((j + 1 : Nat) : Int) := by omega
    have n1 : (63 - (j : Int)).toNat = 63 - j := by omega
    obtain ⟨f9, q1, q2, q3⟩ := ih (j + 1) (vd_up f 53 (63 - j) (vd_I (vd_ed kc S 129 j))) (by omega) ⟨by rw [vd_up_ne (by omega)]; exact f2, by rw [vd_up_ne (by omega)]; exact f3, by rw [vd_up_ne (by omega)]; exact f4, by rw [vd_up_ne (by omega)]; exact f5⟩ (fun j' a b e => by rw [vd_up_ne (by omega)]; exact hS2 j' (by omega) b e)
    rw [vd_la_s] at q1
    refine ⟨f9, fun d Q => ?_, fun j' a b => ?_, fun k i hk => ?_⟩
    · rw [← q1 d Q, vd_S125_62 hM, f5]
      by_cases cj : j < kc
      · have cj' : (j : Int) < (kc : Int) := by omega
        obtain ⟨x1, yj⟩ := hS j cj (by omega)
        have ex : (x : Int) - 1 = ((x - 1 : Nat) : Int) := by omega
        have ey : (y : Int) + (j : Int) = ((y + j : Nat) : Int) := by omega
        have sv := hS2 j (Nat.le_refl _) cj (by omega)
        have ab := hax (x - 1) (y + j) (by omega) yj
        have P109 := fun (f : Nat → Nat → Int32) (d : Nat) (Q : vd_M → (Option Value ⊕ Nat) → Prop) => vd_P109 (x := x - 1) (y := y + j) (f := f) (d := d) (Q := Q) hM hpl
        have ee : vd_ed kc S 129 j = S j := by rw [vd_ed_la, if_pos cj]
        rw [ee]
        simp (disch := first | assumption | omega) only [vd_S125_73 hM, vd_S125_79 hM, vd_S125_97 hM, vd_S125_100 hM, vd_S125_105 hM, vd_S125_116 hM, f2, f3, f4, vd_I_mul, vd_I_sub, vd_I_add, ex, ey, vd_I_toInt, c, cj', if_true, P109, Int.toNat_natCast, sv, n1, e1, vd_rs_v, vd_rs_n]
      · have cj' : ¬ ((j : Int) < (kc : Int)) := by omega
        have ee : vd_ed kc S 129 j = vd_la kc S 129 j := by rw [vd_ed_la, if_neg cj]
        rw [ee]
        simp (disch := first | assumption | omega) only [vd_S125_73 hM, vd_S125_104 hM, vd_S125_105 hM, vd_S125_116 hM, vd_I_mul, vd_I_add, vd_I_sub, vd_I_toInt, c, cj', if_true, if_false, n1, e1]
    · by_cases cj : j' = j
      · subst cj
        rw [q3 _ _ (by omega), vd_up_eq]
      · exact q2 j' (by omega) b
    · rw [q3 k i (by omega), vd_up_ne (by omega)]
end VDEG
