/-! ===== a square is predicted from what stands round it: loops ===== -/
def vd_pv (md mv : Int) (E : Int → Int) (n c r : Nat) : Int := if md = 0 then mv else vd_pm E n md c r
section VDPD
variable {M N : vd_M} {ow fa lo lf : Nat} {p s q pl n : Nat} {pw ph : Int} {E : Int → Int} {A L : Nat → Int} {cr : Int}
theorem vd_L126c (hM : vd_SC M ow fa lo lf) (hp : vd_PC M p s) (hn : 4 ≤ n ∧ n ≤ 32) (hEb : ∀ z, 0 ≤ E z ∧ E z ≤ 255) {row base : Nat} {md mv : Int} (m0 : 0 ≤ md ∧ md ≤ 9) (hr : row < n) (hb : base + n ≤ 55296) : ∀ (m c : Nat) (f : Nat → Nat → Int32), c + m = n → vd_EC n E f → f 52 5 = vd_I (n : Int) → ∃ (f' : Nat → Nat → Int32), (∀ d Q, vd_wp (d + 2) 126 48 [.ref 52, .ref p, .int (vd_I md), .int (vd_I mv), .int (vd_I (row : Int)), .int (vd_I (base : Int)), .int (vd_I (c : Int))] [] (vd_mf M f) Q = vd_wp (d + 2) 126 90 [.ref 52, .ref p, .int (vd_I md), .int (vd_I mv), .int (vd_I (row : Int)), .int (vd_I (base : Int)), .int (vd_I (n : Int))] [] (vd_mf M f') Q) ∧ (∀ c', c ≤ c' → c' < n → f' s (base + c') = vd_I (vd_pv md mv E n c' row)) ∧ (∀ k i, ¬ (k = s ∧ base + c ≤ i ∧ i < base + n) → f' k i = f k i) := by
  obtain ⟨⟨hk, hrs⟩, ⟨hks, hls⟩, hp1, hp2, hp3⟩ := id hp
  intro m
  induction m with
  | zero =>
    intro c f hc hE h5
    have e : c = n := by omega
    subst e
    refine ⟨f, fun d Q => ?_, fun c' a b => by omega, fun _ _ _ => rfl⟩
    rw [vd_S126_48 hM, h5]
    simp (disch := omega) only [Int.lt_irrefl, if_false]
  | succ m ih =>
    intro c f hc hE h5
    have cn : c < n := by omega
    have c1 : (c : Int) < (n : Int) := by omega
    have e1 : (c : Int) + 1 = ((c + 1 : Nat) : Int) := by omega
    have eb : (base : Int) + (c : Int) = ((base + c : Nat) : Int) := by omega
    have hcs : ∀ a, vd_cs [.int a, .ref s] ≤ 8 := fun _ => of_decide_eq_true rfl
    obtain ⟨f2, p1, p2, p3⟩ := ih (c + 1) (vd_up f s (base + c) (vd_I (vd_pv md mv E n c row))) (by omega) (fun z a b => by rw [vd_up_ne (by omega)]; exact hE z a b) (by rw [vd_up_ne (by omega)]; exact h5)
    refine ⟨f2, fun d Q => ?_, fun t a b => ?_, fun k i hk' => ?_⟩
    · rw [← p1 d Q, vd_S126_48 hM, h5]
      by_cases cm : md = 0
      · have ev : vd_pv md mv E n c row = mv := if_pos cm
        rw [ev]
        simp (disch := first | assumption | omega | exact hcs _) only [vd_S126_57 hM, vd_S126_70 hM, vd_S126_83 hM, hrs, vd_vr_some, vd_I_toInt, c1, cm, eq_self, if_true, vd_I_add, eb, Int.toNat_natCast, e1, vd_rs_v, vd_rs_n]
      · have ev : vd_pv md mv E n c row = vd_pm E n md c row := if_neg cm
        have P128 := vd_P128 hM hn hE hEb h5 (md := md) (by omega) m0.2 cn hr
        rw [ev]
        simp (disch := first | assumption | omega | exact hcs _) only [vd_S126_57 hM, vd_S126_74 hM, vd_S126_80 hM, P128, vd_S126_83 hM, hrs, vd_vr_some, vd_I_toInt, c1, cm, if_true, if_false, vd_I_add, eb, Int.toNat_natCast, e1, vd_rs_v, vd_rs_n]
    · by_cases ct : t = c
      · subst ct
        rw [p3 _ _ (by omega), vd_up_eq]
      · exact p2 t (by omega) b
    · rw [p3 k i (by omega), vd_up_ne (by omega)]
theorem vd_L126r (hM : vd_SC M ow fa lo lf) (hp : vd_PC M p s) (hn : 4 ≤ n ∧ n ≤ 32) (hEb : ∀ z, 0 ≤ E z ∧ E z ≤ 255) {x y : Nat} {md mv : Int} (m0 : 0 ≤ md ∧ md ≤ 9) (hpl : pl < 3) (hx : x + n ≤ vd_sd pl) (hy : y + n ≤ vd_sd pl) : ∀ (m r : Nat) (f : Nat → Nat → Int32) (a5 a6 : Value), r + m = n → vd_EC n E f → (f 52 2 = vd_I (pl : Int) ∧ f 52 3 = vd_I (x : Int) ∧ f 52 4 = vd_I (y : Int) ∧ f 52 5 = vd_I (n : Int)) → ∃ (f' : Nat → Nat → Int32), (∀ d Q, vd_wp (d + 2) 126 16 [.ref 52, .ref p, .int (vd_I md), .int (vd_I mv), .int (vd_I (r : Int)), a5, a6] [] (vd_mf M f) Q = Q (vd_mf M f') (.inl none)) ∧ (∀ c r', c < n → r ≤ r' → r' < n → f' s (vd_ax pl (x + c) (y + r')) = vd_I (vd_pv md mv E n c r')) ∧ (∀ k i, (k = s → ∀ c r', c < n → r ≤ r' → r' < n → i ≠ vd_ax pl (x + c) (y + r')) → f' k i = f k i) := by
  have hp' := hp.2.2
  have hsd : vd_sd pl ≤ 192 := by unfold vd_sd; split <;> omega
  have hax : ∀ a b, a ≤ vd_sd pl → b < vd_sd pl → vd_ax pl 0 b + a ≤ 55296 := by
    intro a b ha hb
    unfold vd_ax
    unfold vd_sd at ha hb
    split
    · rename_i c
      rw [if_pos c] at ha hb
      omega
    · rename_i c
      rw [if_neg c] at ha hb
      omega
  intro m
  induction m with
  | zero =>
    intro r f a5 a6 hr hE hf
    have e : r = n := by omega
    subst e
    refine ⟨f, fun d Q => ?_, fun c r' _ a b => by omega, fun _ _ _ => rfl⟩
    rw [vd_S126_16 hM, hf.2.2.2]
    simp (disch := omega) only [Int.lt_irrefl, if_false, vd_S126_96 hM]
  | succ m ih =>
    intro r f a5 a6 hr hE hf
    obtain ⟨f2', f3', f4', f5'⟩ := id hf
    have rn : r < n := by omega
    have c1 : (r : Int) < (n : Int) := by omega
    have e1 : (r : Int) + 1 = ((r + 1 : Nat) : Int) := by omega
    have ey : (y : Int) + (r : Int) = ((y + r : Nat) : Int) := by omega
    have P109 := fun (f : Nat → Nat → Int32) (d : Nat) (Q : vd_M → (Option Value ⊕ Nat) → Prop) => vd_P109 (x := x) (y := y + r) (f := f) (d := d) (Q := Q) hM hpl
    have ra : ∀ i, vd_ax pl x (y + r) + i = vd_ax pl (x + i) (y + r) := fun i => by rw [vd_ax_add pl (x + i), vd_ax_add pl x]; omega
    have rb := hax (x + n) (y + r) hx (by omega)
    have rc : vd_ax pl x (y + r) + n ≤ 55296 := by rw [vd_ax_add]; omega
    obtain ⟨f1, p1, p2, p3⟩ := vd_L126c (mv := mv) hM hp hn hEb m0 rn rc n 0 f (by omega) hE f5'
    have z0 : ((0 : Nat) : Int) = 0 := rfl
    rw [z0] at p1
    have ne : ∀ k i, k ≠ s → f1 k i = f k i := fun k i a => p3 k i (by omega)
    obtain ⟨f2, q1, q2, q3⟩ := ih (r + 1) f1 (.int (vd_I ((vd_ax pl x (y + r) : Nat) : Int))) (.int (vd_I (n : Int))) (by omega) (fun z a b => by rw [ne _ _ (by omega)]; exact hE z a b) ⟨by rw [ne _ _ (by omega)]; exact f2', by rw [ne _ _ (by omega)]; exact f3', by rw [ne _ _ (by omega)]; exact f4', by rw [ne _ _ (by omega)]; exact f5'⟩
    refine ⟨f2, fun d Q => ?_, fun c r' hc a b => ?_, fun k i hk => ?_⟩
    · rw [← q1 d Q, vd_S126_16 hM, f5']
      simp (disch := first | assumption | omega) only [vd_S126_25 hM, vd_S126_40 hM, vd_S126_43 hM, f2', f3', f4', vd_I_toInt, c1, if_true, vd_I_add, ey, P109, p1, vd_S126_90 hM, e1, vd_rs_v, vd_rs_n]
    · by_cases cr : r' = r
      · subst cr
        rw [q3 _ _ (fun _ c2 r2 hc2 a2 b2 e => by
          have := vd_ax_inj (by omega) (by omega) e
          omega), ← ra]
        exact p2 c (Nat.zero_le _) hc
      · exact q2 c r' hc (by omega) b
    · rw [q3 k i (fun e c r' hc a b => hk e c r' hc (by omega) b), p3 k i (fun ⟨e, a, b⟩ => hk e (i - vd_ax pl x (y + r)) r (by omega) (Nat.le_refl _) rn (by rw [← ra]; omega))]
theorem vd_L246i (hN : vd_SR N) (hq : vd_PD N q) (hnow : vd_r N 63 23 = some q) (hn : 4 ≤ n ∧ n ≤ 32) (hV : vd_EV n A L cr) {x y j : Nat} {md mv : Int} (m0 : 0 ≤ md ∧ md ≤ 9) (hmv : 0 ≤ mv ∧ mv ≤ 255) (hpl : pl < 3) (p0 : 1 ≤ pw ∧ pw ≤ 192) (hx : x + n ≤ vd_ws pl pw) (hj : j < n) (hy : y + j < vd_sd pl) : ∀ (m i : Nat) (g : Nat → Nat → Int32), i + m = n → g q 0 = vd_I pw → vd_ER n A L cr g → ∃ (g' : Nat → Nat → Int32), (∀ d Q, vd_wp (d + 4) 246 39 [.ref 63, .int (vd_I (pl : Int)), .int (vd_I (x : Int)), .int (vd_I (y : Int)), .int (vd_I (n : Int)), .int (vd_I md), .int (vd_I mv), .int (vd_I (j : Int)), .int (vd_I (i : Int))] [] (vd_mf N g) Q = vd_wp (d + 4) 246 87 [.ref 63, .int (vd_I (pl : Int)), .int (vd_I (x : Int)), .int (vd_I (y : Int)), .int (vd_I (n : Int)), .int (vd_I md), .int (vd_I mv), .int (vd_I (j : Int)), .int (vd_I (n : Int))] [] (vd_mf N g') Q) ∧ (∀ i', i ≤ i' → i' < n → g' (q + 2 + pl) ((y + j) * vd_ws pl pw + (x + i')) &&& vd_I 255 = vd_I (vd_pv md mv (vd_Ee A L cr) n i' j) ∧ g' (106 + pl) ((y + j) * vd_ws pl pw + (x + i')) = vd_I 1) ∧ (∀ c k, ¬ ((c = q + 2 + pl ∨ c = 106 + pl) ∧ (y + j) * vd_ws pl pw + (x + i) ≤ k ∧ k < (y + j) * vd_ws pl pw + (x + n)) → g' c k = g c k) := by
  have hq1 := hq.2.2.2
  have hk13 := hq.1.1
  have Eb := vd_Ee_b hV.1 hV.2.1 hV.2.2.1
  intro m
  induction m with
  | zero =>
    intro i g hi hw hE
    have e : i = n := by omega
    subst e
    refine ⟨g, fun d Q => ?_, fun c' a b => by omega, fun _ _ _ => rfl⟩
    rw [vd_S246_39 hN]
    simp (disch := omega) only [Int.lt_irrefl, if_false]
  | succ m ih =>
    intro i g hi hw hE
    have inn : i < n := by omega
    have c1 : (i : Int) < (n : Int) := by omega
    have e1 : (i : Int) + 1 = ((i + 1 : Nat) : Int) := by omega
    have ex : (x : Int) + (i : Int) = ((x + i : Nat) : Int) := by omega
    have ey : (y : Int) + (j : Int) = ((y + j : Nat) : Int) := by omega
    have P233 := fun (d : Nat) (Q : vd_M → (Option Value ⊕ Nat) → Prop) => vd_P233 (g := g) (v := vd_pv md mv (vd_Ee A L cr) n i j) (d := d) (Q := Q) hN hq hnow hw p0.1 p0.2 hpl (show x + i < vd_ws pl pw by omega) hy
    have pb : 0 ≤ vd_pv md mv (vd_Ee A L cr) n i j ∧ vd_pv md mv (vd_Ee A L cr) n i j ≤ 255 := by
      unfold vd_pv
      split
      · exact hmv
      · exact vd_pm_b Eb n md i j
    have ne : ∀ c k, ¬ ((c = q + 2 + pl ∨ c = 106 + pl) ∧ k = (y + j) * vd_ws pl pw + (x + i)) → vd_wr1 g q pl ((y + j) * vd_ws pl pw + (x + i)) (vd_pv md mv (vd_Ee A L cr) n i j) c k = g c k := fun c k h => by
      unfold vd_wr1
      rw [vd_up_ne (by omega), vd_up_ne (by omega)]
    obtain ⟨g2, p1, p2, p3⟩ := ih (i + 1) (vd_wr1 g q pl ((y + j) * vd_ws pl pw + (x + i)) (vd_pv md mv (vd_Ee A L cr) n i j)) (by omega) (by rw [ne _ _ (by omega)]; exact hw) ⟨fun j' h => by rw [ne _ _ (by omega)]; exact hE.1 j' h, fun j' h => by rw [ne _ _ (by omega)]; exact hE.2.1 j' h, by rw [ne _ _ (by omega)]; exact hE.2.2⟩
    refine ⟨g2, fun d Q => ?_, fun t a b => ?_, fun c k hk => ?_⟩
    · rw [← p1 d Q, vd_S246_39 hN]
      by_cases cm : md = 0
      · have ev : vd_pv md mv (vd_Ee A L cr) n i j = mv := if_pos cm
        rw [ev] at P233 ⊢
        simp (disch := first | assumption | omega) only [vd_S246_46 hN, vd_S246_61 hN, vd_S246_78 hN, vd_S246_81 hN, vd_I_toInt, c1, cm, eq_self, if_true, vd_I_add, ex, ey, P233, e1, vd_rs_v, vd_rs_n]
      · have ev : vd_pv md mv (vd_Ee A L cr) n i j = vd_pm (vd_Ee A L cr) n md i j := if_neg cm
        have P251 := vd_P251 hN hn hE hV (md := md) (by omega) m0.2 inn hj
        rw [ev] at P233 ⊢
        simp (disch := first | assumption | omega) only [vd_S246_46 hN, vd_S246_66 hN, vd_S246_75 hN, P251, vd_S246_78 hN, vd_S246_81 hN, vd_I_toInt, c1, cm, if_true, if_false, vd_I_add, ex, ey, P233, e1, vd_rs_v, vd_rs_n]
    · by_cases ct : t = i
      · subst ct
        rw [p3 _ _ (by omega), p3 _ _ (by omega)]
        unfold vd_wr1
        refine ⟨?_, vd_up_eq _ _ _ _⟩
        rw [vd_up_ne (by omega), vd_up_eq]
        exact vd_b8 pb.1 pb.2
      · exact p2 t (by omega) b
    · rw [p3 c k (by omega), ne c k (by omega)]
theorem vd_L246j (hN : vd_SR N) (hq : vd_PD N q) (hnow : vd_r N 63 23 = some q) (hn : 4 ≤ n ∧ n ≤ 32) (hV : vd_EV n A L cr) {x y : Nat} {md mv : Int} (m0 : 0 ≤ md ∧ md ≤ 9) (hmv : 0 ≤ mv ∧ mv ≤ 255) (hpl : pl < 3) (p0 : 1 ≤ pw ∧ pw ≤ 192) (hx : x + n ≤ vd_ws pl pw) (hy : y + n ≤ vd_sd pl) : ∀ (m j : Nat) (g : Nat → Nat → Int32) (a8 : Value), j + m = n → g q 0 = vd_I pw → vd_ER n A L cr g → ∃ (g' : Nat → Nat → Int32), (∀ d Q, vd_wp (d + 4) 246 29 [.ref 63, .int (vd_I (pl : Int)), .int (vd_I (x : Int)), .int (vd_I (y : Int)), .int (vd_I (n : Int)), .int (vd_I md), .int (vd_I mv), .int (vd_I (j : Int)), a8] [] (vd_mf N g) Q = Q (vd_mf N g') (.inl none)) ∧ (∀ i' j', i' < n → j ≤ j' → j' < n → g' (q + 2 + pl) ((y + j') * vd_ws pl pw + (x + i')) &&& vd_I 255 = vd_I (vd_pv md mv (vd_Ee A L cr) n i' j') ∧ g' (106 + pl) ((y + j') * vd_ws pl pw + (x + i')) = vd_I 1) ∧ (∀ c k, ((c = q + 2 + pl ∨ c = 106 + pl) → ∀ i' j', i' < n → j ≤ j' → j' < n → k ≠ (y + j') * vd_ws pl pw + (x + i')) → g' c k = g c k) := by
  have hq1 := hq.2.2.2
  intro m
  induction m with
  | zero =>
    intro j g a8 hj hw hE
    have e : j = n := by omega
    subst e
    refine ⟨g, fun d Q => ?_, fun c' j' _ a b => by omega, fun _ _ _ => rfl⟩
    rw [vd_S246_29 hN]
    simp (disch := omega) only [Int.lt_irrefl, if_false, vd_S246_93 hN]
  | succ m ih =>
    intro j g a8 hj hw hE
    have jn : j < n := by omega
    have c1 : (j : Int) < (n : Int) := by omega
    have e1 : (j : Int) + 1 = ((j + 1 : Nat) : Int) := by omega
    obtain ⟨g1, p1, p2, p3⟩ := vd_L246i (j := j) (mv := mv) hN hq hnow hn hV m0 hmv hpl p0 hx jn (show y + j < vd_sd pl by omega) n 0 g (by omega) hw hE
    have z0 : ((0 : Nat) : Int) = 0 := rfl
    rw [z0] at p1
    have ne : ∀ c k, c ≠ q + 2 + pl → c ≠ 106 + pl → g1 c k = g c k := fun c k a b => p3 c k (by omega)
    obtain ⟨g2, t1, t2, t3⟩ := ih (j + 1) g1 (.int (vd_I (n : Int))) (by omega) (by rw [ne _ _ (by omega) (by omega)]; exact hw) ⟨fun j' h => by rw [ne _ _ (by omega) (by omega)]; exact hE.1 j' h, fun j' h => by rw [ne _ _ (by omega) (by omega)]; exact hE.2.1 j' h, by rw [ne _ _ (by omega) (by omega)]; exact hE.2.2⟩
    refine ⟨g2, fun d Q => ?_, fun i' j' hi a b => ?_, fun c k hk => ?_⟩
    · rw [← t1 d Q, vd_S246_29 hN]
      simp (disch := omega) only [vd_S246_36 hN, p1, vd_S246_87 hN, vd_I_toInt, c1, if_true, vd_I_add, e1]
    · by_cases cj : j' = j
      · subst cj
        have nj : ∀ i2 j2, i2 < n → j' + 1 ≤ j2 → j2 < n → (y + j') * vd_ws pl pw + (x + i') ≠ (y + j2) * vd_ws pl pw + (x + i2) := fun i2 j2 hi2 a2 b2 e => by
          have := vd_rowi (ws := vd_ws pl pw) (y := y + j') (y' := y + j2) (t := x + i') (t' := x + i2) (by omega) (by omega) e
          omega
        rw [t3 _ _ (fun _ => nj), t3 _ _ (fun _ => nj)]
        exact p2 i' (Nat.zero_le _) hi
      · exact t2 i' j' hi (by omega) b
    · rw [t3 c k (fun e i' j' hi a b => hk e i' j' hi (by omega) b), p3 c k (fun ⟨e, a, b⟩ => hk e (k - ((y + j) * vd_ws pl pw + x)) j (by omega) (Nat.le_refl _) jn (by omega))]
end VDPD
