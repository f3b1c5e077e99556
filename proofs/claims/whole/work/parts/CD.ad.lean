/-! ===== numbers are added: loops ===== -/
section VDAD
variable {M N : vd_M} {ow fa lo lf : Nat} {p s q pl n : Nat} {pw ph : Int}
theorem vd_L131c (hM : vd_SC M ow fa lo lf) (hp : vd_PC M p s) (hn : 1 ≤ n ∧ n ≤ 32) {row base : Nat} {Pv : Nat → Int} {D : Nat → Int32} (hr : row < n) (hb : base + n ≤ 55296) (x2 : Int32) : ∀ (m c : Nat) (f : Nat → Nat → Int32) (a7 : Value), c + m = n → (∀ c', c ≤ c' → c' < n → f s (base + c') = vd_I (Pv c')) → (∀ k, k < n * n → f 49 k = D k) → ∃ (f' : Nat → Nat → Int32) (b7 : Value), (∀ d Q, vd_wp (d + 1) 131 100 [.ref 45, .ref p, .int x2, .int (vd_I (n : Int)), .int (vd_I (row : Int)), .int (vd_I (base : Int)), .int (vd_I (c : Int)), a7] [] (vd_mf M f) Q = vd_wp (d + 1) 131 152 [.ref 45, .ref p, .int x2, .int (vd_I (n : Int)), .int (vd_I (row : Int)), .int (vd_I (base : Int)), .int (vd_I (n : Int)), b7] [] (vd_mf M f') Q) ∧ (∀ c', c ≤ c' → c' < n → f' s (base + c') = vd_I (vd_cl (vd_I (Pv c') + D (row * n + c')))) ∧ (∀ k i, ¬ (k = s ∧ base + c ≤ i ∧ i < base + n) → f' k i = f k i) := by
  obtain ⟨⟨hk, hrs⟩, ⟨hks, hls⟩, hp1, hp2, hp3⟩ := id hp
  have nq : n * n ≤ 1024 := Nat.mul_le_mul hn.2 hn.2
  intro m
  induction m with
  | zero =>
    intro c f a7 hc hS hD
    have e : c = n := by omega
    subst e
    refine ⟨f, a7, fun d Q => ?_, fun c' a b => by omega, fun _ _ _ => rfl⟩
    rw [vd_S131_100 hM]
    simp (disch := omega) only [Int.lt_irrefl, if_false]
  | succ m ih =>
    intro c f a7 hc hS hD
    have cn : c < n := by omega
    have c1 : (c : Int) < (n : Int) := by omega
    have e1 : (c : Int) + 1 = ((c + 1 : Nat) : Int) := by omega
    have eb : (base : Int) + (c : Int) = ((base + c : Nat) : Int) := by omega
    have kn := vd_kn (n := n) (k := row) (c := c) hr cn
    have sv := hS c (Nat.le_refl _) cn
    have dv := hD _ kn
    have P103 := vd_clC hM (vd_I (Pv c) + D (row * n + c))
    have hcs : ∀ a, vd_cs [.int a, .ref s] ≤ 8 := fun _ => of_decide_eq_true rfl
    obtain ⟨f2, b7, p1, p2, p3⟩ := ih (c + 1) (vd_up f s (base + c) (vd_I (vd_cl (vd_I (Pv c) + D (row * n + c))))) (.int (vd_I (Pv c) + D (row * n + c))) (by omega) (fun c' a b => by rw [vd_up_ne (by omega)]; exact hS c' (by omega) b) (fun k hk' => by rw [vd_up_ne (by omega)]; exact hD k hk')
    refine ⟨f2, b7, fun d Q => ?_, fun t a b => ?_, fun k i hk' => ?_⟩
    · rw [← p1 d Q, vd_S131_100 hM]
      simp (disch := first | assumption | omega | exact hcs _) only [vd_S131_106 hM, vd_S131_115 hM, vd_S131_127 hM, vd_S131_142 hM, vd_S131_145 hM, hrs, vd_vr_some, vd_I_toInt, c1, if_true, vd_I_mul, vd_I_add, eb, vd_ixK, Int.toNat_natCast, sv, dv, P103, e1, vd_rs_v, vd_rs_n]
    · by_cases ct : t = c
      · subst ct
        rw [p3 _ _ (by omega), vd_up_eq]
      · exact p2 t (by omega) b
    · rw [p3 k i (by omega), vd_up_ne (by omega)]
theorem vd_L131r (hM : vd_SC M ow fa lo lf) (hp : vd_PC M p s) (hn : 1 ≤ n ∧ n ≤ 32) {x y : Nat} {P : Nat → Nat → Int} {D : Nat → Int32} (hpl : pl < 3) (hx : x + n ≤ vd_sd pl) (hy : y + n ≤ vd_sd pl) (x2 : Int32) : ∀ (m r : Nat) (f : Nat → Nat → Int32) (a5 a6 a7 : Value), r + m = n → (∀ c r', c < n → r ≤ r' → r' < n → f s (vd_ax pl (x + c) (y + r')) = vd_I (P (x + c) (y + r'))) → (∀ k, k < n * n → f 49 k = D k) → (f 45 11 = vd_I (pl : Int) ∧ f 45 12 = vd_I (x : Int) ∧ f 45 13 = vd_I (y : Int)) → ∃ (f' : Nat → Nat → Int32), (∀ d Q, vd_wp (d + 1) 131 71 [.ref 45, .ref p, .int x2, .int (vd_I (n : Int)), .int (vd_I (r : Int)), a5, a6, a7] [] (vd_mf M f) Q = Q (vd_mf M f') (.inl none)) ∧ (∀ c r', c < n → r ≤ r' → r' < n → f' s (vd_ax pl (x + c) (y + r')) = vd_I (vd_cl (vd_I (P (x + c) (y + r')) + D (r' * n + c)))) ∧ (∀ k i, (k = s → ∀ c r', c < n → r ≤ r' → r' < n → i ≠ vd_ax pl (x + c) (y + r')) → f' k i = f k i) := by
  have hp' := hp.2.2
  have hsd : vd_sd pl ≤ 192 := by unfold vd_sd; split <;> omega
  have hax : ∀ a b, a ≤ vd_sd pl → b < vd_sd pl → vd_ax pl 0 b + a ≤ 55296 := by
    intro a b ha hb
    unfold vd_ax
    unfold vd_sd at ha hb
    split
    · rename_i c
      rw [if_pos c] at ha hb
      omega
    · rename_i c
      rw [if_neg c] at ha hb
      omega
  intro m
  induction m with
  | zero =>
    intro r f a5 a6 a7 hr hS hD hf
    have e : r = n := by omega
    subst e
    refine ⟨f, fun d Q => ?_, fun c r' _ a b => by omega, fun _ _ _ => rfl⟩
    rw [vd_S131_71 hM]
    simp (disch := omega) only [Int.lt_irrefl, if_false, vd_S131_158 hM]
  | succ m ih =>
    intro r f a5 a6 a7 hr hS hD hf
    obtain ⟨f11, f12, f13⟩ := id hf
    have rn : r < n := by omega
    have c1 : (r : Int) < (n : Int) := by omega
    have e1 : (r : Int) + 1 = ((r + 1 : Nat) : Int) := by omega
    have ey : (y : Int) + (r : Int) = ((y + r : Nat) : Int) := by omega
    have P109 := fun (f : Nat → Nat → Int32) (d : Nat) (Q : vd_M → (Option Value ⊕ Nat) → Prop) => vd_P109 (x := x) (y := y + r) (f := f) (d := d) (Q := Q) hM hpl
    have ra : ∀ i, vd_ax pl x (y + r) + i = vd_ax pl (x + i) (y + r) := fun i => by rw [vd_ax_add pl (x + i), vd_ax_add pl x]; omega
    have rb := hax (x + n) (y + r) hx (by omega)
    have rc : vd_ax pl x (y + r) + n ≤ 55296 := by rw [vd_ax_add]; omega
    obtain ⟨f1, b7, p1, p2, p3⟩ := vd_L131c (Pv := fun c => P (x + c) (y + r)) (D := D) hM hp hn rn rc x2 n 0 f a7 (by omega) (fun c' _ b => by rw [ra]; exact hS c' r b (Nat.le_refl _) rn) hD
    have z0 : ((0 : Nat) : Int) = 0 := rfl
    rw [z0] at p1
    have ne : ∀ k i, k ≠ s → f1 k i = f k i := fun k i a => p3 k i (by omega)
    have nes : ∀ c r', c < n → r' < n → r' ≠ r → f1 s (vd_ax pl (x + c) (y + r')) = f s (vd_ax pl (x + c) (y + r')) := fun c r' hc hr' hne => p3 _ _ (by
      intro ⟨_, a, b⟩
      have ii : vd_ax pl (x + c) (y + r') = vd_ax pl (x + (vd_ax pl (x + c) (y + r') - vd_ax pl x (y + r))) (y + r) := by rw [← ra]; omega
      have := vd_ax_inj (by omega) (by omega) ii
      omega)
    obtain ⟨f2, q1, q2, q3⟩ := ih (r + 1) f1 (.int (vd_I ((vd_ax pl x (y + r) : Nat) : Int))) (.int (vd_I (n : Int))) b7 (by omega) (fun c r' hc a b => by rw [nes c r' hc b (by omega)]; exact hS c r' hc (by omega) b) (fun k hk => by rw [ne _ _ (by omega)]; exact hD k hk) ⟨by rw [ne _ _ (by omega)]; exact f11, by rw [ne _ _ (by omega)]; exact f12, by rw [ne _ _ (by omega)]; exact f13⟩
    refine ⟨f2, fun d Q => ?_, fun c r' hc a b => ?_, fun k i hk => ?_⟩
    · rw [← q1 d Q, vd_S131_71 hM]
      simp (disch := first | assumption | omega) only [vd_S131_77 hM, vd_S131_92 hM, vd_S131_95 hM, f11, f12, f13, vd_I_toInt, c1, if_true, vd_I_add, ey, P109, p1, vd_S131_152 hM, e1, vd_rs_v, vd_rs_n]
    · by_cases cr : r' = r
      · subst cr
        rw [q3 _ _ (fun _ c2 r2 hc2 a2 b2 e => by
          have := vd_ax_inj (by omega) (by omega) e
          omega), ← ra]
        exact p2 c (Nat.zero_le _) hc
      · exact q2 c r' hc (by omega) b
    · rw [q3 k i (fun e c r' hc a b => hk e c r' hc (by omega) b), p3 k i (fun ⟨e, a, b⟩ => hk e (i - vd_ax pl x (y + r)) r (by omega) (Nat.le_refl _) rn (by rw [← ra]; omega))]
theorem vd_L258i (hN : vd_SR N) (hq : vd_PD N q) (hnow : vd_r N 63 23 = some q) (hn : 1 ≤ n ∧ n ≤ 32) {x y j : Nat} {P : Nat → Nat → Int} {D : Nat → Int32} (hpl : pl < 3) (p0 : 1 ≤ pw ∧ pw ≤ 192) (hx : x + n ≤ vd_ws pl pw) (hj : j < n) (hy : y + j < vd_sd pl) : ∀ (m i : Nat) (g : Nat → Nat → Int32), i + m = n → g q 0 = vd_I pw → (∀ i', i ≤ i' → i' < n → g (q + 2 + pl) ((y + j) * vd_ws pl pw + (x + i')) &&& vd_I 255 = vd_I (P (x + i') (y + j))) → (∀ k, k < n * n → g 123 k = D k) → ∃ (g' : Nat → Nat → Int32), (∀ d Q, vd_wp (d + 2) 258 34 [.ref 63, .int (vd_I (pl : Int)), .int (vd_I (x : Int)), .int (vd_I (y : Int)), .int (vd_I (n : Int)), .int (vd_I (j : Int)), .int (vd_I (i : Int))] [] (vd_mf N g) Q = vd_wp (d + 2) 258 96 [.ref 63, .int (vd_I (pl : Int)), .int (vd_I (x : Int)), .int (vd_I (y : Int)), .int (vd_I (n : Int)), .int (vd_I (j : Int)), .int (vd_I (n : Int))] [] (vd_mf N g') Q) ∧ (∀ i', i ≤ i' → i' < n → g' (q + 2 + pl) ((y + j) * vd_ws pl pw + (x + i')) &&& vd_I 255 = vd_I (vd_cl (vd_I (P (x + i') (y + j)) + D (j * n + i')))) ∧ (∀ c k, ¬ (c = q + 2 + pl ∧ (y + j) * vd_ws pl pw + (x + i) ≤ k ∧ k < (y + j) * vd_ws pl pw + (x + n)) → g' c k = g c k) := by
  have nq : n * n ≤ 1024 := Nat.mul_le_mul hn.2 hn.2
  have hq1 := hq.2.2.2
  have hk13 := hq.1.1
  intro m
  induction m with
  | zero =>
    intro i g hi hw hS hD
    have e : i = n := by omega
    subst e
    refine ⟨g, fun d Q => ?_, fun c' a b => by omega, fun _ _ _ => rfl⟩
    rw [vd_S258_34 hN]
    simp (disch := omega) only [Int.lt_irrefl, if_false]
  | succ m ih =>
    intro i g hi hw hS hD
    have inn : i < n := by omega
    have c1 : (i : Int) < (n : Int) := by omega
    have e1 : (i : Int) + 1 = ((i + 1 : Nat) : Int) := by omega
    have ex : (x : Int) + (i : Int) = ((x + i : Nat) : Int) := by omega
    have ey : (y : Int) + (j : Int) = ((y + j : Nat) : Int) := by omega
    have kn := vd_kn (n := n) (k := j) (c := i) hj inn
    have sv := hS i (Nat.le_refl _) inn
    have dv := hD _ kn
    have P229 := fun (d : Nat) (Q : vd_M → (Option Value ⊕ Nat) → Prop) => vd_P229 (g := g) (d := d) (Q := Q) hN hq hw p0.1 p0.2 hpl (show x + i < vd_ws pl pw by omega) hy sv
    have P232 := vd_clR hN (vd_I (P (x + i) (y + j)) + D (j * n + i))
    have cb := vd_cl_b (vd_I (P (x + i) (y + j)) + D (j * n + i))
    have P234 := fun (d : Nat) (Q : vd_M → (Option Value ⊕ Nat) → Prop) => vd_P234 (g := g) (v := vd_cl (vd_I (P (x + i) (y + j)) + D (j * n + i))) (d := d) (Q := Q) hN hq hw p0.1 p0.2 hpl (show x + i < vd_ws pl pw by omega) hy
    have hcs : ∀ a b c, vd_cs [.int a, .int b, .int c, .ref q] ≤ 8 := fun _ _ _ => of_decide_eq_true rfl
    obtain ⟨g2, p1, p2, p3⟩ := ih (i + 1) (vd_up g (q + 2 + pl) ((y + j) * vd_ws pl pw + (x + i)) (vd_I (vd_cl (vd_I (P (x + i) (y + j)) + D (j * n + i)))).toInt8.toInt32.toInt8.toInt32) (by omega) (by rw [vd_up_ne (by omega)]; exact hw) (fun i' a b => by rw [vd_up_ne (by omega)]; exact hS i' (by omega) b) (fun k hk => by rw [vd_up_ne (by omega)]; exact hD k hk)
    refine ⟨g2, fun d Q => ?_, fun t a b => ?_, fun c k hk => ?_⟩
    · rw [← p1 d Q, vd_S258_34 hN]
      simp (disch := first | assumption | omega | exact hcs _ _ _) only [vd_S258_41 hN, vd_S258_67 hN, vd_S258_70 hN, vd_S258_82 hN, vd_S258_84 hN, vd_S258_87 hN, vd_S258_90 hN, hnow, vd_vr_some, vd_I_toInt, c1, if_true, vd_I_mul, vd_I_add, ex, ey, vd_ixK, Int.toNat_natCast, P229, dv, P232, P234, e1, vd_rs_v, vd_rs_n]
    · by_cases ct : t = i
      · subst ct
        rw [p3 _ _ (by omega), vd_up_eq]
        exact vd_b8 cb.1 cb.2
      · exact p2 t (by omega) b
    · rw [p3 c k (by omega), vd_up_ne (by omega)]
theorem vd_L258j (hN : vd_SR N) (hq : vd_PD N q) (hnow : vd_r N 63 23 = some q) (hn : 1 ≤ n ∧ n ≤ 32) {x y : Nat} {P : Nat → Nat → Int} {D : Nat → Int32} (hpl : pl < 3) (p0 : 1 ≤ pw ∧ pw ≤ 192) (hx : x + n ≤ vd_ws pl pw) (hy : y + n ≤ vd_sd pl) : ∀ (m j : Nat) (g : Nat → Nat → Int32) (a6 : Value), j + m = n → g q 0 = vd_I pw → (∀ i' j', i' < n → j ≤ j' → j' < n → g (q + 2 + pl) ((y + j') * vd_ws pl pw + (x + i')) &&& vd_I 255 = vd_I (P (x + i') (y + j'))) → (∀ k, k < n * n → g 123 k = D k) → ∃ (g' : Nat → Nat → Int32), (∀ d Q, vd_wp (d + 2) 258 24 [.ref 63, .int (vd_I (pl : Int)), .int (vd_I (x : Int)), .int (vd_I (y : Int)), .int (vd_I (n : Int)), .int (vd_I (j : Int)), a6] [] (vd_mf N g) Q = Q (vd_mf N g') (.inl none)) ∧ (∀ i' j', i' < n → j ≤ j' → j' < n → g' (q + 2 + pl) ((y + j') * vd_ws pl pw + (x + i')) &&& vd_I 255 = vd_I (vd_cl (vd_I (P (x + i') (y + j')) + D (j' * n + i')))) ∧ (∀ c k, (c = q + 2 + pl → ∀ i' j', i' < n → j ≤ j' → j' < n → k ≠ (y + j') * vd_ws pl pw + (x + i')) → g' c k = g c k) := by
  have hq1 := hq.2.2.2
  intro m
  induction m with
  | zero =>
    intro j g a6 hj hw hS hD
    have e : j = n := by omega
    subst e
    refine ⟨g, fun d Q => ?_, fun c' j' _ a b => by omega, fun _ _ _ => rfl⟩
    rw [vd_S258_24 hN]
    simp (disch := omega) only [Int.lt_irrefl, if_false, vd_S258_102 hN]
  | succ m ih =>
    intro j g a6 hj hw hS hD
    have jn : j < n := by omega
    have c1 : (j : Int) < (n : Int) := by omega
    have e1 : (j : Int) + 1 = ((j + 1 : Nat) : Int) := by omega
    obtain ⟨g1, p1, p2, p3⟩ := vd_L258i (j := j) (P := P) (D := D) hN hq hnow hn hpl p0 hx jn (by omega) n 0 g (by omega) hw (fun i' _ b => hS i' j b (Nat.le_refl _) jn) hD
    have z0 : ((0 : Nat) : Int) = 0 := rfl
    rw [z0] at p1
    have ne : ∀ c k, c ≠ q + 2 + pl → g1 c k = g c k := fun c k a => p3 c k (by omega)
    have nes : ∀ i' j', i' < n → j' ≠ j → g1 (q + 2 + pl) ((y + j') * vd_ws pl pw + (x + i')) = g (q + 2 + pl) ((y + j') * vd_ws pl pw + (x + i')) := fun i' j' hi hne => p3 _ _ (by
      intro ⟨_, a, b⟩
      have := vd_rowi (ws := vd_ws pl pw) (y := y + j') (y' := y + j) (t := x + i') (t' := (y + j') * vd_ws pl pw + (x + i') - (y + j) * vd_ws pl pw) (by omega) (by omega) (by omega)
      omega)
    obtain ⟨g2, t1, t2, t3⟩ := ih (j + 1) g1 (.int (vd_I (n : Int))) (by omega) (by rw [ne _ _ (by omega)]; exact hw) (fun i' j' hi a b => by rw [nes i' j' hi (by omega)]; exact hS i' j' hi (by omega) b) (fun k hk => by rw [ne _ _ (by omega)]; exact hD k hk)
    refine ⟨g2, fun d Q => ?_, fun i' j' hi a b => ?_, fun c k hk => ?_⟩
    · rw [← t1 d Q, vd_S258_24 hN]
      simp (disch := omega) only [vd_S258_31 hN, p1, vd_S258_96 hN, vd_I_toInt, c1, if_true, vd_I_add, e1]
    · by_cases cj : j' = j
      · subst cj
        rw [t3 _ _ (fun _ i2 j2 hi2 a2 b2 e => by
          have := vd_rowi (ws := vd_ws pl pw) (y := y + j') (y' := y + j2) (t := x + i') (t' := x + i2) (by omega) (by omega) e
          omega)]
        exact p2 i' (Nat.zero_le _) hi
      · exact t2 i' j' hi (by omega) b
    · rw [t3 c k (fun e i' j' hi a b => hk e i' j' hi (by omega) b), p3 c k (fun ⟨e, a, b⟩ => hk e (k - ((y + j) * vd_ws pl pw + x)) j (by omega) (Nat.le_refl _) jn (by omega))]
end VDAD
