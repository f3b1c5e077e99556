/-! ===== numbers of a square: small methods ===== -/
/-- the side of a square -/
def vd_sn (s : Nat) : Nat := 4 * 2 ^ s
theorem vd_nn_v {s : Nat} (hs : s < 4) : (s = 0 ∧ vd_sn s = 4) ∨ (s = 1 ∧ vd_sn s = 8) ∨ (s = 2 ∧ vd_sn s = 16) ∨ (s = 3 ∧ vd_sn s = 32) := by
  have : s = 0 ∨ s = 1 ∨ s = 2 ∨ s = 3 := by omega
  rcases this with rfl | rfl | rfl | rfl
  · exact Or.inl ⟨rfl, rfl⟩
  · exact Or.inr (Or.inl ⟨rfl, rfl⟩)
  · exact Or.inr (Or.inr (Or.inl ⟨rfl, rfl⟩))
  · exact Or.inr (Or.inr (Or.inr ⟨rfl, rfl⟩))
theorem vd_sh4 {s : Nat} (hs : s < 4) : vd_I 4 <<< (vd_I (s : Int) &&& 31) = vd_I ((vd_sn s : Nat) : Int) := by
  have : s = 0 ∨ s = 1 ∨ s = 2 ∨ s = 3 := by omega
  rcases this with rfl | rfl | rfl | rfl <;> decide
theorem vd_sh16 {s : Nat} (hs : s < 4) : vd_I 16 <<< (vd_I (2 * (s : Int)) &&& 31) = vd_I ((vd_sn s * vd_sn s : Nat) : Int) := by
  have : s = 0 ∨ s = 1 ∨ s = 2 ∨ s = 3 := by omega
  rcases this with rfl | rfl | rfl | rfl <;> decide
theorem vd_atsh {s at' : Nat} (hs : s < 4) (h : at' < 1024) : vd_I (at' : Int) >>> (vd_I ((s : Int) + 2) &&& 31) = vd_I ((at' / vd_sn s : Nat) : Int) := by
  have : s = 0 ∨ s = 1 ∨ s = 2 ∨ s = 3 := by omega
  rcases this with rfl | rfl | rfl | rfl
  · exact (vd_shr2 (by omega) (by omega)).trans (congrArg vd_I (by show (at' : Int) / 4 = ((at' / 4 : Nat) : Int); omega))
  · exact (vd_shr3 (by omega) (by omega)).trans (congrArg vd_I (by show (at' : Int) / 8 = ((at' / 8 : Nat) : Int); omega))
  · exact (vd_shr4 (by omega) (by omega)).trans (congrArg vd_I (by show (at' : Int) / 16 = ((at' / 16 : Nat) : Int); omega))
  · exact (vd_shr5 (by omega) (by omega)).trans (congrArg vd_I (by show (at' : Int) / 32 = ((at' / 32 : Nat) : Int); omega))
theorem vd_atand {s at' : Nat} (hs : s < 4) : vd_I (at' : Int) &&& vd_I (((vd_sn s : Nat) : Int) - 1) = vd_I ((at' % vd_sn s : Nat) : Int) := by
  have : s = 0 ∨ s = 1 ∨ s = 2 ∨ s = 3 := by omega
  rcases this with rfl | rfl | rfl | rfl
  · exact (vd_I_and (z := (at' : Int)) (k := 2) (by decide)).trans (congrArg vd_I (by show (at' : Int) % 4 = ((at' % 4 : Nat) : Int); omega))
  · exact (vd_I_and (z := (at' : Int)) (k := 3) (by decide)).trans (congrArg vd_I (by show (at' : Int) % 8 = ((at' % 8 : Nat) : Int); omega))
  · exact (vd_I_and (z := (at' : Int)) (k := 4) (by decide)).trans (congrArg vd_I (by show (at' : Int) % 16 = ((at' % 16 : Nat) : Int); omega))
  · exact (vd_I_and (z := (at' : Int)) (k := 5) (by decide)).trans (congrArg vd_I (by show (at' : Int) % 32 = ((at' % 32 : Nat) : Int); omega))
/-- the order of the numbers -/
def vd_ord (pl s : Nat) (md : Int) : Nat := if pl = 0 ∧ s < 2 then (if md = 1 ∨ md = 5 ∨ md = 8 then 1 else if md = 2 ∨ md = 6 ∨ md = 7 then 2 else 0) else 0
theorem vd_ord_b (pl s : Nat) (md : Int) : vd_ord pl s md ≤ 2 ∧ (2 ≤ s → vd_ord pl s md = 0) := by
  unfold vd_ord
  split
  · split
    · exact ⟨by decide, fun h => by omega⟩
    · split
      · exact ⟨by decide, fun h => by omega⟩
      · exact ⟨by decide, fun h => by omega⟩
  · exact ⟨by decide, fun _ => rfl⟩
def vd_sof (o s : Nat) : Nat := if o = 1 then 1360 + 16 * s else if o = 2 then 1440 + 16 * s else if s = 0 then 0 else if s = 1 then 16 else if s = 2 then 80 else 336
theorem vd_sof_b {o s : Nat} (hs : s < 4) (ho : 2 ≤ s → o = 0) : vd_sof o s + vd_sn s * vd_sn s ≤ 1520 := by
  have h1 : s = 0 ∨ s = 1 ∨ s = 2 ∨ s = 3 := by omega
  have h2 : o = 1 ∨ o = 2 ∨ (o ≠ 1 ∧ o ≠ 2) := by omega
  rcases h1 with rfl | rfl | rfl | rfl
  · rcases h2 with rfl | rfl | ⟨a, b⟩
    · decide
    · decide
    · unfold vd_sof
      rw [if_neg a, if_neg b]
      decide
  · rcases h2 with rfl | rfl | ⟨a, b⟩
    · decide
    · decide
    · unfold vd_sof
      rw [if_neg a, if_neg b]
      decide
  · rw [ho (by decide)]; decide
  · rw [ho (by decide)]; decide
def vd_mk (K : Nat → Nat → Nat → Int) (pl : Nat) (x y : Int) : Int := if 0 ≤ x ∧ 0 ≤ y ∧ x < 192 ∧ y < 192 then K pl (x.toNat / 4) (y.toNat / 4) else 0
theorem vd_mk_v {K : Nat → Nat → Nat → Int} (h : ∀ pl a b, K pl a b = 0 ∨ K pl a b = 1 ∨ K pl a b = 2) (pl : Nat) (x y : Int) : 0 ≤ vd_mk K pl x y ∧ vd_mk K pl x y ≤ 2 := by
  unfold vd_mk
  split
  · rcases h pl (x.toNat / 4) (y.toNat / 4) with e | e | e <;> rw [e] <;> decide
  · decide
def vd_nr (a : Int) : Int := if a < 3 then a else if a < 5 then 3 else if a < 11 then 4 else 5
theorem vd_nr_b {a : Int} (h : 0 ≤ a) : 0 ≤ vd_nr a ∧ vd_nr a ≤ 5 := by
  unfold vd_nr
  split
  · omega
  · split
    · decide
    · split <;> decide
def vd_bd (i : Nat) : Int := if i < 1 then 0 else if i < 3 then 1 else if i < 6 then 2 else if i < 10 then 3 else if i < 21 then 4 else 5
theorem vd_bd_b (i : Nat) : 0 ≤ vd_bd i ∧ vd_bd i ≤ 5 := by
  unfold vd_bd
  split
  · decide
  · split
    · decide
    · split
      · decide
      · split
        · decide
        · split <;> decide
/-- what the numbers around mean -/
def vd_ga (A : Nat → Int) (n k : Nat) : Int := if n ≤ k then (if 0 < k % n then (1 + vd_nr (A (k - n)) + vd_nr (A (k - 1))) / 2 else (1 + vd_nr (A (k - n)) + vd_nr (A (k - n))) / 2) else (1 + vd_nr (A (k - 1)) + vd_nr (A (k - 1))) / 2
theorem vd_ga_b {A : Nat → Int} (h : ∀ p, 0 ≤ A p) (n k : Nat) : 0 ≤ vd_ga A n k ∧ vd_ga A n k ≤ 5 := by
  have h1 := vd_nr_b (h (k - n))
  have h2 := vd_nr_b (h (k - 1))
  unfold vd_ga
  split
  · split <;> omega
  · omega
/-- the class's tables that never change -/
def vd_stC (f : Nat → Nat → Int32) : Prop := (∀ j : Nat, j < 21 → f 2 j = vd_I (vd_bd j)) ∧ (∀ j : Nat, j < 11 → f 3 j = vd_I (vd_nr (j : Int)))
section VDRS
variable {M N : vd_M} {ow fa lo lf : Nat} {f g : Nat → Nat → Int32} {pl s : Nat} {K : Nat → Nat → Nat → Int}
theorem vd_P116 (hM : vd_SC M ow fa lo lf) (h11 : f 45 11 = vd_I (pl : Int)) (h14 : f 45 14 = vd_I (s : Int)) (hpl : pl < 3) (hs : s < 4) {md : Int} (m0 : -1 ≤ md) (m1 : md ≤ 9) (d : Nat) (Q : vd_M → (Option Value ⊕ Nat) → Prop) : vd_wp d 116 0 [.ref 45, .int (vd_I md)] [] (vd_mf M f) Q = Q (vd_mf M f) (.inl (some (.int (vd_I ((vd_ord pl s md : Nat) : Int))))) := by
  by_cases c : pl = 0
  · have c' : ((pl : Nat) : Int) = 0 := by omega
    by_cases c2 : s < 2
    · have c2' : ¬ ((1 : Int) < (s : Int)) := by omega
      have e : vd_ord pl s md = (if md = 1 ∨ md = 5 ∨ md = 8 then 1 else if md = 2 ∨ md = 6 ∨ md = 7 then 2 else 0) := by unfold vd_ord; rw [if_pos ⟨c, c2⟩]
      rw [e]
      have : md = -1 ∨ md = 0 ∨ md = 1 ∨ md = 2 ∨ md = 3 ∨ md = 4 ∨ md = 5 ∨ md = 6 ∨ md = 7 ∨ md = 8 ∨ md = 9 := by omega
      rcases this with rfl | rfl | rfl | rfl | rfl | rfl | rfl | rfl | rfl | rfl | rfl <;> simp (disch := omega) only [vd_S116_0 hM, vd_S116_7 hM, vd_S116_17 hM, vd_S116_22 hM, vd_S116_27 hM, vd_S116_33 hM, vd_S116_35 hM, vd_S116_40 hM, vd_S116_46 hM, vd_S116_52 hM, vd_S116_56 hM, vd_S116_57 hM, h11, h14, vd_I_toInt, c', c2', eq_self, if_true, if_false, Int.reduceEq, reduceIte, or_self, or_true, true_or, or_false, false_or, Int.reduceNeg] <;> rfl
    · have c2' : (1 : Int) < (s : Int) := by omega
      have e : vd_ord pl s md = 0 := by unfold vd_ord; rw [if_neg (by omega)]
      rw [e]
      simp (disch := omega) only [vd_S116_0 hM, vd_S116_7 hM, vd_S116_15 hM, h11, h14, vd_I_toInt, c', c2', eq_self, if_true]
      rfl
  · have c' : ¬ (((pl : Nat) : Int) = 0) := by omega
    have e : vd_ord pl s md = 0 := by unfold vd_ord; rw [if_neg (by omega)]
    rw [e]
    simp (disch := omega) only [vd_S116_0 hM, vd_S116_15 hM, h11, vd_I_toInt, c', if_false]
    rfl
theorem vd_P9 (hM : vd_SC M ow fa lo lf) {o : Nat} (ho : o < 3) (hs : s < 4) (d : Nat) (Q : vd_M → (Option Value ⊕ Nat) → Prop) : vd_wp d 9 0 [.int (vd_I (o : Int)), .int (vd_I (s : Int))] [] (vd_mf M f) Q = Q (vd_mf M f) (.inl (some (.int (vd_I ((vd_sof o s : Nat) : Int))))) := by
  have h1 : o = 0 ∨ o = 1 ∨ o = 2 := by omega
  have h2 : s = 0 ∨ s = 1 ∨ s = 2 ∨ s = 3 := by omega
  rcases h1 with rfl | rfl | rfl <;> rcases h2 with rfl | rfl | rfl | rfl <;> simp (disch := decide) only [vd_S9_0 hM, vd_S9_5 hM, vd_S9_14 hM, vd_S9_19 hM, vd_S9_28 hM, vd_S9_32 hM, vd_S9_36 hM, vd_S9_41 hM, vd_S9_46 hM, vd_S9_51 hM, vd_S9_56 hM, vd_S9_59 hM, vd_I_toInt, vd_I_mul, vd_I_add, if_true, if_false, Int.reduceEq, reduceIte, eq_self, show ((0 : Nat) : Int) = 0 from rfl, show ((1 : Nat) : Int) = 1 from rfl, show ((2 : Nat) : Int) = 2 from rfl, show ((3 : Nat) : Int) = 3 from rfl] <;> rfl
theorem vd_P118 (hM : vd_SC M ow fa lo lf) (k : vd_KC K f) (hpl : pl < 3) {x y : Int} (x0 : -1000 ≤ x) (x1 : x ≤ 1000) (y0 : -1000 ≤ y) (y1 : y ≤ 1000) (d : Nat) (Q : vd_M → (Option Value ⊕ Nat) → Prop) : vd_wp d 118 0 [.ref 37, .int (vd_I (pl : Int)), .int (vd_I x), .int (vd_I y)] [] (vd_mf M f) Q = Q (vd_mf M f) (.inl (some (.int (vd_I (vd_mk K pl x y))))) := by
  by_cases c1 : x < 0
  · have e : vd_mk K pl x y = 0 := by unfold vd_mk; rw [if_neg (by omega)]
    rw [e]
    simp (disch := omega) only [vd_S118_0 hM, vd_S118_22 hM, vd_I_toInt, c1, if_true]
  · by_cases c2 : y < 0
    · have e : vd_mk K pl x y = 0 := by unfold vd_mk; rw [if_neg (by omega)]
      rw [e]
      simp (disch := omega) only [vd_S118_0 hM, vd_S118_4 hM, vd_S118_22 hM, vd_I_toInt, c1, c2, if_true, if_false]
    · by_cases c3 : x < 192
      · by_cases c4 : y < 192
        · obtain ⟨xn, rfl⟩ := Int.eq_ofNat_of_zero_le (show 0 ≤ x by omega)
          obtain ⟨yn, rfl⟩ := Int.eq_ofNat_of_zero_le (show 0 ≤ y by omega)
          have e : vd_mk K pl (xn : Int) (yn : Int) = K pl (xn / 4) (yn / 4) := by unfold vd_mk; rw [if_pos (by omega), Int.toNat_natCast, Int.toNat_natCast]
          have n1 : (((pl : Int) * 48 + (yn : Int) / 4) * 48 + (xn : Int) / 4).toNat = 2304 * pl + 48 * (yn / 4) + xn / 4 := by omega
          have hk := k pl (xn / 4) (yn / 4) hpl (by omega) (by omega)
          rw [e]
          simp (disch := omega) only [vd_S118_0 hM, vd_S118_4 hM, vd_S118_8 hM, vd_S118_15 hM, vd_S118_24 hM, vd_S118_43 hM, vd_I_toInt, c1, c2, c3, c4, if_true, if_false, vd_I_div, vd_I_mul, vd_I_add, n1, hk]
        · have e : vd_mk K pl x y = 0 := by unfold vd_mk; rw [if_neg (by omega)]
          rw [e]
          simp (disch := omega) only [vd_S118_0 hM, vd_S118_4 hM, vd_S118_8 hM, vd_S118_15 hM, vd_S118_22 hM, vd_I_toInt, c1, c2, c3, c4, if_true, if_false]
      · have e : vd_mk K pl x y = 0 := by unfold vd_mk; rw [if_neg (by omega)]
        rw [e]
        simp (disch := omega) only [vd_S118_0 hM, vd_S118_4 hM, vd_S118_8 hM, vd_S118_22 hM, vd_I_toInt, c1, c2, c3, if_false]
def vd_c0 (K : Nat → Nat → Nat → Int) (pl x y : Nat) : Int := (if vd_mk K pl (x : Int) ((y : Int) - 1) = 2 then 1 else 0) + (if vd_mk K pl ((x : Int) - 1) (y : Int) = 2 then 1 else 0)
theorem vd_P117 (hM : vd_SC M ow fa lo lf) (k : vd_KC K f) (hK : ∀ pl a b, K pl a b = 0 ∨ K pl a b = 1 ∨ K pl a b = 2) (hpl : pl < 3) {x y : Nat} (x1 : x < 192) (y1 : y < 192) (d : Nat) (Q : vd_M → (Option Value ⊕ Nat) → Prop) : vd_wp (d + 1) 117 0 [.ref 37, .int (vd_I (pl : Int)), .int (vd_I (x : Int)), .int (vd_I (y : Int)), vd_U] [] (vd_mf M f) Q = Q (vd_mf M f) (.inl (some (.int (vd_I (vd_c0 K pl x y))))) := by
  have A := vd_P118 hM k hpl (x := (x : Int)) (y := (y : Int) - 1) (by omega) (by omega) (by omega) (by omega)
  have B := vd_P118 hM k hpl (x := (x : Int) - 1) (y := (y : Int)) (by omega) (by omega) (by omega) (by omega)
  have a1 := vd_mk_v hK pl (x : Int) ((y : Int) - 1)
  have b1 := vd_mk_v hK pl ((x : Int) - 1) (y : Int)
  unfold vd_c0
  generalize vd_mk K pl (x : Int) ((y : Int) - 1) = ma at *
  generalize vd_mk K pl ((x : Int) - 1) (y : Int) = mb at *
  by_cases c1 : ma = 2
  · by_cases c2 : mb = 2
    · simp (disch := omega) only [vd_S117_0 hM, vd_S117_6 hM, vd_S117_9 hM, vd_S117_13 hM, vd_S117_18 hM, vd_S117_26 hM, vd_S117_29 hM, vd_S117_33 hM, vd_S117_42 hM, A, B, vd_I_sub, vd_I_add, vd_I_toInt, c1, c2, eq_self, if_true, vd_rs_v, vd_rs_n]
    · simp (disch := omega) only [vd_S117_0 hM, vd_S117_6 hM, vd_S117_9 hM, vd_S117_13 hM, vd_S117_18 hM, vd_S117_26 hM, vd_S117_29 hM, vd_S117_40 hM, vd_S117_42 hM, A, B, vd_I_sub, vd_I_add, vd_I_toInt, c1, c2, eq_self, if_true, if_false, vd_rs_v, vd_rs_n]
      rfl
  · by_cases c2 : mb = 2
    · simp (disch := omega) only [vd_S117_0 hM, vd_S117_6 hM, vd_S117_9 hM, vd_S117_17 hM, vd_S117_18 hM, vd_S117_26 hM, vd_S117_29 hM, vd_S117_33 hM, vd_S117_42 hM, A, B, vd_I_sub, vd_I_add, vd_I_toInt, c1, c2, eq_self, if_true, if_false, vd_rs_v, vd_rs_n]
    · simp (disch := omega) only [vd_S117_0 hM, vd_S117_6 hM, vd_S117_9 hM, vd_S117_17 hM, vd_S117_18 hM, vd_S117_26 hM, vd_S117_29 hM, vd_S117_40 hM, vd_S117_42 hM, A, B, vd_I_sub, vd_I_add, vd_I_toInt, c1, c2, eq_self, if_false, vd_rs_v, vd_rs_n]
      rfl
theorem vd_HR (hN : vd_SR N) (hpl : pl < 3) : vd_r N 109 pl = some (110 + pl) ∧ vd_k N (110 + pl) = 34 ∧ vd_l N (110 + pl) = vd_fo pl * vd_fo pl := by
  have : pl = 0 ∨ pl = 1 ∨ pl = 2 := by omega
  rcases this with rfl | rfl | rfl
  · exact ⟨hN.r109_0, hN.k110, hN.l110⟩
  · exact ⟨hN.r109_1, hN.k111, hN.l111⟩
  · exact ⟨hN.r109_2, hN.k112, hN.l112⟩
theorem vd_P238 (hN : vd_SR N) (hpl : pl < 3) (d : Nat) (Q : vd_M → (Option Value ⊕ Nat) → Prop) : vd_wp d 238 0 [.ref 63, .int (vd_I (pl : Int))] [] (vd_mf N g) Q = Q (vd_mf N g) (.inl (some (.int (vd_I ((vd_fo pl : Nat) : Int))))) := by
  by_cases c : pl = 0
  · have e : ((vd_fo pl : Nat) : Int) = 48 := by unfold vd_fo; rw [if_pos c]; rfl
    have c' : ((pl : Nat) : Int) = 0 := by omega
    rw [e]
    simp (disch := omega) only [vd_S238_0 hN, vd_S238_4 hN, vd_S238_11 hN, vd_I_toInt, c', eq_self, if_true]
  · have e : ((vd_fo pl : Nat) : Int) = 24 := by unfold vd_fo; rw [if_neg c]; rfl
    have c' : ¬ (((pl : Nat) : Int) = 0) := by omega
    rw [e]
    simp (disch := omega) only [vd_S238_0 hN, vd_S238_9 hN, vd_S238_11 hN, vd_I_toInt, c', if_false]
theorem vd_P240 (hN : vd_SR N) {W H : Nat} {O : Nat → Nat → Option Nat} {B : Nat → Nat → Int} (hG : vd_GB W H O B g) (w1 : W ≤ 24) (w2 : H ≤ 24) (hK : vd_KH K g) (hV : ∀ a b, K pl a b = 2 → a / vd_cu pl < W → b / vd_cu pl < H → O (a / vd_cu pl) (b / vd_cu pl) ≠ none) (hpl : pl < 3) {x y : Int} (x0 : -1 ≤ x) (x1 : x < (vd_us pl * W : Nat)) (y0 : -1 ≤ y) (y1 : y < (vd_us pl * H : Nat)) (d : Nat) (Q : vd_M → (Option Value ⊕ Nat) → Prop) : vd_wp (d + 1) 240 0 [.ref 63, .int (vd_I (pl : Int)), .int (vd_I x), .int (vd_I y), vd_U] [] (vd_mf N g) Q = Q (vd_mf N g) (.inl (some (.int (vd_I (if vd_mk K pl x y = 2 then 1 else 0))))) := by
  have hus := vd_cu_v pl
  have ub : vd_us pl * W ≤ 192 ∧ vd_us pl * H ≤ 192 := by rcases hus with ⟨e, _⟩ | ⟨e, _⟩ <;> rw [e] <;> omega
  have P223 := fun (d : Nat) (Q : vd_M → (Option Value ⊕ Nat) → Prop) => vd_P223 (g := g) (d := d) (Q := Q) hN hpl
  have eu : (if pl = 0 then (8 : Int) else 4) = ((vd_us pl : Nat) : Int) := by unfold vd_us; split <;> rfl
  rw [eu] at P223
  by_cases c1 : x < 0
  · have e : vd_mk K pl x y = 0 := by unfold vd_mk; rw [if_neg (by omega)]
    rw [e]
    simp (disch := omega) only [vd_S240_0 hN, vd_S240_2 hN, P223, vd_S240_5 hN, vd_S240_30 hN, vd_I_toInt, c1, if_true, show ¬ ((0 : Int) = 2) by decide, if_false, vd_rs_v, vd_rs_n]
  · by_cases c2 : y < 0
    · have e : vd_mk K pl x y = 0 := by unfold vd_mk; rw [if_neg (by omega)]
      rw [e]
      simp (disch := omega) only [vd_S240_0 hN, vd_S240_2 hN, P223, vd_S240_5 hN, vd_S240_11 hN, vd_S240_30 hN, vd_I_toInt, c1, c2, if_true, show ¬ ((0 : Int) = 2) by decide, if_false, vd_rs_v, vd_rs_n]
    · obtain ⟨xn, rfl⟩ := Int.eq_ofNat_of_zero_le (show 0 ≤ x by omega)
      obtain ⟨yn, rfl⟩ := Int.eq_ofNat_of_zero_le (show 0 ≤ y by omega)
      have e : vd_mk K pl (xn : Int) (yn : Int) = K pl (xn / 4) (yn / 4) := by unfold vd_mk; rw [if_pos (by omega), Int.toNat_natCast, Int.toNat_natCast]
      rw [e]
      have dx : xn / vd_us pl < W ∧ yn / vd_us pl < H := by rcases hus with ⟨e, _⟩ | ⟨e, _⟩ <;> rw [e] at x1 y1 ⊢ <;> omega
      have du : xn / 4 / vd_cu pl = xn / vd_us pl ∧ yn / 4 / vd_cu pl = yn / vd_us pl := by rcases hus with ⟨e, e2, _⟩ | ⟨e, e2, _⟩ <;> rw [e, e2] <;> omega
      have hV' := hV (xn / 4) (yn / 4)
      rw [du.1, du.2] at hV'
      have u0 : 0 < ((vd_us pl : Nat) : Int) ∧ ((vd_us pl : Nat) : Int) < 10 := by rcases hus with ⟨e, _⟩ | ⟨e, _⟩ <;> rw [e] <;> decide
      have ex : (xn : Int) / ((vd_us pl : Nat) : Int) = ((xn / vd_us pl : Nat) : Int) := (Int.natCast_ediv _ _).symm
      have ey : (yn : Int) / ((vd_us pl : Nat) : Int) = ((yn / vd_us pl : Nat) : Int) := (Int.natCast_ediv _ _).symm
      generalize xn / vd_us pl = ux at *
      generalize yn / vd_us pl = uy at *
      have P198 := fun (d : Nat) (Q : vd_M → (Option Value ⊕ Nat) → Prop) => vd_P198 (d := d) (Q := Q) hN hG w1 w2 (a := ((ux : Nat) : Int)) (b := ((uy : Nat) : Int)) (by omega) (by omega) (by omega) (by omega)
      have hat : vd_at W H O ((ux : Nat) : Int) ((uy : Nat) : Int) = O (ux) (uy) := by
        unfold vd_at
        rw [if_pos (by omega), Int.toNat_natCast, Int.toNat_natCast]
      rw [hat] at P198
      cases hO : O (ux) (uy) with
      | none =>
        rw [hO] at P198
        have c3 : ¬ (K pl (xn / 4) (yn / 4) = 2) := fun q => hV' q dx.1 dx.2 hO
        rw [if_neg c3]
        simp (disch := omega) only [vd_S240_0 hN, vd_S240_2 hN, P223, vd_S240_5 hN, vd_S240_11 hN, vd_S240_15 hN, vd_S240_19 hN, vd_S240_23 hN, vd_S240_24 hN, vd_S240_27 hN, vd_S240_30 hN, P198, vd_th, vd_I_div, ex, ey, vd_I_toInt, c1, c2, eq_self, if_true, if_false, vd_rs_v, vd_rs_n]
      | some kk =>
        rw [hO] at P198
        obtain ⟨hr3, hk3, hl3⟩ := vd_HR hN hpl
        have hfo : xn / 4 < vd_fo pl ∧ yn / 4 < vd_fo pl ∧ (vd_fo pl = 48 ∨ vd_fo pl = 24) := by
          unfold vd_fo
          by_cases c : pl = 0
          · rw [if_pos c]; omega
          · rw [if_neg c]
            have : vd_us pl = 4 := by unfold vd_us; rw [if_neg c]
            rw [this] at x1 y1
            omega
        have hk := hK pl (xn / 4) (yn / 4) hpl hfo.1 hfo.2.1
        have P238 := vd_P238 (g := g) hN hpl
        have np : ((pl : Nat) : Int).toNat = pl := Int.toNat_natCast pl
        have hcs : ∀ a, vd_cs [.int a, .ref (110 + pl)] ≤ 8 := fun _ => of_decide_eq_true rfl
        have ei : (yn : Int) / 4 * ((vd_fo pl : Nat) : Int) + (xn : Int) / 4 = ((yn / 4 * vd_fo pl + xn / 4 : Nat) : Int) := by
          rcases hfo.2.2 with e | e <;> rw [e] <;> omega
        have il : yn / 4 * vd_fo pl + xn / 4 < vd_fo pl * vd_fo pl := by
          rcases hfo.2.2 with e | e <;> rw [e] at hfo ⊢ <;> omega
        have il2 : vd_fo pl * vd_fo pl ≤ 2304 := by
          rcases hfo.2.2 with e | e <;> rw [e] <;> decide
        have o34 : vd_k N (110 + pl) = 33 ∨ vd_k N (110 + pl) = 34 := Or.inr hk3
        by_cases c3 : K pl (xn / 4) (yn / 4) = 2
        · rw [if_pos c3] at hk ⊢
          simp (disch := first | assumption | omega | exact hcs _) only [vd_S240_0 hN, vd_S240_2 hN, P223, vd_S240_5 hN, vd_S240_11 hN, vd_S240_15 hN, vd_S240_19 hN, vd_S240_23 hN, vd_S240_24 hN, vd_S240_27 hN, vd_S240_32 hN, vd_S240_37 hN, vd_S240_43 hN, vd_S240_46 hN, vd_S240_51 hN, vd_S240_55 hN, vd_S240_60 hN, P198, P238, vd_th, np, hr3, vd_vr_some, vd_I_div, vd_I_mul, vd_I_add, ex, ey, ei, Int.toNat_natCast, hk, vd_I_toInt, c1, c2, show ¬ ((1 : Int) = 0) by decide, if_false, vd_rs_v, vd_rs_n]
        · rw [if_neg c3] at hk ⊢
          simp (disch := first | assumption | omega | exact hcs _) only [vd_S240_0 hN, vd_S240_2 hN, P223, vd_S240_5 hN, vd_S240_11 hN, vd_S240_15 hN, vd_S240_19 hN, vd_S240_23 hN, vd_S240_24 hN, vd_S240_27 hN, vd_S240_32 hN, vd_S240_37 hN, vd_S240_43 hN, vd_S240_46 hN, vd_S240_51 hN, vd_S240_59 hN, vd_S240_60 hN, P198, P238, vd_th, np, hr3, vd_vr_some, vd_I_div, vd_I_mul, vd_I_add, ex, ey, ei, Int.toNat_natCast, hk, vd_I_toInt, c1, c2, show ¬ ((1 : Int) = 0) by decide, eq_self, if_true, if_false, vd_rs_v, vd_rs_n]
end VDRS
