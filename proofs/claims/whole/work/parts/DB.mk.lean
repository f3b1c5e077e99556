/-! ===== the reference marks squares ===== -/
theorem vd_up_self {f : Nat → Nat → Int32} {c i : Nat} {v : Int32} (h : f c i = v) : vd_up f c i v = f := by
  funext c' i'
  by_cases e : c' = c ∧ i' = i
  · obtain ⟨rfl, rfl⟩ := e
    rw [vd_up_eq, h]
  · rw [vd_up_ne (by omega)]
theorem vd_KH.rect {K : Nat → Nat → Nat → Int} {g g' : Nat → Nat → Int32} {pl x0 y0 w h : Nat} {v : Int} (k : vd_KH K g) (hpl : pl < 3) (hx : x0 + w ≤ vd_fo pl) (h1 : ∀ a b, a < w → b < h → g' (110 + pl) ((y0 + b) * vd_fo pl + (x0 + a)) = vd_I (if v = 2 then 1 else 0)) (h2 : ∀ c k, 110 ≤ c → c ≤ 112 → (c = 110 + pl → ∀ a b, a < w → b < h → k ≠ (y0 + b) * vd_fo pl + (x0 + a)) → g' c k = g c k) : vd_KH (vd_rect K pl x0 y0 w h fun _ _ => v) g' := fun c x y hc hx' hy' => by
  by_cases hh : c = pl ∧ x0 ≤ x ∧ x < x0 + w ∧ y0 ≤ y ∧ y < y0 + h
  · obtain ⟨rfl, a1, a2, a3, a4⟩ := hh
    rw [vd_rect_in a1 a2 a3 a4]
    have := h1 (x - x0) (y - y0) (by omega) (by omega)
    rw [show x0 + (x - x0) = x by omega, show y0 + (y - y0) = y by omega] at this
    exact this
  · rw [vd_rect_out hh, h2 _ _ (by omega) (by omega) (fun ec i j hi hj e => hh (by
      have ec : c = pl := by omega
      subst ec
      have := vd_rowi (by omega) (by omega) e
      omega))]
    exact k c x y hc hx' hy'
section VDMK
variable {N : vd_M} {pl n x y : Nat}
theorem vd_P237 (hN : vd_SR N) (hpl : pl < 3) {g : Nat → Nat → Int32} {r : Int} (hr : r = 0 ∨ r = 1) {X Y : Nat} (hX : X / 4 < vd_fo pl) (hY : Y / 4 < vd_fo pl) (d : Nat) (Q : vd_M → (Option Value ⊕ Nat) → Prop) : vd_wp (d + 1) 237 0 [.ref 63, .int (vd_I (pl : Int)), .int (vd_I (X : Int)), .int (vd_I (Y : Int)), .int (vd_I r)] [] (vd_mf N g) Q = Q (vd_mf N (vd_up g (110 + pl) (Y / 4 * vd_fo pl + X / 4) (vd_I r))) (.inl none) := by
  obtain ⟨hr3, hk3, hl3⟩ := vd_HR hN hpl
  have P238 := vd_P238 (g := g) hN hpl
  have fo48 : vd_fo pl ≤ 48 := by unfold vd_fo; split <;> omega
  have hi : Y / 4 * vd_fo pl + X / 4 < vd_fo pl * vd_fo pl := by
    have : Y / 4 * vd_fo pl + vd_fo pl ≤ vd_fo pl * vd_fo pl := by
      have := Nat.mul_le_mul_right (vd_fo pl) (show Y / 4 + 1 ≤ vd_fo pl by omega)
      rw [Nat.add_mul, Nat.one_mul] at this
      exact this
    omega
  have hb : vd_fo pl * vd_fo pl ≤ 2304 := Nat.mul_le_mul fo48 fo48
  have np : ((pl : Nat) : Int).toNat = pl := Int.toNat_natCast pl
  have ei : (Y : Int) / 4 * ((vd_fo pl : Nat) : Int) + (X : Int) / 4 = ((Y / 4 * vd_fo pl + X / 4 : Nat) : Int) := by rw [Int.natCast_add, Int.natCast_mul]; rfl
  have hcs : ∀ a, vd_cs [.int a, .ref (110 + pl)] ≤ 8 := fun _ => of_decide_eq_true rfl
  have ra : vd_I r &&& 1 = vd_I r := by rcases hr with rfl | rfl <;> decide
  generalize Y / 4 * vd_fo pl + X / 4 = I at *
  have zl : ((I : Nat) : Int) < ((vd_l N (110 + pl) : Nat) : Int) := by rw [hl3]; omega
  have xb : X ≤ 192 := by omega
  have yb : Y ≤ 192 := by omega
  have e21 := vd_S237_21b hN
  simp (disch := first | assumption | omega | exact hcs _) only [vd_S237_0 hN, vd_S237_5 hN, np, hr3, vd_vr_some, vd_S237_11 hN, P238, vd_S237_14 hN, vd_I_div, vd_I_mul, vd_I_add, ei, e21, Int.toNat_natCast, ra, vd_rs_v, vd_rs_n]
/-- a square is marked, row by row -/
theorem vd_L235i (hN : vd_SR N) (hpl : pl < 3) (hx4 : x % 4 = 0) (hy4 : y % 4 = 0) (hx : x + n ≤ 4 * vd_fo pl) (hn4 : n % 4 = 0) (hn : n ≤ 32) {r : Int} (hr : r = 0 ∨ r = 1) {j : Nat} (hj : y + 4 * j < 4 * vd_fo pl) : ∀ (m i : Nat) (g : Nat → Nat → Int32), i + m = n / 4 → ∃ g' : Nat → Nat → Int32, (∀ (x2 x3 x4 x5 x6 x7 : Int32) d Q, vd_wp (d + 2) 235 231 [.ref 63, .int (vd_I (pl : Int)), .int x2, .int x3, .int x4, .int x5, .int x6, .int x7, .int (vd_I (n : Int)), .int (vd_I (y : Int)), .int (vd_I (x : Int)), .int (vd_I r), .int (vd_I (4 * (j : Int))), .int (vd_I (4 * (i : Int)))] [] (vd_mf N g) Q = vd_wp (d + 2) 235 261 [.ref 63, .int (vd_I (pl : Int)), .int x2, .int x3, .int x4, .int x5, .int x6, .int x7, .int (vd_I (n : Int)), .int (vd_I (y : Int)), .int (vd_I (x : Int)), .int (vd_I r), .int (vd_I (4 * (j : Int))), .int (vd_I (n : Int))] [] (vd_mf N g') Q) ∧ (∀ a, i ≤ a → a < n / 4 → g' (110 + pl) ((y / 4 + j) * vd_fo pl + (x / 4 + a)) = vd_I r) ∧ (∀ c k, ¬ (c = 110 + pl ∧ (y / 4 + j) * vd_fo pl + (x / 4 + i) ≤ k ∧ k < (y / 4 + j) * vd_fo pl + (x / 4 + n / 4)) → g' c k = g c k) := by
  have fo48 : vd_fo pl ≤ 48 := by unfold vd_fo; split <;> omega
  intro m
  induction m with
  | zero =>
    intro i g hi
    have e : 4 * (i : Int) = (n : Int) := by omega
    refine ⟨g, fun x2 x3 x4 x5 x6 x7 d Q => ?_, fun a h1 h2 => by omega, fun _ _ _ => rfl⟩
    rw [vd_S235_231 hN, e]
    simp (disch := omega) only [Int.lt_irrefl, if_false]
  | succ m ih =>
    intro i g hi
    have c1 : 4 * (i : Int) < (n : Int) := by omega
    have e1 : 4 * (i : Int) + 4 = 4 * ((i + 1 : Nat) : Int) := by omega
    have ex : (x : Int) + 4 * (i : Int) = ((x + 4 * i : Nat) : Int) := by omega
    have ey : (y : Int) + 4 * (j : Int) = ((y + 4 * j : Nat) : Int) := by omega
    have dx : (x + 4 * i) / 4 = x / 4 + i := by omega
    have dy : (y + 4 * j) / 4 = y / 4 + j := by omega
    have P := vd_P237 (g := g) hN hpl hr (X := x + 4 * i) (Y := y + 4 * j) (by omega) (by omega)
    rw [dx, dy] at P
    obtain ⟨g2, p1, p2, p3⟩ := ih (i + 1) (vd_up g (110 + pl) ((y / 4 + j) * vd_fo pl + (x / 4 + i)) (vd_I r)) (by omega)
    refine ⟨g2, fun x2 x3 x4 x5 x6 x7 d Q => ?_, fun a h1 h2 => ?_, fun c k h => ?_⟩
    · rw [← p1 x2 x3 x4 x5 x6 x7 d Q, vd_S235_231 hN]
      simp (disch := omega) only [vd_I_toInt, c1, if_true, vd_S235_238 hN, vd_I_add, ex, ey, vd_S235_252 hN, P, vd_S235_255 hN, e1, vd_rs_v, vd_rs_n]
    · by_cases ea : a = i
      · subst ea
        rw [p3 _ _ (by omega), vd_up_eq]
      · exact p2 a (by omega) h2
    · rw [p3 c k (by omega), vd_up_ne (by omega)]
theorem vd_L235j (hN : vd_SR N) (hpl : pl < 3) (hx4 : x % 4 = 0) (hy4 : y % 4 = 0) (hx : x + n ≤ 4 * vd_fo pl) (hy : y + n ≤ 4 * vd_fo pl) (hn4 : n % 4 = 0) (hn : n ≤ 32) {r : Int} (hr : r = 0 ∨ r = 1) : ∀ (m j : Nat) (g : Nat → Nat → Int32) (a13 : Value), j + m = n / 4 → ∃ (g' : Nat → Nat → Int32) (b13 : Value), (∀ (x2 x3 x4 x5 x6 x7 : Int32) d Q, vd_wp (d + 2) 235 221 [.ref 63, .int (vd_I (pl : Int)), .int x2, .int x3, .int x4, .int x5, .int x6, .int x7, .int (vd_I (n : Int)), .int (vd_I (y : Int)), .int (vd_I (x : Int)), .int (vd_I r), .int (vd_I (4 * (j : Int))), a13] [] (vd_mf N g) Q = vd_wp (d + 2) 235 267 [.ref 63, .int (vd_I (pl : Int)), .int x2, .int x3, .int x4, .int x5, .int x6, .int x7, .int (vd_I (n : Int)), .int (vd_I (y : Int)), .int (vd_I (x : Int)), .int (vd_I r), .int (vd_I (n : Int)), b13] [] (vd_mf N g') Q) ∧ (∀ a b, a < n / 4 → j ≤ b → b < n / 4 → g' (110 + pl) ((y / 4 + b) * vd_fo pl + (x / 4 + a)) = vd_I r) ∧ (∀ c k, (c = 110 + pl → ∀ a b, a < n / 4 → j ≤ b → b < n / 4 → k ≠ (y / 4 + b) * vd_fo pl + (x / 4 + a)) → g' c k = g c k) := by
  have fo48 : vd_fo pl ≤ 48 := by unfold vd_fo; split <;> omega
  intro m
  induction m with
  | zero =>
    intro j g a13 hj
    have e : 4 * (j : Int) = (n : Int) := by omega
    refine ⟨g, a13, fun x2 x3 x4 x5 x6 x7 d Q => ?_, fun a b _ h1 h2 => by omega, fun _ _ _ => rfl⟩
    rw [vd_S235_221 hN, e]
    simp (disch := omega) only [Int.lt_irrefl, if_false]
  | succ m ih =>
    intro j g a13 hj
    have c1 : 4 * (j : Int) < (n : Int) := by omega
    have e1 : 4 * (j : Int) + 4 = 4 * ((j + 1 : Nat) : Int) := by omega
    obtain ⟨g1, q1, q2, q3⟩ := vd_L235i hN hpl hx4 hy4 hx hn4 hn hr (show y + 4 * j < 4 * vd_fo pl by omega) (n / 4) 0 g (by omega)
    obtain ⟨g2, b13, p1, p2, p3⟩ := ih (j + 1) g1 (.int (vd_I (n : Int))) (by omega)
    have z0 : 4 * ((0 : Nat) : Int) = 0 := rfl
    rw [z0] at q1
    refine ⟨g2, b13, fun x2 x3 x4 x5 x6 x7 d Q => ?_, fun a b h0 h1 h2 => ?_, fun c k h => ?_⟩
    · rw [← p1 x2 x3 x4 x5 x6 x7 d Q, vd_S235_221 hN]
      simp (disch := omega) only [vd_I_toInt, c1, if_true, vd_S235_228 hN, q1, vd_S235_261 hN, vd_I_add, e1]
    · by_cases ea : b = j
      · subst ea
        rw [p3 _ _ (fun _ a2 b2 h3 h4 h5 e => by
          have := vd_rowi (ws := vd_fo pl) (y := y / 4 + b) (y' := y / 4 + b2) (t := x / 4 + a) (t' := x / 4 + a2) (by omega) (by omega) e
          omega)]
        exact q2 a (Nat.zero_le _) h0
      · exact p2 a b h0 (by omega) h2
    · rw [p3 c k (fun e a b h0 h1 h2 => h e a b h0 (by omega) h2), q3 c k (fun ⟨e, h1, h2⟩ => h e (k - ((y / 4 + j) * vd_fo pl + x / 4)) j (by omega) (Nat.le_refl _) (by omega) (by omega))]
/-- a block without numbers is marked so, as it was -/
theorem vd_L235a {K : Nat → Nat → Nat → Int} (hN : vd_SR N) (hpl : pl < 3) {g : Nat → Nat → Int32} (hk : vd_KH K g) {x y w h b : Nat} (hx4 : x % 4 = 0) (hy4 : y % 4 = 0) (hw4 : w % 4 = 0) (hx : x + w ≤ 4 * vd_fo pl) (hb : y + 4 * b < 4 * vd_fo pl) (hK : ∀ a, a < w / 4 → K pl (x / 4 + a) (y / 4 + b) ≠ 2) (x2 x7 x8 : Int32) (a11 a12 a13 : Value) (d : Nat) (Q : vd_M → (Option Value ⊕ Nat) → Prop) : ∀ (m a : Nat), a + m = w / 4 → vd_wp (d + 2) 235 101 [.ref 63, .int (vd_I (pl : Int)), .int x2, .int (vd_I (x : Int)), .int (vd_I (y : Int)), .int (vd_I (w : Int)), .int (vd_I (h : Int)), .int x7, .int x8, .int (vd_I ((y + 4 * b : Nat) : Int)), .int (vd_I ((x + 4 * a : Nat) : Int)), a11, a12, a13] [] (vd_mf N g) Q = vd_wp (d + 2) 235 126 [.ref 63, .int (vd_I (pl : Int)), .int x2, .int (vd_I (x : Int)), .int (vd_I (y : Int)), .int (vd_I (w : Int)), .int (vd_I (h : Int)), .int x7, .int x8, .int (vd_I ((y + 4 * b : Nat) : Int)), .int (vd_I ((x + w : Nat) : Int)), a11, a12, a13] [] (vd_mf N g) Q := by
  have fo48 : vd_fo pl ≤ 48 := by unfold vd_fo; split <;> omega
  intro m
  induction m with
  | zero =>
    intro a ha
    have e : x + 4 * a = x + w := by omega
    have c : ¬ (((x + w : Nat) : Int) < (x : Int) + (w : Int)) := by omega
    rw [e, vd_S235_101 hN]
    simp (disch := omega) only [vd_I_add, vd_I_toInt, c, if_false]
  | succ m ih =>
    intro a ha
    have c1 : ((x + 4 * a : Nat) : Int) < (x : Int) + (w : Int) := by omega
    have e1 : ((x + 4 * a : Nat) : Int) + 4 = ((x + 4 * (a + 1) : Nat) : Int) := by omega
    have P := vd_P237 (g := g) hN hpl (r := 0) (Or.inl rfl) (X := x + 4 * a) (Y := y + 4 * b) (by omega) (by omega)
    have kk := hk pl (x / 4 + a) (y / 4 + b) hpl (by omega) (by omega)
    rw [if_neg (hK a (by omega))] at kk
    rw [show (x + 4 * a) / 4 = x / 4 + a by omega, show (y + 4 * b) / 4 = y / 4 + b by omega, vd_up_self kk] at P
    rw [← ih (a + 1) (by omega), vd_S235_101 hN]
    simp (disch := omega) only [vd_I_add, vd_I_toInt, c1, if_true, vd_S235_110 hN, vd_S235_117 hN, P, vd_S235_120 hN, e1, vd_rs_v, vd_rs_n]
theorem vd_L235b {K : Nat → Nat → Nat → Int} (hN : vd_SR N) (hpl : pl < 3) {g : Nat → Nat → Int32} (hk : vd_KH K g) {x y w h : Nat} (hx4 : x % 4 = 0) (hy4 : y % 4 = 0) (hw4 : w % 4 = 0) (hh4 : h % 4 = 0) (hx : x + w ≤ 4 * vd_fo pl) (hy : y + h ≤ 4 * vd_fo pl) (hK : ∀ a b, a < w / 4 → b < h / 4 → K pl (x / 4 + a) (y / 4 + b) ≠ 2) (x2 x7 x8 : Int32) (a11 a12 a13 : Value) (d : Nat) (Q : vd_M → (Option Value ⊕ Nat) → Prop) : ∀ (m b : Nat) (a10 : Value), b + m = h / 4 → (m = 0 → a10 = .int (vd_I ((x + w : Nat) : Int))) → vd_wp (d + 2) 235 88 [.ref 63, .int (vd_I (pl : Int)), .int x2, .int (vd_I (x : Int)), .int (vd_I (y : Int)), .int (vd_I (w : Int)), .int (vd_I (h : Int)), .int x7, .int x8, .int (vd_I ((y + 4 * b : Nat) : Int)), a10, a11, a12, a13] [] (vd_mf N g) Q = vd_wp (d + 2) 235 132 [.ref 63, .int (vd_I (pl : Int)), .int x2, .int (vd_I (x : Int)), .int (vd_I (y : Int)), .int (vd_I (w : Int)), .int (vd_I (h : Int)), .int x7, .int x8, .int (vd_I ((y + h : Nat) : Int)), .int (vd_I ((x + w : Nat) : Int)), a11, a12, a13] [] (vd_mf N g) Q := by
  have fo48 : vd_fo pl ≤ 48 := by unfold vd_fo; split <;> omega
  intro m
  induction m with
  | zero =>
    intro b a10 hb ha
    rw [ha rfl]
    have e : y + 4 * b = y + h := by omega
    have c : ¬ (((y + h : Nat) : Int) < (y : Int) + (h : Int)) := by omega
    rw [e, vd_S235_88 hN]
    simp (disch := omega) only [vd_I_add, vd_I_toInt, c, if_false]
  | succ m ih =>
    intro b a10 hb ha
    have c1 : ((y + 4 * b : Nat) : Int) < (y : Int) + (h : Int) := by omega
    have e1 : ((y + 4 * b : Nat) : Int) + 4 = ((y + 4 * (b + 1) : Nat) : Int) := by omega
    have p := ih (b + 1) (.int (vd_I ((x + w : Nat) : Int))) (by omega) (fun _ => rfl)
    have l := vd_L235a (h := h) hN hpl hk hx4 hy4 hw4 hx (show y + 4 * b < 4 * vd_fo pl by omega) (fun a ha => hK a b ha (by omega)) x2 x7 x8 a11 a12 a13 d Q (w / 4) 0 (by omega)
    rw [show x + 4 * 0 = x by omega] at l
    rw [← p, vd_S235_88 hN]
    simp (disch := omega) only [vd_I_add, vd_I_toInt, c1, if_true, vd_S235_98 hN, l, vd_S235_126 hN, e1]
end VDMK
