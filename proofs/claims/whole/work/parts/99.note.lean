/-! ===== note: a block's facts for each of its units ===== -/
def vd_nb (b : Nat → Int) (g : Nat → Nat → Int32) : Prop := (g 63 99 = vd_I (b 0) ∧ g 63 100 = vd_I (b 1) ∧ g 63 97 = vd_I (8 * b 2) ∧ g 63 98 = vd_I (8 * b 3) ∧ g 63 103 = vd_I (b 4) ∧ g 63 110 = vd_I (b 5)) ∧ (g 63 105 = vd_I (b 6) ∧ g 63 106 = vd_I (b 7) ∧ g 63 107 = vd_I (b 8) ∧ g 63 111 = vd_I (if b 7 < 0 then 1 else 0)) ∧ (g 117 0 = vd_I (b 9) ∧ g 117 1 = vd_I (b 10) ∧ g 63 108 = vd_I (b 11)) ∧ (g 118 0 = vd_I (b 12) ∧ g 119 0 = vd_I (b 13) ∧ g 118 1 = vd_I (b 14) ∧ g 119 1 = vd_I (b 15)) ∧ (g 63 109 = vd_I (b 16) ∧ g 63 112 = vd_I (b 17))
theorem vd_nb.keep {b : Nat → Int} {g g' : Nat → Nat → Int32} (k : vd_nb b g) (h : ∀ c i, c = 63 ∨ 105 ≤ c → g' c i = g c i) : vd_nb b g' := by
  obtain ⟨⟨a1, a2, a3, a4, a5, a6⟩, ⟨b1, b2, b3, b4⟩, ⟨c1, c2, c3⟩, ⟨d1, d2, d3, d4⟩, e1, e2⟩ := k
  refine ⟨⟨?_, ?_, ?_, ?_, ?_, ?_⟩, ⟨?_, ?_, ?_, ?_⟩, ⟨?_, ?_, ?_⟩, ⟨?_, ?_, ?_, ?_⟩, ?_, ?_⟩ <;> rw [h _ _ (by omega)] <;> assumption
/-- the unit u has the block's facts -/
def vd_nd (b : Nat → Int) (g : Nat → Nat → Int32) (u : Nat) : Prop := g 88 u = vd_I 1 ∧ (g 92 u = vd_I (b 0) ∧ g 93 u = vd_I (b 1) ∧ g 94 u = vd_I (b 2) ∧ g 95 u = vd_I (b 3) ∧ g 96 u = vd_I (b 4) ∧ g 89 u = vd_I (b 5)) ∧ (g 97 u = vd_I (b 6) ∧ g 98 u = vd_I (b 7) ∧ g 99 u = vd_I (b 8) ∧ g 90 u = vd_I (if b 7 < 0 then 1 else 0)) ∧ (g 102 (2 * u) = vd_I (b 9) ∧ g 102 (2 * u + 1) = vd_I (b 10) ∧ g 100 u = vd_I (b 11)) ∧ (g 103 (2 * u) = vd_I (b 12) ∧ g 104 (2 * u) = vd_I (b 13) ∧ g 103 (2 * u + 1) = vd_I (b 14) ∧ g 104 (2 * u + 1) = vd_I (b 15)) ∧ (g 101 u = vd_I (b 16) ∧ g 91 u = vd_I (b 17))
/-- what the unit's noting touches -/
def vd_nk (c q u : Nat) : Prop := (88 ≤ c ∧ c ≤ 101 ∧ q = u) ∨ (102 ≤ c ∧ c ≤ 104 ∧ (q = 2 * u ∨ q = 2 * u + 1))
theorem vd_nd.keep {b : Nat → Int} {g g' : Nat → Nat → Int32} {u : Nat} (k : vd_nd b g u) (h : ∀ c q, vd_nk c q u → g' c q = g c q) : vd_nd b g' u := by
  obtain ⟨z1, ⟨a1, a2, a3, a4, a5, a6⟩, ⟨b1, b2, b3, b4⟩, ⟨c1, c2, c3⟩, ⟨d1, d2, d3, d4⟩, e1, e2⟩ := k
  refine ⟨?_, ⟨?_, ?_, ?_, ?_, ?_, ?_⟩, ⟨?_, ?_, ?_, ?_⟩, ⟨?_, ?_, ?_⟩, ⟨?_, ?_, ?_, ?_⟩, ?_, ?_⟩ <;> rw [h _ _ (by unfold vd_nk; omega)] <;> assumption
theorem vd_bst {b : Int} (h : b = 0 ∨ b = 1) : vd_I b &&& 1 = vd_I b := by
  rcases h with rfl | rfl <;> decide
section VDNT
variable {N : vd_M} {b : Nat → Int} {W H x y w h : Nat}
theorem vd_note1 (hN : vd_SR N) {g : Nat → Nat → Int32} (k : vd_nb b g) (hb5 : b 5 = 0 ∨ b 5 = 1) (hb17 : b 17 = 0 ∨ b 17 = 1) (hb0 : b 0 = (x : Int)) (hb2 : b 2 = (w : Int)) (hb3 : 0 ≤ b 3 ∧ b 3 ≤ 8) (hx : x < 24) (hw : w ≤ 8) (hW : g 63 26 = vd_I (W : Int)) (w1 : W ≤ 24) {i j u : Nat} (hj : j < 24) (hi : i < W) (hix : i < x + w) (hu : (j : Int) * (W : Int) + (i : Int) = (u : Int)) (hu2 : u < 576) : ∃ g1, (∀ a3 a4 d Q, vd_wp d 221 34 [.ref 63, .int (vd_I (j : Int)), .int (vd_I (i : Int)), a3, a4] [] (vd_mf N g) Q = vd_wp d 221 213 [.ref 63, .int (vd_I (j : Int)), .int (vd_I (i : Int)), .int (vd_I (u : Int)), .int (vd_I 0)] [] (vd_mf N g1) Q) ∧ (g1 88 u = vd_I 1 ∧ g1 92 u = vd_I (b 0) ∧ g1 93 u = vd_I (b 1) ∧ g1 94 u = vd_I (b 2) ∧ g1 95 u = vd_I (b 3) ∧ g1 96 u = vd_I (b 4) ∧ g1 89 u = vd_I (b 5) ∧ g1 90 u = vd_I (if b 7 < 0 then 1 else 0) ∧ g1 91 u = vd_I (b 17) ∧ g1 97 u = vd_I (b 6) ∧ g1 98 u = vd_I (b 7) ∧ g1 99 u = vd_I (b 8) ∧ g1 100 u = vd_I (b 11) ∧ g1 101 u = vd_I (b 16)) ∧ (∀ c q, ¬ (88 ≤ c ∧ c ≤ 101 ∧ q = u) → g1 c q = g c q) := by
  obtain ⟨⟨a1, a2, a3, a4, a5, a6⟩, ⟨b1, b2, b3, b4⟩, ⟨c1, c2, c3⟩, ⟨d1, d2, d3, d4⟩, e1, e2⟩ := k
  have eo := vd_bst (b := if b 7 < 0 then 1 else 0) (by split <;> omega)
  have e5 := vd_bst hb5
  have e17 := vd_bst hb17
  have et := vd_bst (b := 1) (Or.inr rfl)
  have ew : (8 * b 2) / 8 = b 2 := by omega
  have eh : (8 * b 3) / 8 = b 3 := by omega
  have q1 : (i : Int) < b 0 + b 2 := by omega
  have q2 : (i : Int) < (W : Int) := by omega
  refine ⟨vd_up (vd_up (vd_up (vd_up (vd_up (vd_up (vd_up (vd_up (vd_up (vd_up (vd_up (vd_up (vd_up (vd_up g 88 u (vd_I 1)) 92 u (vd_I (b 0))) 93 u (vd_I (b 1))) 94 u (vd_I (b 2))) 95 u (vd_I (b 3))) 96 u (vd_I (b 4))) 89 u (vd_I (b 5))) 90 u (vd_I (if b 7 < 0 then 1 else 0))) 91 u (vd_I (b 17))) 97 u (vd_I (b 6))) 98 u (vd_I (b 7))) 99 u (vd_I (b 8))) 100 u (vd_I (b 11))) 101 u (vd_I (b 16)), fun x3 x4 d Q => ?_, ⟨by rw [vd_up_ne (by omega), vd_up_ne (by omega), vd_up_ne (by omega), vd_up_ne (by omega), vd_up_ne (by omega), vd_up_ne (by omega), vd_up_ne (by omega), vd_up_ne (by omega), vd_up_ne (by omega), vd_up_ne (by omega), vd_up_ne (by omega), vd_up_ne (by omega), vd_up_ne (by omega), vd_up_eq], by rw [vd_up_ne (by omega), vd_up_ne (by omega), vd_up_ne (by omega), vd_up_ne (by omega), vd_up_ne (by omega), vd_up_ne (by omega), vd_up_ne (by omega), vd_up_ne (by omega), vd_up_ne (by omega), vd_up_ne (by omega), vd_up_ne (by omega), vd_up_ne (by omega), vd_up_eq], by rw [vd_up_ne (by omega), vd_up_ne (by omega), vd_up_ne (by omega), vd_up_ne (by omega), vd_up_ne (by omega), vd_up_ne (by omega), vd_up_ne (by omega), vd_up_ne (by omega), vd_up_ne (by omega), vd_up_ne (by omega), vd_up_ne (by omega), vd_up_eq], by rw [vd_up_ne (by omega), vd_up_ne (by omega), vd_up_ne (by omega), vd_up_ne (by omega), vd_up_ne (by omega), vd_up_ne (by omega), vd_up_ne (by omega), vd_up_ne (by omega), vd_up_ne (by omega), vd_up_ne (by omega), vd_up_eq], by rw [vd_up_ne (by omega), vd_up_ne (by omega), vd_up_ne (by omega), vd_up_ne (by omega), vd_up_ne (by omega), vd_up_ne (by omega), vd_up_ne (by omega), vd_up_ne (by omega), vd_up_ne (by omega), vd_up_eq], by rw [vd_up_ne (by omega), vd_up_ne (by omega), vd_up_ne (by omega), vd_up_ne (by omega), vd_up_ne (by omega), vd_up_ne (by omega), vd_up_ne (by omega), vd_up_ne (by omega), vd_up_eq], by rw [vd_up_ne (by omega), vd_up_ne (by omega), vd_up_ne (by omega), vd_up_ne (by omega), vd_up_ne (by omega), vd_up_ne (by omega), vd_up_ne (by omega), vd_up_eq], by rw [vd_up_ne (by omega), vd_up_ne (by omega), vd_up_ne (by omega), vd_up_ne (by omega), vd_up_ne (by omega), vd_up_ne (by omega), vd_up_eq], by rw [vd_up_ne (by omega), vd_up_ne (by omega), vd_up_ne (by omega), vd_up_ne (by omega), vd_up_ne (by omega), vd_up_eq], by rw [vd_up_ne (by omega), vd_up_ne (by omega), vd_up_ne (by omega), vd_up_ne (by omega), vd_up_eq], by rw [vd_up_ne (by omega), vd_up_ne (by omega), vd_up_ne (by omega), vd_up_eq], by rw [vd_up_ne (by omega), vd_up_ne (by omega), vd_up_eq], by rw [vd_up_ne (by omega), vd_up_eq], by rw [vd_up_eq]⟩, fun c q hq => by rw [vd_up_ne (by omega), vd_up_ne (by omega), vd_up_ne (by omega), vd_up_ne (by omega), vd_up_ne (by omega), vd_up_ne (by omega), vd_up_ne (by omega), vd_up_ne (by omega), vd_up_ne (by omega), vd_up_ne (by omega), vd_up_ne (by omega), vd_up_ne (by omega), vd_up_ne (by omega), vd_up_ne (by omega)]⟩
  rw [vd_S221_34 hN]
  simp (disch := omega) only [vd_S221_50 hN, vd_S221_58 hN, vd_S221_73 hN, vd_S221_83 hN, vd_S221_93 hN, vd_S221_106 hN, vd_S221_119 hN, vd_S221_129 hN, vd_S221_139 hN, vd_S221_149 hN, vd_S221_159 hN, vd_S221_169 hN, vd_S221_179 hN, vd_S221_189 hN, vd_S221_199 hN, vd_S221_209 hN, a1, a2, a3, a4, a5, a6, b1, b2, b3, b4, c3, e1, e2, hW, vd_I_mul, vd_I_add, hu, vd_I_div, ew, eh, vd_I_toInt, q1, q2, if_true, Int.toNat_natCast, eo, e5, e17, et, vd_up_at, Nat.reduceEqDiff, false_and, if_false]
theorem vd_note2 (hN : vd_SR N) {g : Nat → Nat → Int32} (k : vd_nb b g) {u : Nat} (hu : u < 576) (x1 x2 : Int32) : ∃ g1, (∀ d Q, vd_wp d 221 213 [.ref 63, .int x1, .int x2, .int (vd_I (u : Int)), .int (vd_I 0)] [] (vd_mf N g) Q = vd_wp d 221 279 [.ref 63, .int x1, .int x2, .int (vd_I (u : Int)), .int (vd_I 2)] [] (vd_mf N g1) Q) ∧ ((g1 102 (2 * u) = vd_I (b 9) ∧ g1 102 (2 * u + 1) = vd_I (b 10)) ∧ (g1 103 (2 * u) = vd_I (b 12) ∧ g1 104 (2 * u) = vd_I (b 13) ∧ g1 103 (2 * u + 1) = vd_I (b 14) ∧ g1 104 (2 * u + 1) = vd_I (b 15))) ∧ (∀ c q, ¬ (102 ≤ c ∧ c ≤ 104 ∧ (q = 2 * u ∨ q = 2 * u + 1)) → g1 c q = g c q) := by
  obtain ⟨_, _, ⟨c1, c2, c3⟩, ⟨d1, d2, d3, d4⟩, _, _⟩ := k
  have i0 : (0 : Int).toNat = 0 := rfl
  have i1 : (1 : Int).toNat = 1 := rfl
  have n0 : (2 * (u : Int)).toNat = 2 * u := by omega
  have n1 : (2 * (u : Int) + 1).toNat = 2 * u + 1 := by omega
  refine ⟨vd_up (vd_up (vd_up (vd_up (vd_up (vd_up g 102 (2 * u) (vd_I (b 9))) 103 (2 * u) (vd_I (b 12))) 104 (2 * u) (vd_I (b 13))) 102 (2 * u + 1) (vd_I (b 10))) 103 (2 * u + 1) (vd_I (b 14))) 104 (2 * u + 1) (vd_I (b 15)), fun d Q => ?_, ⟨⟨?_, ?_⟩, ?_, ?_, ?_, ?_⟩, fun c q hq => ?_⟩
  rotate_left
  · rw [vd_up_ne (by omega), vd_up_ne (by omega), vd_up_ne (by omega), vd_up_ne (by omega), vd_up_ne (by omega), vd_up_eq]
  · rw [vd_up_ne (by omega), vd_up_ne (by omega), vd_up_eq]
  · rw [vd_up_ne (by omega), vd_up_ne (by omega), vd_up_ne (by omega), vd_up_ne (by omega), vd_up_eq]
  · rw [vd_up_ne (by omega), vd_up_ne (by omega), vd_up_ne (by omega), vd_up_eq]
  · rw [vd_up_ne (by omega), vd_up_eq]
  · rw [vd_up_eq]
  · rw [vd_up_ne (by omega), vd_up_ne (by omega), vd_up_ne (by omega), vd_up_ne (by omega), vd_up_ne (by omega), vd_up_ne (by omega)]
  · rw [vd_S221_213 hN]
    simp (disch := omega) only [vd_S221_219 hN, vd_S221_235 hN, vd_S221_236 hN, vd_S221_253 hN, vd_S221_254 hN, vd_S221_271 hN, vd_S221_272 hN, vd_I_toInt, show (0 : Int) < 2 by decide, if_true, i0, c1, d1, d2, vd_I_mul, vd_I_add, Int.add_zero, n0, vd_up_at, Nat.reduceEqDiff, false_and, if_false, show (0 + 1 : Int) = 1 from rfl]
    rw [vd_S221_213 hN]
    simp (disch := omega) only [vd_S221_219 hN, vd_S221_235 hN, vd_S221_236 hN, vd_S221_253 hN, vd_S221_254 hN, vd_S221_271 hN, vd_S221_272 hN, vd_I_toInt, show (1 : Int) < 2 by decide, if_true, i1, c2, d3, d4, vd_I_mul, vd_I_add, n1, vd_up_at, Nat.reduceEqDiff, false_and, if_false, show (1 + 1 : Int) = 2 from rfl]
    rw [vd_S221_213 hN]
    simp (disch := omega) only [vd_I_toInt, Int.lt_irrefl, if_false]
end VDNT
