/-! ===== the places round a block ===== -/
def vd_dx (w : Nat) (i : Nat) : Int := if i = 0 ∨ i = 5 then 0 else if i = 2 then (w : Int) - 1 else if i = 6 ∨ i = 7 then -2 else -1
def vd_dy (h : Nat) (i : Nat) : Int := if i = 1 ∨ i = 6 then 0 else if i = 3 then (h : Int) - 1 else if i = 5 ∨ i = 7 then -2 else -1
section VDPL
variable {M N : vd_M} {ow fa lo lf W H nb : Nat} {O : Nat → Nat → Option Nat} {B : Nat → Nat → Int} {X : Nat → Nat → Int} {mp : Nat → Nat → Int} {x y w h n : Nat} {f g : Nat → Nat → Int32}
theorem vd_P209 (hN : vd_SR N) (hG : vd_GB W H O B g) (hb : vd_by g x y w h) (w1 : W ≤ 24) (w2 : H ≤ 24) (hx : x < 24) (hy : y < 24) (hw : w ≤ 8) (hh : h ≤ 8) {i : Nat} (hi : i < 8) (d : Nat) (Q : vd_M → (Option Value ⊕ Nat) → Prop) : vd_wp (d + 1) 209 0 [.ref 63, .int (vd_I (i : Int)), vd_U, vd_U, vd_U, vd_U] [] (vd_mf N g) Q = Q (vd_mf N g) (.inl (some (.int (vd_I (vd_nu (vd_at W H O ((x : Int) + vd_dx w i) ((y : Int) + vd_dy h i)) (((y : Int) + vd_dy h i) * (W : Int) + ((x : Int) + vd_dx w i))))))) := by
  obtain ⟨b1, b2, b3, b4⟩ := hb
  have hW := hG.1.1
  have e8 : 8 * (w : Int) / 8 = (w : Int) := by omega
  have e8' : 8 * (h : Int) / 8 = (h : Int) := by omega
  have fin : ∀ (dx dy : Int), -2 ≤ dx → dx ≤ 8 → -2 ≤ dy → dy ≤ 8 → vd_wp (d + 1) 209 112 [.ref 63, .int (vd_I (i : Int)), .int (vd_I ((w : Int) - 1)), .int (vd_I ((h : Int) - 1)), .int (vd_I ((x : Int) + dx)), vd_U] [.int (vd_I dy), .int (vd_I (y : Int))] (vd_mf N g) Q = Q (vd_mf N g) (.inl (some (.int (vd_I (vd_nu (vd_at W H O ((x : Int) + dx) ((y : Int) + dy)) (((y : Int) + dy) * (W : Int) + ((x : Int) + dx))))))) := fun dx dy d1 d2 d3 d4 => by
    have P := fun (Q : vd_M → (Option Value ⊕ Nat) → Prop) => vd_P198 (d := d) (Q := Q) hN hG w1 w2 (a := (x : Int) + dx) (b := (y : Int) + dy) (by omega) (by omega) (by omega) (by omega)
    cases e : vd_at W H O ((x : Int) + dx) ((y : Int) + dy) with
    | none =>
      rw [e] at P
      simp (disch := omega) only [vd_S209_112 hN, vd_S209_120 hN, vd_S209_123 hN, vd_S209_139 hN, vd_S209_140 hN, P, vd_th, vd_nu, vd_rs_v, vd_rs_n, vd_I_toInt, vd_I_add, eq_self, if_true]
    | some k =>
      rw [e] at P
      simp (disch := omega) only [vd_S209_112 hN, vd_S209_120 hN, vd_S209_123 hN, vd_S209_126 hN, vd_S209_140 hN, P, vd_th, vd_nu, hW, vd_rs_v, vd_rs_n, vd_I_toInt, vd_I_add, vd_I_mul, show ¬ ((1 : Int) = 0) by decide, if_false]
  rcases (show i = 0 ∨ i = 1 ∨ i = 2 ∨ i = 3 ∨ i = 4 ∨ i = 5 ∨ i = 6 ∨ i = 7 by omega) with rfl | rfl | rfl | rfl | rfl | rfl | rfl | rfl
  · have hd : vd_dx w 0 = 0 := rfl
    have hd' : vd_dy h 0 = -1 := rfl
    rw [hd, hd']
    simp (disch := omega) only [vd_S209_0 hN, vd_S209_28 hN, vd_S209_33 hN, vd_S209_37 hN, vd_S209_42 hN, vd_S209_46 hN, vd_S209_52 hN, vd_S209_58 hN, vd_S209_63 hN, vd_S209_64 hN, vd_S209_76 hN, vd_S209_82 hN, vd_S209_86 hN, vd_S209_91 hN, vd_S209_95 hN, vd_S209_100 hN, vd_S209_106 hN, vd_S209_111 hN, vd_S209_126 hN, vd_S209_139 hN, vd_S209_140 hN, vd_S209_120 hN, vd_S209_123 hN, b1, b2, b3, b4, vd_I_div, e8, e8', vd_I_sub, vd_I_add, vd_I_toInt, show ((0 : Nat) : Int) = 0 from rfl, show ¬ ((0 : Int) = 1) by decide, show ¬ ((0 : Int) = 2) by decide, show ¬ ((0 : Int) = 3) by decide, show ¬ ((0 : Int) = 5) by decide, show ¬ ((0 : Int) = 6) by decide, show ¬ ((0 : Int) = 7) by decide, eq_self, if_true, if_false]
    exact fin (0) (-1) (by omega) (by omega) (by omega) (by omega)
  · have hd : vd_dx w 1 = -1 := rfl
    have hd' : vd_dy h 1 = 0 := rfl
    rw [hd, hd']
    simp (disch := omega) only [vd_S209_0 hN, vd_S209_28 hN, vd_S209_33 hN, vd_S209_37 hN, vd_S209_42 hN, vd_S209_46 hN, vd_S209_52 hN, vd_S209_58 hN, vd_S209_63 hN, vd_S209_64 hN, vd_S209_76 hN, vd_S209_82 hN, vd_S209_86 hN, vd_S209_91 hN, vd_S209_95 hN, vd_S209_100 hN, vd_S209_106 hN, vd_S209_111 hN, vd_S209_126 hN, vd_S209_139 hN, vd_S209_140 hN, vd_S209_120 hN, vd_S209_123 hN, b1, b2, b3, b4, vd_I_div, e8, e8', vd_I_sub, vd_I_add, vd_I_toInt, show ((1 : Nat) : Int) = 1 from rfl, show ¬ ((1 : Int) = 0) by decide, show ¬ ((1 : Int) = 2) by decide, show ¬ ((1 : Int) = 3) by decide, show ¬ ((1 : Int) = 5) by decide, show ¬ ((1 : Int) = 6) by decide, show ¬ ((1 : Int) = 7) by decide, eq_self, if_true, if_false]
    exact fin (-1) (0) (by omega) (by omega) (by omega) (by omega)
  · have hd : vd_dx w 2 = (w : Int) - 1 := rfl
    have hd' : vd_dy h 2 = -1 := rfl
    rw [hd, hd']
    simp (disch := omega) only [vd_S209_0 hN, vd_S209_28 hN, vd_S209_33 hN, vd_S209_37 hN, vd_S209_42 hN, vd_S209_46 hN, vd_S209_52 hN, vd_S209_58 hN, vd_S209_63 hN, vd_S209_64 hN, vd_S209_76 hN, vd_S209_82 hN, vd_S209_86 hN, vd_S209_91 hN, vd_S209_95 hN, vd_S209_100 hN, vd_S209_106 hN, vd_S209_111 hN, vd_S209_126 hN, vd_S209_139 hN, vd_S209_140 hN, vd_S209_120 hN, vd_S209_123 hN, b1, b2, b3, b4, vd_I_div, e8, e8', vd_I_sub, vd_I_add, vd_I_toInt, show ((2 : Nat) : Int) = 2 from rfl, show ¬ ((2 : Int) = 0) by decide, show ¬ ((2 : Int) = 1) by decide, show ¬ ((2 : Int) = 3) by decide, show ¬ ((2 : Int) = 5) by decide, show ¬ ((2 : Int) = 6) by decide, show ¬ ((2 : Int) = 7) by decide, eq_self, if_true, if_false]
    exact fin ((w : Int) - 1) (-1) (by omega) (by omega) (by omega) (by omega)
  · have hd : vd_dx w 3 = -1 := rfl
    have hd' : vd_dy h 3 = (h : Int) - 1 := rfl
    rw [hd, hd']
    simp (disch := omega) only [vd_S209_0 hN, vd_S209_28 hN, vd_S209_33 hN, vd_S209_37 hN, vd_S209_42 hN, vd_S209_46 hN, vd_S209_52 hN, vd_S209_58 hN, vd_S209_63 hN, vd_S209_64 hN, vd_S209_76 hN, vd_S209_82 hN, vd_S209_86 hN, vd_S209_91 hN, vd_S209_95 hN, vd_S209_100 hN, vd_S209_106 hN, vd_S209_111 hN, vd_S209_126 hN, vd_S209_139 hN, vd_S209_140 hN, vd_S209_120 hN, vd_S209_123 hN, b1, b2, b3, b4, vd_I_div, e8, e8', vd_I_sub, vd_I_add, vd_I_toInt, show ((3 : Nat) : Int) = 3 from rfl, show ¬ ((3 : Int) = 0) by decide, show ¬ ((3 : Int) = 1) by decide, show ¬ ((3 : Int) = 2) by decide, show ¬ ((3 : Int) = 5) by decide, show ¬ ((3 : Int) = 6) by decide, show ¬ ((3 : Int) = 7) by decide, eq_self, if_true, if_false]
    exact fin (-1) ((h : Int) - 1) (by omega) (by omega) (by omega) (by omega)
  · have hd : vd_dx w 4 = -1 := rfl
    have hd' : vd_dy h 4 = -1 := rfl
    rw [hd, hd']
    simp (disch := omega) only [vd_S209_0 hN, vd_S209_28 hN, vd_S209_33 hN, vd_S209_37 hN, vd_S209_42 hN, vd_S209_46 hN, vd_S209_52 hN, vd_S209_58 hN, vd_S209_63 hN, vd_S209_64 hN, vd_S209_76 hN, vd_S209_82 hN, vd_S209_86 hN, vd_S209_91 hN, vd_S209_95 hN, vd_S209_100 hN, vd_S209_106 hN, vd_S209_111 hN, vd_S209_126 hN, vd_S209_139 hN, vd_S209_140 hN, vd_S209_120 hN, vd_S209_123 hN, b1, b2, b3, b4, vd_I_div, e8, e8', vd_I_sub, vd_I_add, vd_I_toInt, show ((4 : Nat) : Int) = 4 from rfl, show ¬ ((4 : Int) = 0) by decide, show ¬ ((4 : Int) = 1) by decide, show ¬ ((4 : Int) = 2) by decide, show ¬ ((4 : Int) = 3) by decide, show ¬ ((4 : Int) = 5) by decide, show ¬ ((4 : Int) = 6) by decide, show ¬ ((4 : Int) = 7) by decide, eq_self, if_true, if_false]
    exact fin (-1) (-1) (by omega) (by omega) (by omega) (by omega)
  · have hd : vd_dx w 5 = 0 := rfl
    have hd' : vd_dy h 5 = -2 := rfl
    rw [hd, hd']
    simp (disch := omega) only [vd_S209_0 hN, vd_S209_28 hN, vd_S209_33 hN, vd_S209_37 hN, vd_S209_42 hN, vd_S209_46 hN, vd_S209_52 hN, vd_S209_58 hN, vd_S209_63 hN, vd_S209_64 hN, vd_S209_76 hN, vd_S209_82 hN, vd_S209_86 hN, vd_S209_91 hN, vd_S209_95 hN, vd_S209_100 hN, vd_S209_106 hN, vd_S209_111 hN, vd_S209_126 hN, vd_S209_139 hN, vd_S209_140 hN, vd_S209_120 hN, vd_S209_123 hN, b1, b2, b3, b4, vd_I_div, e8, e8', vd_I_sub, vd_I_add, vd_I_toInt, show ((5 : Nat) : Int) = 5 from rfl, show ¬ ((5 : Int) = 0) by decide, show ¬ ((5 : Int) = 1) by decide, show ¬ ((5 : Int) = 2) by decide, show ¬ ((5 : Int) = 3) by decide, show ¬ ((5 : Int) = 6) by decide, show ¬ ((5 : Int) = 7) by decide, eq_self, if_true, if_false]
    exact fin (0) (-2) (by omega) (by omega) (by omega) (by omega)
  · have hd : vd_dx w 6 = -2 := rfl
    have hd' : vd_dy h 6 = 0 := rfl
    rw [hd, hd']
    simp (disch := omega) only [vd_S209_0 hN, vd_S209_28 hN, vd_S209_33 hN, vd_S209_37 hN, vd_S209_42 hN, vd_S209_46 hN, vd_S209_52 hN, vd_S209_58 hN, vd_S209_63 hN, vd_S209_64 hN, vd_S209_76 hN, vd_S209_82 hN, vd_S209_86 hN, vd_S209_91 hN, vd_S209_95 hN, vd_S209_100 hN, vd_S209_106 hN, vd_S209_111 hN, vd_S209_126 hN, vd_S209_139 hN, vd_S209_140 hN, vd_S209_120 hN, vd_S209_123 hN, b1, b2, b3, b4, vd_I_div, e8, e8', vd_I_sub, vd_I_add, vd_I_toInt, show ((6 : Nat) : Int) = 6 from rfl, show ¬ ((6 : Int) = 0) by decide, show ¬ ((6 : Int) = 1) by decide, show ¬ ((6 : Int) = 2) by decide, show ¬ ((6 : Int) = 3) by decide, show ¬ ((6 : Int) = 5) by decide, show ¬ ((6 : Int) = 7) by decide, eq_self, if_true, if_false]
    exact fin (-2) (0) (by omega) (by omega) (by omega) (by omega)
  · have hd : vd_dx w 7 = -2 := rfl
    have hd' : vd_dy h 7 = -2 := rfl
    rw [hd, hd']
    simp (disch := omega) only [vd_S209_0 hN, vd_S209_28 hN, vd_S209_33 hN, vd_S209_37 hN, vd_S209_42 hN, vd_S209_46 hN, vd_S209_52 hN, vd_S209_58 hN, vd_S209_63 hN, vd_S209_64 hN, vd_S209_76 hN, vd_S209_82 hN, vd_S209_86 hN, vd_S209_91 hN, vd_S209_95 hN, vd_S209_100 hN, vd_S209_106 hN, vd_S209_111 hN, vd_S209_126 hN, vd_S209_139 hN, vd_S209_140 hN, vd_S209_120 hN, vd_S209_123 hN, b1, b2, b3, b4, vd_I_div, e8, e8', vd_I_sub, vd_I_add, vd_I_toInt, show ((7 : Nat) : Int) = 7 from rfl, show ¬ ((7 : Int) = 0) by decide, show ¬ ((7 : Int) = 1) by decide, show ¬ ((7 : Int) = 2) by decide, show ¬ ((7 : Int) = 3) by decide, show ¬ ((7 : Int) = 5) by decide, show ¬ ((7 : Int) = 6) by decide, eq_self, if_true, if_false]
    exact fin (-2) (-2) (by omega) (by omega) (by omega) (by omega)
end VDPL
