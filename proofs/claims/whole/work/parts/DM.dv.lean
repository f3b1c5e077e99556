/-! ===== a square of units is divided ===== -/
section VDDV
variable {M N : vd_M} {ow fa lo lf W H p s q : Nat} {X : Nat → Nat → Int} {mo : Int} {L : Nat → Nat → Nat → Int} {Z : Nat → Nat → Nat → Nat} {R : Nat → Nat → Nat → Nat → Int} {pw ph : Int}
def vd_DvP (M N : vd_M) (ow fa lo lf W H s q : Nat) (X : Nat → Nat → Int) (mo : Int) (L : Nat → Nat → Nat → Int) (Z : Nat → Nat → Nat → Nat) (R : Nat → Nat → Nat → Nat → Int) (pw ph : Int) (side c dp : Nat) : Prop := ∀ (x y nb n : Nat) (O : Nat → Nat → Option Nat) (B mp : Nat → Nat → Int) (P K : Nat → Nat → Nat → Int) (f g : Nat → Nat → Int32), vd_DS M N ow fa lo lf W H s q X mo L Z R pw ph nb n O B mp P K f g → 8 * x + 8 * side ≤ vd_ws 0 pw → 8 * y + 8 * side ≤ vd_ws 0 ph → (∀ pl a e, pl < 3 → vd_ar pl x y side side a e → K pl a e = 0) → nb + side * side ≤ 576 → n + c ≤ 8000000 → ∃ f' g' : Nat → Nat → Int32, (∀ d Q, vd_wp (d + dp + 5) 66 0 [.ref 44, .int (vd_I (x : Int)), .int (vd_I (y : Int)), .int (vd_I (side : Int)), vd_U, vd_U, vd_U, vd_U] [] (vd_mf M f) Q = Q (vd_mf M f') (.inl none)) ∧ (∀ d Q, vd_wp (d + dp + 7) 195 0 [.ref 63, .int (vd_I (8 * (x : Int))), .int (vd_I (8 * (y : Int))), .int (vd_I (8 * (side : Int))), vd_U, vd_U, vd_U, vd_U, vd_U, vd_U, vd_U, vd_U, vd_U] [] (vd_mf N g) Q = Q (vd_mf N g') (.inl none)) ∧ vd_DT M N ow fa lo lf W H s q X mo L Z R pw ph x y side side c (side * side) nb n O K f g f' g'
/-- outside the picture nothing is done -/
theorem vd_dvOut (hC : vd_DC M N ow fa lo lf W H p s q X mo L Z R pw ph) {x y side c nb n : Nat} {O : Nat → Nat → Option Nat} {B mp : Nat → Nat → Int} {P K : Nat → Nat → Nat → Int} {f g : Nat → Nat → Int32} (ds : vd_DS M N ow fa lo lf W H s q X mo L Z R pw ph nb n O B mp P K f g) (hx : 8 * x + 8 * side ≤ vd_ws 0 pw) (hy : 8 * y + 8 * side ≤ vd_ws 0 ph) (ho : ¬ (x < W ∧ y < H)) : (∀ d Q, vd_wp d 66 0 [.ref 44, .int (vd_I (x : Int)), .int (vd_I (y : Int)), .int (vd_I (side : Int)), vd_U, vd_U, vd_U, vd_U] [] (vd_mf M f) Q = Q (vd_mf M f) (.inl none)) ∧ (∀ d Q, vd_wp d 195 0 [.ref 63, .int (vd_I (8 * (x : Int))), .int (vd_I (8 * (y : Int))), .int (vd_I (8 * (side : Int))), vd_U, vd_U, vd_U, vd_U, vd_U, vd_U, vd_U, vd_U, vd_U] [] (vd_mf N g) Q = Q (vd_mf N g) (.inl none)) ∧ vd_DT M N ow fa lo lf W H s q X mo L Z R pw ph x y side side c (side * side) nb n O K f g f g := by
  obtain ⟨⟨hM, hN⟩, ⟨hp, h44⟩, ⟨hq, hnow⟩, hX, hW, kv, hZ, hR⟩ := id hC
  obtain ⟨f2, f3⟩ := ds.1.2.1.1
  obtain ⟨g26, g27⟩ := ds.1.2.2.1.1
  have wsb := (vd_ws_b (pl := 0) kv.2.1.1 kv.2.1.2).1
  have hsb := (vd_ws_b (pl := 0) kv.2.2.1 kv.2.2.2).1
  have sd : vd_sd 0 = 192 := rfl
  refine ⟨fun d Q => ?_, fun d Q => ?_, nb, O, B, mp, P, K, ds.mono (by omega), by omega, fun _ _ _ _ => rfl, fun _ _ h => h, fun i j h1 h2 h3 h4 h5 h6 => absurd ⟨by omega, by omega⟩ ho, vd_fBk.refl _ _ _ _, vd_gBk.refl _ _⟩
  · by_cases c1 : x < W
    · have c1' : (x : Int) < (W : Int) := by omega
      have c2' : ¬ ((y : Int) < (H : Int)) := by omega
      simp (disch := omega) only [vd_S66_0 hM, h44, vd_vr_some, vd_S66_4 hM, vd_S66_7 hM, f2, f3, vd_I_toInt, c1', if_true, vd_S66_18 hM, c2', if_false, vd_S66_29 hM]
    · have c1' : ¬ ((x : Int) < (W : Int)) := by omega
      simp (disch := omega) only [vd_S66_0 hM, h44, vd_vr_some, vd_S66_4 hM, vd_S66_7 hM, f2, vd_I_toInt, c1', if_false, vd_S66_29 hM]
  · by_cases c1 : x < W
    · have c1' : 8 * (x : Int) < 8 * (W : Int) := by omega
      have c2' : ¬ (8 * (y : Int) < 8 * (H : Int)) := by omega
      simp (disch := omega) only [vd_S195_0 hN, g26, g27, vd_I_mul, vd_I_toInt, c1', if_true, vd_S195_11 hN, c2', if_false, vd_S195_22 hN]
    · have c1' : ¬ (8 * (x : Int) < 8 * (W : Int)) := by omega
      simp (disch := omega) only [vd_S195_0 hN, g26, vd_I_mul, vd_I_toInt, c1', if_false, vd_S195_22 hN]
theorem vd_dvIn (hC : vd_DC M N ow fa lo lf W H p s q X mo L Z R pw ph) {x y nb n : Nat} {O : Nat → Nat → Option Nat} {B mp : Nat → Nat → Int} {P K : Nat → Nat → Nat → Int} {f g : Nat → Nat → Int32} (ds : vd_DS M N ow fa lo lf W H s q X mo L Z R pw ph nb n O B mp P K f g) (hx : x < W) (hy : y < H) (x3 y3 : Int32) : (∀ d Q, vd_wp d 66 0 [.ref 44, .int (vd_I (x : Int)), .int (vd_I (y : Int)), .int x3, vd_U, vd_U, vd_U, vd_U] [] (vd_mf M f) Q = vd_wp d 66 30 [.ref 44, .int (vd_I (x : Int)), .int (vd_I (y : Int)), .int x3, vd_U, vd_U, vd_U, vd_U] [] (vd_mf M f) Q) ∧ (∀ d Q, vd_wp d 195 0 [.ref 63, .int (vd_I (8 * (x : Int))), .int (vd_I (8 * (y : Int))), .int y3, vd_U, vd_U, vd_U, vd_U, vd_U, vd_U, vd_U, vd_U, vd_U] [] (vd_mf N g) Q = vd_wp d 195 23 [.ref 63, .int (vd_I (8 * (x : Int))), .int (vd_I (8 * (y : Int))), .int y3, vd_U, vd_U, vd_U, vd_U, vd_U, vd_U, vd_U, vd_U, vd_U] [] (vd_mf N g) Q) := by
  obtain ⟨⟨hM, hN⟩, ⟨hp, h44⟩, ⟨hq, hnow⟩, hX, hW, kv, hZ, hR⟩ := id hC
  obtain ⟨f2, f3⟩ := ds.1.2.1.1
  obtain ⟨g26, g27⟩ := ds.1.2.2.1.1
  have c1 : (x : Int) < (W : Int) := by omega
  have c2 : (y : Int) < (H : Int) := by omega
  have c3 : 8 * (x : Int) < 8 * (W : Int) := by omega
  have c4 : 8 * (y : Int) < 8 * (H : Int) := by omega
  refine ⟨fun d Q => ?_, fun d Q => ?_⟩
  · simp (disch := omega) only [vd_S66_0 hM, h44, vd_vr_some, vd_S66_4 hM, vd_S66_7 hM, f2, f3, vd_I_toInt, c1, if_true, vd_S66_18 hM, c2]
  · simp (disch := omega) only [vd_S195_0 hN, g26, g27, vd_I_mul, vd_I_toInt, c3, if_true, vd_S195_11 hN, c4]
theorem vd_dv1 (hC : vd_DC M N ow fa lo lf W H p s q X mo L Z R pw ph) : vd_DvP M N ow fa lo lf W H s q X mo L Z R pw ph 1 6242 1 := by
  intro x y nb n O B mp P K f g ds hx hy hK hnb hn
  obtain ⟨⟨hM, hN⟩, ⟨hp, h44⟩, ⟨hq, hnow⟩, hX, hW, kv, hZ, hR⟩ := id hC
  by_cases ho : x < W ∧ y < H
  · obtain ⟨i1, i2⟩ := vd_dvIn hC ds ho.1 ho.2 (vd_I ((1 : Nat) : Int)) (vd_I (8 * ((1 : Nat) : Int)))
    obtain ⟨f1, g1, t1, t2, dt⟩ := vd_takeD (w := 1) (h := 1) hC ds ho.1 ho.2 (Or.inl rfl) (Or.inl rfl) (by omega) hx hy hK (by omega)
    have z1 : ((1 : Nat) : Int) = 1 := rfl
    have z8 : 8 * ((1 : Nat) : Int) = 8 := rfl
    refine ⟨f1, g1, fun d Q => ?_, fun d Q => ?_, dt⟩
    · rw [i1]
      rw [z1] at t1 ⊢
      simp (disch := omega) only [vd_S66_30 hM, vd_I_div, show (1 / 2 : Int) = 0 by decide, vd_I_toInt, if_true, vd_S66_40 hM, vd_S66_45 hM, t1, vd_S66_48 hM, vd_rs_v, vd_rs_n]
    · rw [i2]
      rw [z8] at t2 ⊢
      simp (disch := omega) only [vd_S195_23 hN, vd_I_toInt, if_true, vd_S195_29 hN, vd_S195_36 hN, t2, vd_S195_39 hN, vd_rs_v, vd_rs_n]
  · obtain ⟨o1, o2, dt⟩ := vd_dvOut (c := 6242) hC ds hx hy ho
    exact ⟨f, g, fun d Q => o1 _ Q, fun d Q => o2 _ Q, dt⟩
end VDDV
