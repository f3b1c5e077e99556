/-! ===== a block's segment: readSegment ===== -/
section VDSF
variable {M N : vd_M} {ow fa lo lf W H nb : Nat} {O : Nat → Nat → Option Nat} {B : Nat → Nat → Int} {X : Nat → Nat → Int} {mp : Nat → Nat → Int} {x y w h n : Nat} {f g : Nat → Nat → Int32}
/-- the map is set in a rectangle -/
def vd_mps (mp : Nat → Nat → Int) (x x1 y m : Nat) (s : Int) : Nat → Nat → Int := fun i j => if x ≤ i ∧ i < x1 ∧ y ≤ j ∧ j < y + m then s else mp i j
theorem vd_BK.map (hM : vd_SC M ow fa lo lf) (k : vd_BK ow fa W H nb O B X mp x y w h n f g) {x0 x1 y0 m : Nat} {s : Int} (hW : W ≤ 24) (h1 : x1 ≤ W) : vd_BK ow fa W H nb O B X (vd_mps mp x0 x1 y0 m s) x y w h n (vd_ur 24 f 42 x0 x1 y0 (vd_I s) m) (vd_ur W g 72 x0 x1 y0 (vd_I s) m) := by
  have hp := vd_par_ne hM
  have hf : ∀ c i, c ≠ 42 → vd_ur 24 f 42 x0 x1 y0 (vd_I s) m c i = f c i := fun c i q => vd_ur_ne q m i
  have hg : ∀ c i, c ≠ 72 → vd_ur W g 72 x0 x1 y0 (vd_I s) m c i = g c i := fun c i q => vd_ur_ne q m i
  obtain ⟨k1, k2, k3, ⟨k4, k5⟩, ⟨k6, k7⟩, ⟨a1, a2, a3⟩, ⟨b1, b2, b3, b4⟩, ⟨c1, c2, c3, c4⟩, ⟨d1, d2⟩⟩ := k
  refine ⟨k1.keep (fun c i q => hf c i (by omega)) (fun c i q => hg c i (by omega)), k2.keep fun c i q => hf c i (by omega), k3.keep fun c i q => hg c i (by omega), ⟨k4.keep fun c i q1 q2 => hf c i (by omega), k5.keep fun c i q => hg c i (by unfold vd_inB at q; omega)⟩, ⟨fun i j hi hj => ?_, fun i j hi hj => ?_⟩, ⟨?_, ?_, ?_⟩, ⟨?_, ?_, ?_, ?_⟩, ⟨?_, ?_, ?_, ?_⟩, ⟨?_, ?_⟩⟩
  · rw [vd_ur_at (by omega) m i j (by omega)]
    unfold vd_mps
    split
    · rfl
    · exact k6 i j hi hj
  · rw [vd_ur_at h1 m i j hi]
    unfold vd_mps
    split
    · rfl
    · exact k7 i j hi hj
  · rw [hf _ _ (by decide)]; exact a1
  · rw [hf _ _ (by decide)]; exact a2
  · rw [hf _ _ (by decide)]; exact a3
  · rw [hf _ _ (by omega)]; exact b1
  · rw [hf _ _ (by omega)]; exact b2
  · rw [hf _ _ (by omega)]; exact b3
  · rw [hf _ _ (by omega)]; exact b4
  all_goals rw [hg _ _ (by decide)]; assumption
theorem vd_segEnd (hM : vd_SC M ow fa lo lf) (hN : vd_SR N) (k : vd_BK ow fa W H nb O B X mp x y w h n f g) (hc : vd_BC W H nb X mp x y w h) {sg : Int} (hs : g 63 103 = vd_I sg) : (∀ a2 d Q, vd_wp (d + 3) 71 105 [.ref 44, .int (vd_I sg), a2] [] (vd_mf M f) Q = Q (vd_mf M (vd_ur 24 f 42 x (min W (x + w)) y (vd_I sg) (min H (y + h) - y))) (.inl (some (.int (vd_I sg))))) ∧ (∀ a1 a2 a3 d Q, vd_wp (d + 1) 199 231 [.ref 63, .int a1, .int a2, a3] [] (vd_mf N g) Q = Q (vd_mf N (vd_ur W g 72 x (min W (x + w)) y (vd_I sg) (min H (y + h) - y))) (.inl none)) := by
  obtain ⟨_, k2, k3, _, _, ⟨a1, _, _⟩, hb, hy, _⟩ := k
  obtain ⟨_, _, ⟨w1, w2, w3, w4⟩, hnb, ⟨hx1, hy1⟩, hw, hh⟩ := hc
  refine ⟨fun a2 d Q => ?_, fun a1' a2 a3 d Q => ?_⟩
  · have e := fun (Q : vd_M → (Option Value ⊕ Nat) → Prop) => vd_P76 (d := d) (Q := Q) (v := vd_I sg) hM (f := f) hnb hb k2.1.1 k2.1.2 w2 w4 (by omega) (by omega) (by omega) (by omega)
    simp (disch := omega) only [vd_S71_105 hM, vd_S71_114 hM, vd_S71_117 hM, a1, e, vd_rs_v, vd_rs_n]
  · have e := fun (Q : vd_M → (Option Value ⊕ Nat) → Prop) => vd_G199U (d := d + 1) (Q := Q) (g := g) (a1 := a1') (v := vd_I sg) hN (x1 := min W (x + w)) (y1 := min H (y + h)) rfl rfl hy k3.1.1 k3.1.2 hs w2 w4 (by omega) (by omega) (by omega) (min H (y + h) - y) 0 a3 (by omega)
    simp only [Nat.add_zero, Nat.zero_add, vd_ur] at e
    simp (disch := omega) only [vd_S199_231 hN, hy.2.2.2]
    exact e Q
end VDSF
