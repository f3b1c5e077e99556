/-! ===== between blocks; a block is opened ===== -/
def vd_VF (lo lf W H : Nat) (mo : Int) (L : Nat → Nat → Nat → Int) (pw ph : Int) (f g : Nat → Nat → Int32) : Prop := vd_LA lo lf W H mo L f ∧ vd_LB W H mo L g ∧ (f 37 0 = vd_I pw ∧ f 37 1 = vd_I ph) ∧ (g 63 24 = vd_I pw ∧ g 63 25 = vd_I ph)
theorem vd_VF.keep {lo lf W H : Nat} {mo : Int} {L : Nat → Nat → Nat → Int} {pw ph : Int} {f f' g g' : Nat → Nat → Int32} (k : vd_VF lo lf W H mo L pw ph f g) (hf : ∀ c i, c = lo ∨ c = lf ∨ (c = 37 ∧ (i = 0 ∨ i = 1 ∨ i = 6)) → f' c i = f c i) (hg : ∀ c i, (76 ≤ c ∧ c ≤ 78) ∨ (c = 63 ∧ (i = 24 ∨ i = 25 ∨ i = 39)) → g' c i = g c i) : vd_VF lo lf W H mo L pw ph f' g' := by
  obtain ⟨k1, k2, ⟨k3, k4⟩, k5, k6⟩ := k
  refine ⟨k1.keep fun c i q => hf c i (by omega), k2.keep fun c i q => hg c i (by omega), ⟨?_, ?_⟩, ?_, ?_⟩
  · rw [hf _ _ (by omega)]; exact k3
  · rw [hf _ _ (by omega)]; exact k4
  · rw [hg _ _ (by omega)]; exact k5
  · rw [hg _ _ (by omega)]; exact k6
def vd_FK (ow fa lo lf W H nb : Nat) (O : Nat → Nat → Option Nat) (B : Nat → Nat → Int) (X mp : Nat → Nat → Int) (mo : Int) (L : Nat → Nat → Nat → Int) (pw ph : Int) (n : Nat) (f g : Nat → Nat → Int32) : Prop := vd_RD n f g ∧ vd_GA ow fa W H nb O B f ∧ vd_GB W H O B g ∧ (vd_CA X f ∧ vd_CB X g) ∧ ((∀ i j, i < W → j < H → f 42 (24 * j + i) = vd_I (mp i j)) ∧ (∀ i j, i < W → j < H → g 72 (W * j + i) = vd_I (mp i j))) ∧ (f 37 4 = vd_I (nb : Int) ∧ g 63 69 = vd_I (nb : Int)) ∧ vd_VF lo lf W H mo L pw ph f g
section VDOP
variable {M N : vd_M} {ow fa lo lf W H nb : Nat} {O : Nat → Nat → Option Nat} {B : Nat → Nat → Int} {X mp : Nat → Nat → Int} {x y w h n : Nat} {mo : Int} {L : Nat → Nat → Nat → Int} {pw ph : Int} {f g : Nat → Nat → Int32}
def vd_fO (fa nb : Nat) (f f' : Nat → Nat → Int32) : Prop := ∀ c i, c ≠ 44 → ¬ (c = 37 ∧ i = 4) → ¬ (c = fa ∧ 18 * nb ≤ i) → f' c i = f c i
def vd_gO (g g' : Nat → Nat → Int32) : Prop := ∀ c i, ¬ (c = 63 ∧ (i = 69 ∨ (95 ≤ i ∧ i ≤ 102))) → g' c i = g c i
theorem vd_open (hM : vd_SC M ow fa lo lf) (hN : vd_SR N) (k : vd_FK ow fa lo lf W H nb O B X mp mo L pw ph n f g) (hc : vd_BC W H nb X mp x y w h) : ∃ (f' g' : Nat → Nat → Int32), (∀ a5 a6 a7 d Q, vd_wp (d + 3) 67 0 [.ref 44, .int (vd_I (x : Int)), .int (vd_I (y : Int)), .int (vd_I (w : Int)), .int (vd_I (h : Int)), a5, a6, a7] [] (vd_mf M f) Q = vd_wp (d + 3) 67 47 [.ref 44, .int (vd_I (x : Int)), .int (vd_I (y : Int)), .int (vd_I (w : Int)), .int (vd_I (h : Int)), a5, a6, a7] [.ref 44] (vd_mf M f') Q) ∧ (∀ a5 d Q, vd_wp (d + 2) 196 0 [.ref 63, .int (vd_I (8 * (x : Int))), .int (vd_I (8 * (y : Int))), .int (vd_I (8 * (w : Int))), .int (vd_I (8 * (h : Int))), a5] [] (vd_mf N g) Q = vd_wp (d + 2) 196 52 [.ref 63, .int (vd_I (8 * (x : Int))), .int (vd_I (8 * (y : Int))), .int (vd_I (8 * (w : Int))), .int (vd_I (8 * (h : Int))), a5] [.ref 63] (vd_mf N g') Q) ∧ vd_BK ow fa W H nb O B X mp x y w h n f' g' ∧ (f' 37 4 = vd_I ((nb : Int) + 1) ∧ g' 63 69 = vd_I ((nb : Int) + 1)) ∧ (g' 63 95 = vd_I (8 * (x : Int)) ∧ g' 63 96 = vd_I (8 * (y : Int))) ∧ (∀ q, 4 ≤ q → q < 18 → f' fa (18 * nb + q) = vd_I 0) ∧ vd_fO fa nb f f' ∧ vd_gO g g' := by
  obtain ⟨k1, k2, k3, ⟨k4, k5⟩, ⟨k6, k7⟩, ⟨k8, k9⟩, k10⟩ := k
  obtain ⟨hX, hmp, hW, hnb, ⟨hx, hy⟩, hw8, hh8⟩ := hc
  have hp := vd_par4 hM
  have P1 := fun d Q => vd_P68 (a := (x : Int)) (b := (y : Int) - 1) (d := d) (Q := Q) hM k2 (by omega) (by omega) (by omega) (by omega)
  generalize hp1 : vd_pl (vd_at W H O (x : Int) ((y : Int) - 1)) = p1 at *
  have P2 := fun d Q => vd_P68 (a := (x : Int) - 1) (b := (y : Int)) (d := d) (Q := Q) hM (k2.keep (f' := vd_up f 44 9 (vd_I p1)) fun c i q => vd_up_ne (by omega)) (by omega) (by omega) (by omega) (by omega)
  generalize hp2 : vd_pl (vd_at W H O ((x : Int) - 1) (y : Int)) = p2 at *
  obtain ⟨f3, E3, c4, ⟨b0, b1, b2, b3, bz⟩, F3⟩ := vd_P70 (f := vd_up (vd_up f 44 9 (vd_I p1)) 44 10 (vd_I p2)) (x := vd_I (x : Int)) (y := vd_I (y : Int)) (w := vd_I (w : Int)) (h := vd_I (h : Int)) hM (nb := nb) (by rw [vd_up_ne (by omega), vd_up_ne (by omega)]; exact k8) hnb
  have F : vd_fO fa nb f (vd_up f3 44 8 (vd_I (18 * (nb : Int)))) := fun c i q1 q2 q3 => by rw [vd_up_ne (by omega), F3 c i q2 (by omega), vd_up_ne (by omega), vd_up_ne (by omega)]
  generalize hg1 : vd_up (vd_up (vd_up (vd_up (vd_up (vd_up (vd_up g 63 95 (vd_I (8 * (x : Int)))) 63 96 (vd_I (8 * (y : Int)))) 63 97 (vd_I (8 * (w : Int)))) 63 98 (vd_I (8 * (h : Int)))) 63 99 (vd_I (x : Int))) 63 100 (vd_I (y : Int))) 63 69 (vd_I ((nb : Int) + 1)) = g1
  have G1 : vd_gO g g1 := fun c i q => by rw [← hg1, vd_up_ne (by omega), vd_up_ne (by omega), vd_up_ne (by omega), vd_up_ne (by omega), vd_up_ne (by omega), vd_up_ne (by omega), vd_up_ne (by omega)]
  have j95 : g1 63 95 = vd_I (8 * (x : Int)) := by rw [← hg1, vd_up_ne (by omega), vd_up_ne (by omega), vd_up_ne (by omega), vd_up_ne (by omega), vd_up_ne (by omega), vd_up_ne (by omega), vd_up_eq]
  have j96 : g1 63 96 = vd_I (8 * (y : Int)) := by rw [← hg1, vd_up_ne (by omega), vd_up_ne (by omega), vd_up_ne (by omega), vd_up_ne (by omega), vd_up_ne (by omega), vd_up_eq]
  have j97 : g1 63 97 = vd_I (8 * (w : Int)) := by rw [← hg1, vd_up_ne (by omega), vd_up_ne (by omega), vd_up_ne (by omega), vd_up_ne (by omega), vd_up_eq]
  have j98 : g1 63 98 = vd_I (8 * (h : Int)) := by rw [← hg1, vd_up_ne (by omega), vd_up_ne (by omega), vd_up_ne (by omega), vd_up_eq]
  have j99 : g1 63 99 = vd_I (x : Int) := by rw [← hg1, vd_up_ne (by omega), vd_up_ne (by omega), vd_up_eq]
  have j100 : g1 63 100 = vd_I (y : Int) := by rw [← hg1, vd_up_ne (by omega), vd_up_eq]
  have j69 : g1 63 69 = vd_I ((nb : Int) + 1) := by rw [← hg1, vd_up_eq]
  have P3 := fun d Q => vd_P197 (d := d) (Q := Q) hN (k3.keep (g' := g1) fun c i q => G1 c i (by omega)) hW.2.1 hW.2.2.2 j99 j100 (by omega) (by omega)
  generalize hu1 : vd_nu (vd_at W H O (x : Int) ((y : Int) - 1)) (((y : Int) - 1) * (W : Int) + (x : Int)) = u1 at *
  generalize hu2 : vd_nu (vd_at W H O ((x : Int) - 1) (y : Int)) ((y : Int) * (W : Int) + (x : Int) - 1) = u2 at *
  have G : vd_gO g (vd_up (vd_up g1 63 101 (vd_I u1)) 63 102 (vd_I u2)) := fun c i q => by rw [vd_up_ne (by omega), vd_up_ne (by omega)]; exact G1 c i q
  have cur : ∀ q, vd_up f3 44 8 (vd_I (18 * (nb : Int))) fa q = f3 fa q := fun q => vd_up_ne (by omega)
  have cur2 : ∀ i, i ≤ 100 → vd_up (vd_up g1 63 101 (vd_I u1)) 63 102 (vd_I u2) 63 i = g1 63 i := fun i hi => by rw [vd_up_ne (by omega), vd_up_ne (by omega)]
  refine ⟨vd_up f3 44 8 (vd_I (18 * (nb : Int))), vd_up (vd_up g1 63 101 (vd_I u1)) 63 102 (vd_I u2), fun a5 a6 a7 d Q => ?_, fun a5 d Q => ?_, ⟨?_, ?_, ?_, ⟨?_, ?_⟩, ⟨?_, ?_⟩, ⟨?_, ?_, ?_⟩, ⟨?_, ?_, ?_, ?_⟩, ⟨?_, ?_, ?_, ?_⟩, ?_, ?_⟩, ⟨?_, ?_⟩, ⟨?_, ?_⟩, fun q q1 q2 => ?_, F, G⟩
  · simp (disch := omega) only [vd_S67_0 hM, vd_S67_9 hM, vd_S67_12 hM, vd_S67_24 hM, vd_S67_27 hM, vd_S67_40 hM, vd_S67_43 hM, vd_I_sub, P1, P2, E3, vd_rs_v, vd_rs_n]
  · have e1 : 8 * (x : Int) / 8 = (x : Int) := by omega
    have e2 : 8 * (y : Int) / 8 = (y : Int) := by omega
    simp (disch := omega) only [vd_S196_0 hN, vd_S196_48 hN, vd_S196_51 hN, vd_I_div, e1, e2, k9, vd_I_add, hg1, P3, vd_rs_v, vd_rs_n]
  · exact k1.keep (fun c i q => F c i (by omega) (by omega) (by omega)) (fun c i q => G c i (by omega))
  · exact k2.keep fun c i q => F c i (by omega) (by omega) (by omega)
  · exact k3.keep fun c i q => G c i (by omega)
  · exact k4.keep fun c i q1 q2 => F c i (by omega) (by omega) (by omega)
  · exact k5.keep fun c i q => G c i (by unfold vd_inB at q; omega)
  · intro i j hi hj
    rw [F _ _ (by omega) (by omega) (by omega)]
    exact k6 i j hi hj
  · intro i j hi hj
    rw [G _ _ (by omega)]
    exact k7 i j hi hj
  · exact vd_up_eq _ _ _ _
  · rw [vd_up_ne (by omega), F3 _ _ (by omega) (by omega), vd_up_ne (by omega), vd_up_eq, hp1]
  · rw [vd_up_ne (by omega), F3 _ _ (by omega) (by omega), vd_up_eq, hp2]
  · rw [cur]; exact b0
  · rw [cur]; exact b1
  · rw [cur]; exact b2
  · rw [cur]; exact b3
  · rw [cur2 _ (by decide)]; exact j97
  · rw [cur2 _ (by decide)]; exact j98
  · rw [cur2 _ (by decide)]; exact j99
  · rw [cur2 _ (by decide)]; exact j100
  · rw [vd_up_ne (by omega), vd_up_eq, hu1]
  · rw [vd_up_eq, hu2]
  · rw [vd_up_ne (by omega)]; exact c4
  · rw [cur2 _ (by decide)]; exact j69
  · rw [cur2 _ (by decide)]; exact j95
  · rw [cur2 _ (by decide)]; exact j96
  · rw [cur]; exact bz q q1 q2
end VDOP
