/-! ===== readVectors, and the end of readOther ===== -/
section VDVS
variable {M N : vd_M} {ow fa lo lf W H nb : Nat} {O : Nat → Nat → Option Nat} {B : Nat → Nat → Int} {X mp : Nat → Nat → Int} {x y w h n : Nat} {mo : Int} {L : Nat → Nat → Nat → Int} {pw ph : Int} {f g : Nat → Nat → Int32}
def vd_VecsPost (M N : vd_M) (ow fa W H nb : Nat) (O : Nat → Nat → Option Nat) (B : Nat → Nat → Int) (X mp : Nat → Nat → Int) (x y w h n : Nat) (f g : Nat → Nat → Int32) : Prop := ∃ (f' g' : Nat → Nat → Int32) (v : Nat → Int), (∀ d Q, vd_wp (d + 3) 89 0 [.ref 44, vd_U, vd_U, vd_U, vd_U, vd_U, vd_U, vd_U] [] (vd_mf M f) Q = Q (vd_mf M f') (.inl none)) ∧ (∀ x1 a3 a4 d Q, vd_wp (d + 5) 206 300 [.ref 63, .int x1, .int (vd_I 0), a3, a4] [] (vd_mf N g) Q = Q (vd_mf N g') (.inl none)) ∧ (∀ q, 12 ≤ q → q < 16 → -5500 ≤ v q ∧ v q ≤ 5500) ∧ vd_BK ow fa W H nb O B X mp x y w h (n + 82) f' g' ∧ (∀ q, 12 ≤ q → q < 16 → f' fa (18 * nb + q) = vd_I (v q)) ∧ (g' 118 0 = vd_I (v 12) ∧ g' 119 0 = vd_I (v 13) ∧ g' 118 1 = vd_I (v 14) ∧ g' 119 1 = vd_I (v 15)) ∧ (∀ q, (q < 12 ∨ 16 ≤ q) → f' fa (18 * nb + q) = f fa (18 * nb + q)) ∧ (∀ j, 103 ≤ j → j ≠ 116 → g' 63 j = g 63 j) ∧ (∀ j, g' 117 j = g 117 j) ∧ vd_fB fa f f' ∧ vd_gB g g'
theorem vd_vecs (hM : vd_SC M ow fa lo lf) (hN : vd_SR N) (h00 : X 0 0 = 0) (k : vd_BK ow fa W H nb O B X mp x y w h n f g) (hc : vd_BC W H nb X mp x y w h) (kx : vd_VX lo lf W H mo L pw ph x y f g) (kv : vd_VV W H mo L pw ph) (hn : n + 82 ≤ 8000000) {kd r0 r1 : Int} (kd0 : 0 ≤ kd) (kd3 : kd ≤ 3) (r00 : 0 ≤ r0 ∧ r0 ≤ 2) (r10 : r1 = -1 ∨ r1 = 2) (h11 : f fa (18 * nb + 11) = vd_I kd) (h108 : g 63 108 = vd_I kd) (h9 : f fa (18 * nb + 9) = vd_I r0) (h10 : f fa (18 * nb + 10) = vd_I r1) (g0 : g 117 0 = vd_I r0) (g1 : g 117 1 = vd_I r1) (z : ∀ q, 12 ≤ q → q < 16 → f fa (18 * nb + q) = vd_I 0) (z0 : g 118 0 = vd_I 0 ∧ g 119 0 = vd_I 0 ∧ g 118 1 = vd_I 0 ∧ g 119 1 = vd_I 0) : vd_VecsPost M N ow fa W H nb O B X mp x y w h n f g := by
  have here := k.2.2.2.2.2.1.1
  have hnb : nb < 576 := hc.2.2.2.1
  have P11 := fun d Q => vd_P83 (k := nb) (q := 11) (f := f) (d := d) (Q := Q) hM here hnb (by decide)
  rw [h11] at P11
  have e11 : ((11 : Nat) : Int) = 11 := rfl
  rw [e11] at P11
  have start : ∀ d Q, vd_wp (d + 3) 89 0 [.ref 44, vd_U, vd_U, vd_U, vd_U, vd_U, vd_U, vd_U] [] (vd_mf M f) Q = vd_wp (d + 3) 89 9 [.ref 44, .int (vd_I kd), .int (vd_I 0), vd_U, vd_U, vd_U, vd_U, vd_U] [] (vd_mf M f) Q := fun d Q => by
    simp (disch := omega) only [vd_S89_0 hM, vd_S89_3 hM, vd_S89_6 hM, P11, vd_rs_v, vd_rs_n]
  obtain ⟨z1, z2, z3, z4⟩ := z0
  by_cases ck : kd = 0
  · refine ⟨f, g, fun _ => 0, fun d Q => ?_, fun x1 a3 a4 d Q => ?_, fun q _ _ => (by decide : -5500 ≤ (0 : Int) ∧ (0 : Int) ≤ 5500), k.keepR (k.1.mono (by omega)) (fun _ _ _ => rfl) (fun _ _ _ => rfl), z, ⟨z1, z2, z3, z4⟩, fun _ _ => rfl, fun _ _ _ => rfl, fun _ => rfl, vd_fB.refl fa f, vd_gB.refl g⟩
    · rw [start, vd_S89_9 hM, ck]
      simp (disch := omega) only [vd_S89_14 hM, vd_S89_214 hM, vd_I_toInt, eq_self, show (0 : Int) < 2 by decide, if_true]
    · rw [ck] at h108
      have nr : ¬ (r0 < 0) := by omega
      have i0 : (0 : Int).toNat = 0 := rfl
      have i1 : (1 : Int).toNat = 1 := rfl
      rw [vd_S206_300 hN]
      simp (disch := omega) only [vd_S206_305 hN, vd_S206_310 hN, vd_S206_314 hN, vd_S206_326 hN, i0, g0, h108, vd_I_toInt, nr, show (0 : Int) < 2 by decide, Int.lt_irrefl, if_true, if_false, vd_I_add, show (0 + 1 : Int) = 1 from rfl]
      rw [vd_S206_300 hN]
      have last : ∀ d Q, vd_wp (d + 5) 206 300 [.ref 63, .int x1, .int (vd_I 2), a3, a4] [] (vd_mf N g) Q = Q (vd_mf N g) (.inl none) := fun d Q => by
        rw [vd_S206_300 hN]
        simp (disch := omega) only [vd_S206_332 hN, vd_I_toInt, Int.lt_irrefl, if_false]
      rcases r10 with c | c
      · rw [c] at g1
        simp (disch := omega) only [vd_S206_305 hN, vd_S206_310 hN, vd_S206_326 hN, i1, g1, vd_I_toInt, show (-1 : Int) < 0 by decide, show (1 : Int) < 2 by decide, if_true, vd_I_add, show (1 + 1 : Int) = 2 from rfl, last]
      · rw [c] at g1
        simp (disch := omega) only [vd_S206_305 hN, vd_S206_310 hN, vd_S206_314 hN, vd_S206_326 hN, i1, g1, h108, vd_I_toInt, show ¬ ((2 : Int) < 0) by decide, show (1 : Int) < 2 by decide, Int.lt_irrefl, if_true, if_false, vd_I_add, show (1 + 1 : Int) = 2 from rfl, last]
  · have r1b : -1 ≤ r1 ∧ r1 ≤ 2 := by omega
    obtain ⟨f1, g1', vx, vy, A1, T1, b1, k1, ⟨u1, u2⟩, ⟨v1, v2⟩, q1, j1, c1, F1, G1⟩ := vd_vec1 (i := 0) (kd := kd) (r := r0) hM hN h00 k hc kx kv (by omega) (by decide) (by omega) kd3 (by omega) r00.2 h108 h9 g0 (z 12 (by decide) (by decide)) (z 13 (by decide) (by decide)) z1 z2
    obtain ⟨f2, g2, ux, uy, A2, T2, b2, k2, ⟨s1, s2⟩, ⟨t1, t2⟩, q2, j2, c2, F2, G2⟩ := vd_vec1 (i := 1) (kd := kd) (r := r1) hM hN h00 k1 hc (kx.keepB hM F1 G1) kv (by omega) (by decide) (by omega) kd3 r1b.1 r1b.2 (by rw [j1 108 (by decide) (by decide)]; exact h108) (by rw [q1 _ (by decide) (by decide)]; exact h10) (by rw [c1 117 1 (by decide) (by decide) (Or.inl rfl)]; exact g1) (by rw [q1 _ (by decide) (by decide)]; exact z 14 (by decide) (by decide)) (by rw [q1 _ (by decide) (by decide)]; exact z 15 (by decide) (by decide)) (by rw [c1 118 1 (by decide) (by decide) (Or.inr (by decide))]; exact z3) (by rw [c1 119 1 (by decide) (by decide) (Or.inr (by decide))]; exact z4)
    refine ⟨f2, g2, fun q => if q = 12 then vx else if q = 13 then vy else if q = 14 then ux else uy, fun d Q => ?_, fun x1 a3 a4 d Q => ?_, fun q a b => ?_, ?_, fun q a b => ?_, ⟨?_, ?_, ?_, ?_⟩, fun q hq => ?_, fun j a b => ?_, fun j => ?_, F1.trans F2, G1.trans G2⟩
    · obtain ⟨b3, b4, b5, b6, b7, e1⟩ := A1 vd_U vd_U vd_U vd_U vd_U
      obtain ⟨d3, d4, d5, d6, d7, e2⟩ := A2 b3 b4 b5 b6 b7
      rw [start]
      refine (e1 d Q).trans ((e2 d Q).trans ?_)
      rw [vd_S89_9 hM]
      simp (disch := omega) only [vd_S89_214 hM, vd_I_toInt, show ((1 + 1 : Nat) : Int) = 2 from rfl, Int.lt_irrefl, if_false]
    · refine (T1 x1 a3 a4 d Q).trans ((T2 x1 a3 a4 d Q).trans ?_)
      rw [vd_S206_300 hN]
      simp (disch := omega) only [vd_S206_332 hN, vd_I_toInt, show ((1 + 1 : Nat) : Int) = 2 from rfl, Int.lt_irrefl, if_false]
    · show -5500 ≤ (if q = 12 then vx else if q = 13 then vy else if q = 14 then ux else uy) ∧ (if q = 12 then vx else if q = 13 then vy else if q = 14 then ux else uy) ≤ 5500
      split
      · exact b1.1
      · split
        · exact b1.2
        · split
          · exact b2.1
          · exact b2.2
    · exact k2.keepR (k2.1.mono (by omega)) (fun _ _ _ => rfl) (fun _ _ _ => rfl)
    · have hq : q = 12 ∨ q = 13 ∨ q = 14 ∨ q = 15 := by omega
      rcases hq with rfl | rfl | rfl | rfl
      · rw [q2 _ (by decide) (by decide)]; exact u1
      · rw [q2 _ (by decide) (by decide)]; exact u2
      · exact s1
      · exact s2
    · rw [c2 118 0 (by decide) (by decide) (Or.inr (by decide))]; exact v1
    · rw [c2 119 0 (by decide) (by decide) (Or.inr (by decide))]; exact v2
    · exact t1
    · exact t2
    · rw [q2 _ (by omega) (by omega), q1 _ (by omega) (by omega)]
    · rw [j2 _ a b, j1 _ a b]
    · rw [c2 117 j (by decide) (by decide) (Or.inl rfl), c1 117 j (by decide) (by decide) (Or.inl rfl)]
end VDVS
