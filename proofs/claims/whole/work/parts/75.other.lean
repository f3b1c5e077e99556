/-! ===== from other pictures or not ===== -/
section VDOT
variable {M N : vd_M} {ow fa lo lf W H nb : Nat} {O : Nat → Nat → Option Nat} {B : Nat → Nat → Int} {X : Nat → Nat → Int} {mp : Nat → Nat → Int} {x y w h n : Nat} {f g : Nat → Nat → Int32}
theorem vd_other (hM : vd_SC M ow fa lo lf) (hN : vd_SR N) (k : vd_BK ow fa W H nb O B X mp x y w h n f g) (hc : vd_BC W H nb X mp x y w h) (hn : n + 1 ≤ 8000000) {s : Nat} (hs : s < 8) (hg : g 63 103 = vd_I (s : Int)) : ∃ (f' g' : Nat → Nat → Int32) (ot : Int), (∀ x1 x2 x3 x4 a6 a7 d Q, vd_wp (d + 3) 67 97 [.ref 44, .int x1, .int x2, .int x3, .int x4, .int (vd_I (s : Int)), a6, a7] [] (vd_mf M f) Q = vd_wp (d + 3) 67 121 [.ref 44, .int x1, .int x2, .int x3, .int x4, .int (vd_I (s : Int)), a6, a7] [.int (vd_I ot)] (vd_mf M f') Q) ∧ (∀ x1 x2 x3 x4 a5 d Q, (if X 0 0 = 0 then vd_wp (d + 2) 196 99 [.ref 63, .int x1, .int x2, .int x3, .int x4, a5] [.ref 63] (vd_mf N g) Q else vd_wp (d + 2) 196 150 [.ref 63, .int x1, .int x2, .int x3, .int x4, a5] [.ref 63] (vd_mf N g) Q) = vd_wp (d + 2) 196 151 [.ref 63, .int x1, .int x2, .int x3, .int x4, a5] [.int (vd_I ot), .ref 63] (vd_mf N g') Q) ∧ (ot = 0 ∨ ot = 1) ∧ (ot = 1 → X 0 0 = 0) ∧ (ot = 1 → vd_ft X s 2 = 1 → 1 ≤ X 5 (4 * s + 2)) ∧ vd_BK ow fa W H nb O B X mp x y w h (n + 1) f' g' ∧ vd_fD f f' ∧ vd_gD g g' := by
  have hX := hc.1
  have hA := k.2.2.2.1.1
  have hB := k.2.2.2.1.2
  have st := fun d Q => vd_P33 (d := d) (Q := Q) hM hX hA
  have kk := k.keepR (k.1.mono (show n ≤ n + 1 by omega)) (fun _ _ _ => rfl) (fun _ _ _ => rfl)
  by_cases c0 : X 0 0 = 0
  · have P2 : ∀ d Q, vd_wp d 78 0 [.ref 20, .int (vd_I (s : Int)), .int (vd_I 2)] [] (vd_mf M f) Q = Q (vd_mf M f) (.inl (some (.int (vd_I (vd_ft X s 2))))) := fun d Q => vd_P78 (q := 2) hM hX hA hs (by decide)
    have V2 : ∀ d Q, vd_wp d 81 0 [.ref 20, .int (vd_I (s : Int)), .int (vd_I 2)] [] (vd_mf M f) Q = Q (vd_mf M f) (.inl (some (.int (vd_I (X 5 (4 * s + 2)))))) := fun d Q => vd_P81 (q := 2) hM hA hs (by decide)
    have R2 : ∀ d Q, vd_wp d 201 0 [.ref 63, .int (vd_I 2)] [] (vd_mf N g) Q = Q (vd_mf N g) (.inl (some (.int (vd_I (vd_ft X s 2))))) := fun d Q => vd_P201 (q := 2) hN hX hB hg hs (by decide)
    have xv := hX.2.2.2.2.2.2.2.1 s hs
    have gf : g 75 (4 * s + 2) = vd_I (X 5 (4 * s + 2)) := hB.2.2.2.2.2.2.2.1 (4 * s + 2) (by omega) (by omega)
    have ei : (4 * (s : Int) + 2).toNat = 4 * s + 2 := by omega
    rcases vd_ft_b X s 2 with c | c
    · have e1 := vd_eq1_b B (vd_at W H O (x : Int) ((y : Int) - 1)) 7 (-1)
      have e2 := vd_eq1_b B (vd_at W H O ((x : Int) - 1) (y : Int)) 7 (-1)
      have al : ∀ d Q, vd_wp d 73 0 [.ref 44, .int (vd_I 7), .int (vd_I (-1)), vd_U] [] (vd_mf M f) Q = Q (vd_mf M f) (.inl (some (.int (vd_I (vd_eq1 B (vd_at W H O (x : Int) ((y : Int) - 1)) 7 (-1) + vd_eq1 B (vd_at W H O ((x : Int) - 1) (y : Int)) 7 (-1)))))) := fun d Q => vd_alk hM k hc (q := 7) (v := -1) (by decide) (by decide) (by decide) d Q
      have cn := fun d Q => vd_cnt2 hN k hc (o := 90) (q := 7) (v := -1) hN.k90 hN.l90 (fun i j k' hi hj hk => by
        have q := (k.2.2.1.2.2 i j k' hi hj hk).2.1.2.2.2
        have hb := (k.2.1.2.2.2.2.2 k' (k.2.1.2.2.2.1 i j k' hk)).2.1
        rw [q]
        congr 1
        by_cases t : B k' 7 < 0
        · rw [if_pos t, if_pos (by omega)]
        · rw [if_neg t, if_neg (by omega)]) d Q
      generalize hz : vd_eq1 B (vd_at W H O (x : Int) ((y : Int) - 1)) 7 (-1) + vd_eq1 B (vd_at W H O ((x : Int) - 1) (y : Int)) 7 (-1) = z at *
      obtain ⟨f1, g1, b, p1, p2, p3, p4, p5, p6⟩ := vd_read hM hN (z := 1101 + z) k.1 (by omega) (by omega) (by omega)
      refine ⟨f1, g1, b, fun x1 x2 x3 x4 a6 a7 d Q => ?_, fun x1 x2 x3 x4 a5 d Q => ?_, p3, fun _ => c0, fun _ q => by omega, k.keepD hM p4 p5 p6, p5, p6⟩
      · rcases p3 with rfl | rfl
        · simp (disch := first | decide | omega) only [vd_S67_97 hM, vd_S67_101 hM, vd_S67_104 hM, vd_S67_107 hM, vd_S67_110 hM, vd_S67_113 hM, vd_S67_116 hM, vd_S67_120 hM, vd_S80_0 hM, vd_S80_12 hM, vd_S80_24 hM, vd_S80_28 hM, vd_S80_29 hM, vd_S80_30 hM, vd_S80_52 hM, vd_S80_56 hM, vd_S80_57 hM, vd_S80_6 hM, vd_S80_18 hM, vd_S80_41 hM, vd_S80_9 hM, vd_S80_21 hM, vd_S80_44 hM, vd_S80_45 hM, vd_S80_48 hM, st, c0, P2, c, vd_I_toInt, eq_self, if_true, vd_rs_v, vd_rs_n, al, vd_I_add, p1, show ¬ ((0 : Int) = 1) by decide, if_false, vd_rok0]
        · simp (disch := first | decide | omega) only [vd_S67_97 hM, vd_S67_101 hM, vd_S67_104 hM, vd_S67_107 hM, vd_S67_110 hM, vd_S67_113 hM, vd_S67_116 hM, vd_S67_120 hM, vd_S80_0 hM, vd_S80_12 hM, vd_S80_24 hM, vd_S80_28 hM, vd_S80_29 hM, vd_S80_30 hM, vd_S80_52 hM, vd_S80_56 hM, vd_S80_57 hM, vd_S80_6 hM, vd_S80_18 hM, vd_S80_41 hM, vd_S80_9 hM, vd_S80_21 hM, vd_S80_44 hM, vd_S80_45 hM, vd_S80_48 hM, st, c0, P2, c, vd_I_toInt, eq_self, if_true, vd_rs_v, vd_rs_n, al, vd_I_add, p1, show ¬ ((1 : Int) = 0) by decide, if_false, vd_rok1]
      · rw [if_pos c0]
        rcases p3 with rfl | rfl
        · simp (disch := first | decide | omega) only [vd_S196_99 hN, vd_S196_101 hN, vd_S196_104 hN, vd_S196_126 hN, vd_S196_135 hN, vd_S196_138 hN, vd_S196_139 hN, vd_S196_142 hN, vd_S196_146 hN, vd_S196_150 hN, R2, c, vd_I_toInt, eq_self, if_true, vd_rs_v, vd_rs_n, cn, vd_I_add, p2, show ¬ ((0 : Int) = 1) by decide, if_false]
        · simp (disch := first | decide | omega) only [vd_S196_99 hN, vd_S196_101 hN, vd_S196_104 hN, vd_S196_126 hN, vd_S196_135 hN, vd_S196_138 hN, vd_S196_139 hN, vd_S196_142 hN, vd_S196_146 hN, vd_S196_150 hN, R2, c, vd_I_toInt, eq_self, if_true, vd_rs_v, vd_rs_n, cn, vd_I_add, p2]
    · by_cases cv : X 5 (4 * s + 2) = 0
      · refine ⟨f, g, 0, fun x1 x2 x3 x4 a6 a7 d Q => ?_, fun x1 x2 x3 x4 a5 d Q => ?_, Or.inl rfl, fun q => by omega, fun q => by omega, kk, vd_fD.refl f, vd_gD.refl g⟩
        · simp (disch := first | decide | omega) only [vd_S67_97 hM, vd_S67_101 hM, vd_S67_104 hM, vd_S67_107 hM, vd_S67_110 hM, vd_S67_113 hM, vd_S67_116 hM, vd_S67_120 hM, vd_S80_0 hM, vd_S80_12 hM, vd_S80_24 hM, vd_S80_28 hM, vd_S80_29 hM, vd_S80_30 hM, vd_S80_52 hM, vd_S80_56 hM, vd_S80_57 hM, vd_S80_6 hM, vd_S80_18 hM, vd_S80_41 hM, vd_S80_9 hM, vd_S80_21 hM, vd_S80_44 hM, vd_S80_45 hM, vd_S80_48 hM, st, c0, P2, V2, c, cv, vd_I_toInt, eq_self, if_true, vd_rs_v, vd_rs_n, show ¬ ((1 : Int) = 0) by decide, if_false, vd_rok0]
        · rw [if_pos c0]
          simp (disch := first | decide | omega) only [vd_S196_99 hN, vd_S196_101 hN, vd_S196_104 hN, vd_S196_107 hN, vd_S196_119 hN, vd_S196_123 hN, vd_S196_146 hN, vd_S196_150 hN, R2, c, hg, vd_I_mul, vd_I_add, ei, gf, cv, vd_I_toInt, eq_self, if_true, vd_rs_v, vd_rs_n, show ¬ ((1 : Int) = 0) by decide, if_false]
      · refine ⟨f, g, 1, fun x1 x2 x3 x4 a6 a7 d Q => ?_, fun x1 x2 x3 x4 a5 d Q => ?_, Or.inr rfl, fun _ => c0, fun _ _ => by omega, kk, vd_fD.refl f, vd_gD.refl g⟩
        · simp (disch := first | decide | omega) only [vd_S67_97 hM, vd_S67_101 hM, vd_S67_104 hM, vd_S67_107 hM, vd_S67_110 hM, vd_S67_113 hM, vd_S67_116 hM, vd_S67_120 hM, vd_S80_0 hM, vd_S80_12 hM, vd_S80_24 hM, vd_S80_28 hM, vd_S80_29 hM, vd_S80_30 hM, vd_S80_52 hM, vd_S80_56 hM, vd_S80_57 hM, vd_S80_6 hM, vd_S80_18 hM, vd_S80_41 hM, vd_S80_9 hM, vd_S80_21 hM, vd_S80_44 hM, vd_S80_45 hM, vd_S80_48 hM, st, c0, P2, V2, c, cv, vd_I_toInt, eq_self, if_true, vd_rs_v, vd_rs_n, show ¬ ((1 : Int) = 0) by decide, if_false, vd_rok1]
        · rw [if_pos c0]
          simp (disch := first | decide | omega) only [vd_S196_99 hN, vd_S196_101 hN, vd_S196_104 hN, vd_S196_107 hN, vd_S196_119 hN, vd_S196_123 hN, vd_S196_146 hN, vd_S196_150 hN, R2, c, hg, vd_I_mul, vd_I_add, ei, gf, cv, vd_I_toInt, vd_rs_v, vd_rs_n, show ¬ ((1 : Int) = 0) by decide, if_false]
  · have c1 : ¬ X 0 0 = 0 := c0
    have sx := hX.1.1
    refine ⟨f, g, 0, fun x1 x2 x3 x4 a6 a7 d Q => ?_, fun x1 x2 x3 x4 a5 d Q => ?_, Or.inl rfl, fun q => by omega, fun q => by omega, kk, vd_fD.refl f, vd_gD.refl g⟩
    · simp (disch := first | decide | omega) only [vd_S67_97 hM, vd_S67_101 hM, vd_S67_104 hM, vd_S67_120 hM, st, c1, vd_I_toInt, if_false, vd_rs_v, vd_rs_n]
    · rw [if_neg c0]
      simp (disch := first | decide | omega) only [vd_S196_150 hN]
end VDOT
