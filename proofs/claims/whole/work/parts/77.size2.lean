/-! ===== readSize, both ===== -/
section VDS2
variable {M N : vd_M} {ow fa lo lf W H nb : Nat} {O : Nat → Nat → Option Nat} {B : Nat → Nat → Int} {X : Nat → Nat → Int} {mp : Nat → Nat → Int} {x y w h n : Nat} {f g : Nat → Nat → Int32}
theorem vd_so_b {B : Nat → Nat → Int} {o : Option Nat} {m : Int} (hb : ∀ k, o = some k → 0 ≤ B k 6 ∧ B k 6 ≤ 3) (m0 : 0 ≤ m) (m1 : m ≤ 3) : 0 ≤ vd_so B o m ∧ vd_so B o m ≤ 3 := by
  cases o with
  | none => exact ⟨m0, m1⟩
  | some k =>
    simp only [vd_so]
    split
    · exact ⟨m0, m1⟩
    · exact hb k rfl
theorem vd_size (hM : vd_SC M ow fa lo lf) (hN : vd_SR N) (k : vd_BK ow fa W H nb O B X mp x y w h n f g) (hc : vd_BC W H nb X mp x y w h) (hn : n + 3 ≤ 8000000) {sk ot : Int} (s01 : sk = 0 ∨ sk = 1) (o01 : ot = 0 ∨ ot = 1) (hs : f fa (18 * nb + 5) = vd_I sk) (hs' : g 63 110 = vd_I sk) : ∃ (f' g' : Nat → Nat → Int32) (sz : Int), (∀ x1 x2 x3 x4 x5 a6 a7 d Q, vd_wp (d + 3) 67 121 [.ref 44, .int x1, .int x2, .int x3, .int x4, .int x5, a6, a7] [.int (vd_I ot)] (vd_mf M f) Q = vd_wp (d + 3) 67 135 [.ref 44, .int x1, .int x2, .int x3, .int x4, .int x5, .int (vd_I ot), a7] [] (vd_mf M f') Q) ∧ (∀ x1 x2 x3 x4 a5 d Q, vd_wp (d + 4) 196 151 [.ref 63, .int x1, .int x2, .int x3, .int x4, a5] [.int (vd_I ot), .ref 63] (vd_mf N g) Q = vd_wp (d + 4) 196 158 [.ref 63, .int x1, .int x2, .int x3, .int x4, a5] [] (vd_mf N g') Q) ∧ (0 ≤ sz ∧ sz ≤ 3 ∧ sz ≤ vd_mx w h (X 0 1)) ∧ vd_BK ow fa W H nb O B X mp x y w h (n + 3) f' g' ∧ (f' fa (18 * nb + 6) = vd_I sz ∧ g' 63 105 = vd_I sz ∧ g' 63 111 = vd_I ot) ∧ (∀ q, q ≠ 6 → f' fa (18 * nb + q) = f fa (18 * nb + q)) ∧ (∀ i, 103 ≤ i → i ≠ 104 → i ≠ 105 → i ≠ 111 → g' 63 i = g 63 i) ∧ vd_fB fa f f' ∧ vd_gB g g' := by
  have hX := hc.1
  have hW := hc.2.2.1
  have hnb := hc.2.2.2.1
  have hwh := hc.2.2.2.2.2
  have tx := hX.1.2.1
  have here := k.2.2.2.2.2.1
  have hbx := k.2.2.2.2.2.2.1
  have hby := k.2.2.2.2.2.2.2.1
  have htA : f 17 17 = vd_I (X 0 1) := k.2.2.2.1.1.2.1.1
  have hfo : vd_fok .boolean (vd_I ot) = true := by rcases o01 with rfl | rfl <;> decide
  -- the state with others noted
  have k1 : vd_BK ow fa W H nb O B X mp x y w h n f (vd_up g 63 111 (vd_I ot)) := k.note (Or.inl ⟨rfl, by decide⟩)
  obtain ⟨a1, hG⟩ := vd_G203 (x := x) (y := y) (g := vd_up g 63 111 (vd_I ot)) hN k1.2.2.2.2.2.2.2.1 hwh.1 hwh.2 (tm := X 0 1) k1.2.2.2.1.2.1.2.1 tx.1 tx.2
  have hmx := vd_mx_b w h tx.1
  have hmd : min (min 3 (1 + vd_rk (min (w : Int) (h : Int)))) (X 0 1) = vd_mx w h (X 0 1) := rfl
  have hrk := vd_rk_b (min (w : Int) (h : Int))
  have hw8 : 1 ≤ w ∧ w ≤ 8 ∧ 1 ≤ h ∧ h ≤ 8 := by omega
  have hm4 : X 0 1 = 4 → 1 ≤ vd_mx w h (X 0 1) := fun q => by unfold vd_mx; omega
  clear hwh
  generalize hmxe : vd_mx w h (X 0 1) = mx at *
  have F2 : ∀ d Q, vd_wp d 83 0 [.ref 44, .int (vd_I 2)] [] (vd_mf M f) Q = Q (vd_mf M f) (.inl (some (.int (vd_I (w : Int))))) := fun d Q => by rw [← hbx.2.2.1]; exact vd_P83 (q := 2) hM here.1 hnb (by decide)
  have F3 : ∀ d Q, vd_wp d 83 0 [.ref 44, .int (vd_I 3)] [] (vd_mf M f) Q = Q (vd_mf M f) (.inl (some (.int (vd_I (h : Int))))) := fun d Q => by rw [← hbx.2.2.2]; exact vd_P83 (q := 3) hM here.1 hnb (by decide)
  have F5 : ∀ d Q, vd_wp d 83 0 [.ref 44, .int (vd_I 5)] [] (vd_mf M f) Q = Q (vd_mf M f) (.inl (some (.int (vd_I sk)))) := fun d Q => by rw [← hs]; exact vd_P83 (q := 5) hM here.1 hnb (by decide)
  have PT : ∀ (f : Nat → Nat → Int32) (v : Int32), f 44 8 = vd_I (18 * (nb : Int)) → ∀ d Q, vd_wp d 74 0 [.ref 44, .int (vd_I 6), .int v] [] (vd_mf M f) Q = Q (vd_mf M (vd_up f fa (18 * nb + 6) v)) (.inl none) := fun f v hh d Q => vd_P74 (q := 6) hM hh hnb (by decide)
  have G2 : vd_gB g (vd_up (vd_up (vd_up g 63 111 (vd_I ot)) 63 104 (vd_I mx)) 63 105 (vd_I mx)) := (((vd_gB.refl g).up (by omega)).up (by omega)).up (by omega)
  have k2 : vd_BK ow fa W H nb O B X mp x y w h n f (vd_up (vd_up (vd_up g 63 111 (vd_I ot)) 63 104 (vd_I mx)) 63 105 (vd_I mx)) := (k1.note (Or.inl ⟨rfl, by decide⟩)).note (Or.inl ⟨rfl, by decide⟩)
  have g44 : (vd_up (vd_up (vd_up g 63 111 (vd_I ot)) 63 104 (vd_I mx)) 63 105 (vd_I mx)) 63 44 = vd_I (X 0 1) := k2.2.2.2.1.2.1.2.1
  have g44' : g 63 44 = vd_I (X 0 1) := k.2.2.2.1.2.1.2.1
  by_cases cA : ¬ X 0 1 = 4 ∨ (sk = 1 ∧ ot = 1)
  · -- no reading
    refine ⟨vd_up f fa (18 * nb + 6) (vd_I mx), vd_up (vd_up (vd_up g 63 111 (vd_I ot)) 63 104 (vd_I mx)) 63 105 (vd_I mx), mx, fun x1 x2 x3 x4 x5 a6 a7 d Q => ?_, fun x1 x2 x3 x4 a5 d Q => ?_, ⟨hmx.1, hmx.2, Int.le_refl _⟩, (k2.put hM (by decide)).keepR ((k2.put hM (q := 6) (v := vd_I mx) (by decide)).1.mono (by omega)) (fun _ _ _ => rfl) (fun _ _ _ => rfl), ⟨vd_up_eq _ _ _ _, vd_up_eq _ _ _ _, by rw [vd_up_ne (by omega), vd_up_ne (by omega), vd_up_eq]⟩, fun q hq => vd_up_ne (by omega), fun i q1 q2 q3 q4 => by rw [vd_up_ne (by omega), vd_up_ne (by omega), vd_up_ne (by omega)], (vd_fB.refl fa f).up (Or.inr (Or.inr (Or.inl rfl))), G2⟩
    · have PT1 := PT f (vd_I mx) here.1
      by_cases c4 : X 0 1 < 4
      · simp (disch := first | decide | omega) only [vd_S67_121 hM, vd_S67_129 hM, vd_S67_132 hM, vd_S82_0 hM, vd_S82_46 hM, vd_S82_55 hM, vd_S82_59 hM, vd_S82_61 hM, vd_S82_84 hM, vd_S82_88 hM, vd_S82_89 hM, vd_S82_95 hM, vd_S82_99 hM, vd_S82_104 hM, vd_S82_108 hM, vd_S82_109 hM, vd_S82_4 hM, vd_S82_48 hM, vd_S82_67 hM, vd_S82_126 hM, vd_S82_7 hM, vd_S82_51 hM, vd_S82_70 hM, vd_S82_129 hM, vd_S82_9 hM, vd_S82_76 hM, vd_S82_12 hM, vd_S82_79 hM, vd_S82_15 hM, vd_S82_18 hM, vd_S82_19 hM, vd_S82_22 hM, vd_S82_31 hM, vd_S82_34 hM, F2, F3, htA, vd_P289, vd_P84 hM, vd_rs_v, vd_rs_n, vd_I_add, hmd, hmxe, vd_I_toInt, c4, if_true, PT1]
      · have c5 : sk = 1 ∧ ot = 1 := by omega
        simp (disch := first | decide | omega) only [vd_S67_121 hM, vd_S67_129 hM, vd_S67_132 hM, vd_S82_0 hM, vd_S82_46 hM, vd_S82_55 hM, vd_S82_59 hM, vd_S82_61 hM, vd_S82_84 hM, vd_S82_88 hM, vd_S82_89 hM, vd_S82_95 hM, vd_S82_99 hM, vd_S82_104 hM, vd_S82_108 hM, vd_S82_109 hM, vd_S82_4 hM, vd_S82_48 hM, vd_S82_67 hM, vd_S82_126 hM, vd_S82_7 hM, vd_S82_51 hM, vd_S82_70 hM, vd_S82_129 hM, vd_S82_9 hM, vd_S82_76 hM, vd_S82_12 hM, vd_S82_79 hM, vd_S82_15 hM, vd_S82_18 hM, vd_S82_19 hM, vd_S82_22 hM, vd_S82_31 hM, vd_S82_34 hM, F2, F3, F5, htA, vd_P289, vd_P84 hM, vd_rs_v, vd_rs_n, vd_I_add, hmd, hmxe, vd_I_toInt, c4, c5.1, c5.2, eq_self, if_true, if_false, show ¬ ((1 : Int) = 0) by decide, PT1]
    · by_cases c4 : X 0 1 = 4
      · have c5 : sk = 1 ∧ ot = 1 := by omega
        have m1 := hm4 c4
        obtain ⟨rfl, rfl⟩ := c5
        simp (disch := first | assumption | omega) only [vd_S196_151 hN, vd_S196_155 hN, hG, vd_S203_67 hN, vd_S203_86 hN, vd_S203_93 hN, vd_S203_100 hN, vd_S203_107 hN, vd_up_at, vd_ua_at, Nat.reduceEqDiff, Nat.reduceAdd, Nat.reduceMul, and_false, false_and, and_true, true_and, and_self, if_true, if_false, reduceIte, ne_eq, not_false_eq_true, not_true_eq_false, eq_self, vd_rs_v, vd_rs_n, g44', hs', c4, vd_I_toInt, show ¬ (mx = 0) by omega, show ¬ ((1 : Int) = 0) by decide]
      · simp (disch := first | assumption | omega) only [vd_S196_151 hN, vd_S196_155 hN, hG, vd_S203_67 hN, vd_S203_107 hN, vd_up_at, vd_ua_at, Nat.reduceEqDiff, Nat.reduceAdd, Nat.reduceMul, and_false, false_and, and_true, true_and, and_self, if_true, if_false, reduceIte, ne_eq, not_false_eq_true, not_true_eq_false, eq_self, vd_rs_v, vd_rs_n, g44', c4, vd_I_toInt]
  · have c4 : X 0 1 = 4 := by omega
    have c5 : ¬ (sk = 1 ∧ ot = 1) := fun q => cA (Or.inr q)
    have m1 := hm4 c4
    have hat : ∀ a b k', vd_at W H O a b = some k' → k' < nb := fun a b k' e => by
      obtain ⟨i, j, _, _, _, _, e2⟩ := vd_at_some e
      exact k.2.1.2.2.2.1 i j k' e2
    have hat6 : ∀ a b k', vd_at W H O a b = some k' → 0 ≤ B k' 6 ∧ B k' 6 ≤ 3 := fun a b k' e => by
      have := (k.2.1.2.2.2.2.2 k' (hat a b k' e)).2.1
      omega
    have SA := fun d Q => vd_P85 hM k.2.1 (hat (x : Int) ((y : Int) - 1)) hmx.1 hmx.2 d Q
    have SL := fun d Q => vd_P85 hM k.2.1 (hat ((x : Int) - 1) (y : Int)) hmx.1 hmx.2 d Q
    have TA := fun d Q => vd_P204 (m := mx) (a := (x : Int)) (b := (y : Int) - 1) hN k2.2.1 k2.2.2.1 hW.2.1 hW.2.2.2 rfl (by rw [vd_up_ne (by omega), vd_up_eq]) d Q
    have TL := fun d Q => vd_P204 (m := mx) (a := (x : Int) - 1) (b := (y : Int)) (v := (y : Int) * (W : Int) + (x : Int) - 1) hN k2.2.1 k2.2.2.1 hW.2.1 hW.2.2.2 (by omega) (by rw [vd_up_ne (by omega), vd_up_eq]) d Q
    have ba := vd_so_b (hat6 (x : Int) ((y : Int) - 1)) hmx.1 hmx.2
    have bl := vd_so_b (hat6 ((x : Int) - 1) (y : Int)) hmx.1 hmx.2
    generalize hsa : vd_so B (vd_at W H O (x : Int) ((y : Int) - 1)) mx = sa at *
    generalize hsl : vd_so B (vd_at W H O ((x : Int) - 1) (y : Int)) mx = sl at *
    have u1 : g 63 101 = _ := k.2.2.2.2.2.2.2.2.1
    have u2 : g 63 102 = _ := k.2.2.2.2.2.2.2.2.2
    obtain ⟨f1, g1, r, p1, p2, p3, p4, p5, p6, p7⟩ := vd_ladder hM hN (z := 63 + 6 * (if mx < sa + sl then 1 else 0) + (if mx = 1 then 0 else if mx = 2 then 1 else 3)) (w := mx) (by split <;> split <;> (try split) <;> omega) (by omega) (by omega) (by split <;> split <;> (try split) <;> omega) (show n + mx.toNat ≤ 8000000 by omega) k2.1
    have k3 := (k2.keepD hM p5 p6 p7).note (c := 63) (i := 105) (v := vd_I r) (Or.inl ⟨rfl, by decide⟩)
    have PT1 := PT f1 (vd_I r) k3.2.2.2.2.2.1.1
    have g1i : ∀ i, 95 ≤ i → g1 63 i = (vd_up (vd_up (vd_up g 63 111 (vd_I ot)) 63 104 (vd_I mx)) 63 105 (vd_I mx)) 63 i := fun i hi => p7.cur hi
    refine ⟨vd_up f1 fa (18 * nb + 6) (vd_I r), vd_up g1 63 105 (vd_I r), r, fun x1 x2 x3 x4 x5 a6 a7 d Q => ?_, fun x1 x2 x3 x4 a5 d Q => ?_, ⟨p3, by omega, p4⟩, (k3.put hM (by decide)).keepR ((k3.put hM (q := 6) (v := vd_I r) (by decide)).1.mono (by omega)) (fun _ _ _ => rfl) (fun _ _ _ => rfl), ⟨vd_up_eq _ _ _ _, vd_up_eq _ _ _ _, by rw [vd_up_ne (by omega), g1i 111 (by decide), vd_up_ne (by omega), vd_up_ne (by omega), vd_up_eq]⟩, fun q hq => by rw [vd_up_ne (by omega)]; exact p6.cur hM _, fun i q1 q2 q3 q4 => by rw [vd_up_ne (by omega), g1i i (by omega), vd_up_ne (by omega), vd_up_ne (by omega), vd_up_ne (by omega)], p6.toB.up (Or.inr (Or.inr (Or.inl rfl))), (G2.trans p7.toB).up (by omega)⟩
    · have e61 : ∀ d Q, vd_wp (d + 2) 82 0 [.ref 44, .int (vd_I ot), vd_U, vd_U, vd_U] [] (vd_mf M f) Q = vd_wp (d + 2) 82 61 [.ref 44, .int (vd_I ot), .int (vd_I mx), vd_U, vd_U] [] (vd_mf M f) Q := fun d Q => by
        rcases s01 with rfl | rfl
        · simp (disch := first | decide | omega) only [vd_S82_0 hM, vd_S82_46 hM, vd_S82_55 hM, vd_S82_59 hM, vd_S82_84 hM, vd_S82_88 hM, vd_S82_89 hM, vd_S82_95 hM, vd_S82_99 hM, vd_S82_104 hM, vd_S82_108 hM, vd_S82_109 hM, vd_S82_4 hM, vd_S82_48 hM, vd_S82_67 hM, vd_S82_126 hM, vd_S82_7 hM, vd_S82_51 hM, vd_S82_70 hM, vd_S82_129 hM, vd_S82_9 hM, vd_S82_76 hM, vd_S82_12 hM, vd_S82_79 hM, vd_S82_15 hM, vd_S82_18 hM, vd_S82_19 hM, vd_S82_22 hM, vd_S82_31 hM, vd_S82_34 hM, F2, F3, F5, htA, vd_P289, vd_P84 hM, vd_rs_v, vd_rs_n, vd_I_add, hmd, hmxe, vd_I_toInt, show ¬ (X 0 1 < 4) by omega, show ¬ ((0 : Int) = 1) by decide, if_false]
        · have o0 : ot = 0 := by omega
          simp (disch := first | decide | omega) only [vd_S82_0 hM, vd_S82_46 hM, vd_S82_55 hM, vd_S82_59 hM, vd_S82_84 hM, vd_S82_88 hM, vd_S82_89 hM, vd_S82_95 hM, vd_S82_99 hM, vd_S82_104 hM, vd_S82_108 hM, vd_S82_109 hM, vd_S82_4 hM, vd_S82_48 hM, vd_S82_67 hM, vd_S82_126 hM, vd_S82_7 hM, vd_S82_51 hM, vd_S82_70 hM, vd_S82_129 hM, vd_S82_9 hM, vd_S82_76 hM, vd_S82_12 hM, vd_S82_79 hM, vd_S82_15 hM, vd_S82_18 hM, vd_S82_19 hM, vd_S82_22 hM, vd_S82_31 hM, vd_S82_34 hM, F2, F3, F5, htA, vd_P289, vd_P84 hM, vd_rs_v, vd_rs_n, vd_I_add, hmd, hmxe, vd_I_toInt, show ¬ (X 0 1 < 4) by omega, o0, eq_self, if_true, if_false]
      have e111 : ∀ d Q, vd_wp (d + 2) 82 61 [.ref 44, .int (vd_I ot), .int (vd_I mx), vd_U, vd_U] [] (vd_mf M f) Q = Q (vd_mf M f1) (.inl (some (.int (vd_I r)))) := fun d Q => by
        by_cases t : mx < sa + sl
        · rw [if_pos t] at p1
          rcases (show mx = 1 ∨ mx = 2 ∨ mx = 3 by omega) with q | q | q
          · subst q
            simp (disch := first | decide | omega) only [if_true, eq_self, show (6 * 1 : Int) = 6 by decide, show (63 + 6 + 0 : Int) = 69 by decide] at p1
            simp (disch := first | decide | omega) only [vd_S82_0 hM, vd_S82_46 hM, vd_S82_55 hM, vd_S82_59 hM, vd_S82_61 hM, vd_S82_84 hM, vd_S82_88 hM, vd_S82_89 hM, vd_S82_95 hM, vd_S82_99 hM, vd_S82_104 hM, vd_S82_108 hM, vd_S82_109 hM, vd_S82_4 hM, vd_S82_48 hM, vd_S82_67 hM, vd_S82_126 hM, vd_S82_7 hM, vd_S82_51 hM, vd_S82_70 hM, vd_S82_129 hM, vd_S82_9 hM, vd_S82_76 hM, vd_S82_12 hM, vd_S82_79 hM, vd_S82_15 hM, vd_S82_18 hM, vd_S82_19 hM, vd_S82_22 hM, vd_S82_31 hM, vd_S82_34 hM, here.2.1, here.2.2, SA, SL, vd_rs_v, vd_rs_n, vd_I_add, vd_I_mul, vd_I_toInt, t, if_true, eq_self, show (6 * 1 : Int) = 6 by decide, show (63 + 6 + 0 : Int) = 69 by decide, p1]
          · subst q
            simp (disch := first | decide | omega) only [if_true, if_false, eq_self, show ¬ ((2 : Int) = 1) by decide, show (6 * 1 : Int) = 6 by decide, show (63 + 6 + 1 : Int) = 70 by decide] at p1
            simp (disch := first | decide | omega) only [vd_S82_0 hM, vd_S82_46 hM, vd_S82_55 hM, vd_S82_59 hM, vd_S82_61 hM, vd_S82_84 hM, vd_S82_88 hM, vd_S82_89 hM, vd_S82_95 hM, vd_S82_99 hM, vd_S82_104 hM, vd_S82_108 hM, vd_S82_109 hM, vd_S82_4 hM, vd_S82_48 hM, vd_S82_67 hM, vd_S82_126 hM, vd_S82_7 hM, vd_S82_51 hM, vd_S82_70 hM, vd_S82_129 hM, vd_S82_9 hM, vd_S82_76 hM, vd_S82_12 hM, vd_S82_79 hM, vd_S82_15 hM, vd_S82_18 hM, vd_S82_19 hM, vd_S82_22 hM, vd_S82_31 hM, vd_S82_34 hM, here.2.1, here.2.2, SA, SL, vd_rs_v, vd_rs_n, vd_I_add, vd_I_mul, vd_I_toInt, t, if_true, if_false, eq_self, show ¬ ((2 : Int) = 1) by decide, show (6 * 1 : Int) = 6 by decide, show (63 + 6 + 1 : Int) = 70 by decide, p1]
          · subst q
            simp (disch := first | decide | omega) only [if_true, if_false, show ¬ ((3 : Int) = 1) by decide, show ¬ ((3 : Int) = 2) by decide, show (6 * 1 : Int) = 6 by decide, show (63 + 6 + 3 : Int) = 72 by decide] at p1
            simp (disch := first | decide | omega) only [vd_S82_0 hM, vd_S82_46 hM, vd_S82_55 hM, vd_S82_59 hM, vd_S82_61 hM, vd_S82_84 hM, vd_S82_88 hM, vd_S82_89 hM, vd_S82_95 hM, vd_S82_99 hM, vd_S82_104 hM, vd_S82_108 hM, vd_S82_109 hM, vd_S82_4 hM, vd_S82_48 hM, vd_S82_67 hM, vd_S82_126 hM, vd_S82_7 hM, vd_S82_51 hM, vd_S82_70 hM, vd_S82_129 hM, vd_S82_9 hM, vd_S82_76 hM, vd_S82_12 hM, vd_S82_79 hM, vd_S82_15 hM, vd_S82_18 hM, vd_S82_19 hM, vd_S82_22 hM, vd_S82_31 hM, vd_S82_34 hM, here.2.1, here.2.2, SA, SL, vd_rs_v, vd_rs_n, vd_I_add, vd_I_mul, vd_I_toInt, t, if_true, if_false, show ¬ ((3 : Int) = 1) by decide, show ¬ ((3 : Int) = 2) by decide, show (6 * 1 : Int) = 6 by decide, show (63 + 6 + 3 : Int) = 72 by decide, p1]
        · rw [if_neg t] at p1
          rcases (show mx = 1 ∨ mx = 2 ∨ mx = 3 by omega) with q | q | q
          · subst q
            simp (disch := first | decide | omega) only [if_true, eq_self, show (6 * 0 : Int) = 0 by decide, show (63 + 0 + 0 : Int) = 63 by decide] at p1
            simp (disch := first | decide | omega) only [vd_S82_0 hM, vd_S82_46 hM, vd_S82_55 hM, vd_S82_59 hM, vd_S82_61 hM, vd_S82_84 hM, vd_S82_88 hM, vd_S82_89 hM, vd_S82_95 hM, vd_S82_99 hM, vd_S82_104 hM, vd_S82_108 hM, vd_S82_109 hM, vd_S82_4 hM, vd_S82_48 hM, vd_S82_67 hM, vd_S82_126 hM, vd_S82_7 hM, vd_S82_51 hM, vd_S82_70 hM, vd_S82_129 hM, vd_S82_9 hM, vd_S82_76 hM, vd_S82_12 hM, vd_S82_79 hM, vd_S82_15 hM, vd_S82_18 hM, vd_S82_19 hM, vd_S82_22 hM, vd_S82_31 hM, vd_S82_34 hM, here.2.1, here.2.2, SA, SL, vd_rs_v, vd_rs_n, vd_I_add, vd_I_mul, vd_I_toInt, t, if_true, if_false, eq_self, show (6 * 0 : Int) = 0 by decide, show (63 + 0 + 0 : Int) = 63 by decide, p1]
          · subst q
            simp (disch := first | decide | omega) only [if_true, if_false, eq_self, show ¬ ((2 : Int) = 1) by decide, show (6 * 0 : Int) = 0 by decide, show (63 + 0 + 1 : Int) = 64 by decide] at p1
            simp (disch := first | decide | omega) only [vd_S82_0 hM, vd_S82_46 hM, vd_S82_55 hM, vd_S82_59 hM, vd_S82_61 hM, vd_S82_84 hM, vd_S82_88 hM, vd_S82_89 hM, vd_S82_95 hM, vd_S82_99 hM, vd_S82_104 hM, vd_S82_108 hM, vd_S82_109 hM, vd_S82_4 hM, vd_S82_48 hM, vd_S82_67 hM, vd_S82_126 hM, vd_S82_7 hM, vd_S82_51 hM, vd_S82_70 hM, vd_S82_129 hM, vd_S82_9 hM, vd_S82_76 hM, vd_S82_12 hM, vd_S82_79 hM, vd_S82_15 hM, vd_S82_18 hM, vd_S82_19 hM, vd_S82_22 hM, vd_S82_31 hM, vd_S82_34 hM, here.2.1, here.2.2, SA, SL, vd_rs_v, vd_rs_n, vd_I_add, vd_I_mul, vd_I_toInt, t, if_true, if_false, eq_self, show ¬ ((2 : Int) = 1) by decide, show (6 * 0 : Int) = 0 by decide, show (63 + 0 + 1 : Int) = 64 by decide, p1]
          · subst q
            simp (disch := first | decide | omega) only [if_false, show ¬ ((3 : Int) = 1) by decide, show ¬ ((3 : Int) = 2) by decide, show (6 * 0 : Int) = 0 by decide, show (63 + 0 + 3 : Int) = 66 by decide] at p1
            simp (disch := first | decide | omega) only [vd_S82_0 hM, vd_S82_46 hM, vd_S82_55 hM, vd_S82_59 hM, vd_S82_61 hM, vd_S82_84 hM, vd_S82_88 hM, vd_S82_89 hM, vd_S82_95 hM, vd_S82_99 hM, vd_S82_104 hM, vd_S82_108 hM, vd_S82_109 hM, vd_S82_4 hM, vd_S82_48 hM, vd_S82_67 hM, vd_S82_126 hM, vd_S82_7 hM, vd_S82_51 hM, vd_S82_70 hM, vd_S82_129 hM, vd_S82_9 hM, vd_S82_76 hM, vd_S82_12 hM, vd_S82_79 hM, vd_S82_15 hM, vd_S82_18 hM, vd_S82_19 hM, vd_S82_22 hM, vd_S82_31 hM, vd_S82_34 hM, here.2.1, here.2.2, SA, SL, vd_rs_v, vd_rs_n, vd_I_add, vd_I_mul, vd_I_toInt, t, if_false, show ¬ ((3 : Int) = 1) by decide, show ¬ ((3 : Int) = 2) by decide, show (6 * 0 : Int) = 0 by decide, show (63 + 0 + 3 : Int) = 66 by decide, p1]
      simp (disch := first | decide | omega) only [vd_S67_121 hM, vd_S67_129 hM, vd_S67_132 hM, e61, e111, vd_rs_v, vd_rs_n, PT1]
    · have e108 : ∀ d Q, vd_wp (d + 3) 203 67 [.ref 63, .int a1, vd_U, vd_U] [.int (vd_I mx), .ref 63] (vd_mf N (vd_up g 63 111 (vd_I ot))) Q = vd_wp (d + 3) 203 108 [.ref 63, .int a1, vd_U, vd_U] [] (vd_mf N (vd_up (vd_up (vd_up g 63 111 (vd_I ot)) 63 104 (vd_I mx)) 63 105 (vd_I mx))) Q := fun d Q => by
        rcases s01 with rfl | rfl
        · simp (disch := first | assumption | omega) only [vd_S203_67 hN, vd_S203_86 hN, vd_S203_93 hN, vd_up_at, vd_ua_at, Nat.reduceEqDiff, Nat.reduceAdd, Nat.reduceMul, and_false, false_and, and_true, true_and, and_self, if_true, if_false, reduceIte, ne_eq, not_false_eq_true, not_true_eq_false, eq_self, g44', hs', c4, vd_I_toInt, show ¬ (mx = 0) by omega]
        · have o0 : ot = 0 := by omega
          simp (disch := first | assumption | omega) only [vd_S203_67 hN, vd_S203_86 hN, vd_S203_93 hN, vd_S203_100 hN, vd_up_at, vd_ua_at, Nat.reduceEqDiff, Nat.reduceAdd, Nat.reduceMul, and_false, false_and, and_true, true_and, and_self, if_true, if_false, reduceIte, ne_eq, not_false_eq_true, not_true_eq_false, eq_self, g44', hs', c4, o0, vd_I_toInt, show ¬ (mx = 0) by omega, show ¬ ((1 : Int) = 0) by decide]
      have u1' : (vd_up (vd_up (vd_up g 63 111 (vd_I ot)) 63 104 (vd_I mx)) 63 105 (vd_I mx)) 63 101 = g 63 101 := by rw [vd_up_ne (by omega), vd_up_ne (by omega), vd_up_ne (by omega)]
      have u2' : (vd_up (vd_up (vd_up g 63 111 (vd_I ot)) 63 104 (vd_I mx)) 63 105 (vd_I mx)) 63 102 = g 63 102 := by rw [vd_up_ne (by omega), vd_up_ne (by omega), vd_up_ne (by omega)]
      have u3' : (vd_up (vd_up (vd_up g 63 111 (vd_I ot)) 63 104 (vd_I mx)) 63 105 (vd_I mx)) 63 104 = vd_I mx := by rw [vd_up_ne (by omega), vd_up_eq]
      generalize hgg : vd_up (vd_up (vd_up g 63 111 (vd_I ot)) 63 104 (vd_I mx)) 63 105 (vd_I mx) = gg at *
      have e182 : ∀ d Q, vd_wp (d + 3) 203 108 [.ref 63, .int a1, vd_U, vd_U] [] (vd_mf N gg) Q = Q (vd_mf N (vd_up g1 63 105 (vd_I r))) (.inl none) := fun d Q => by
        by_cases t : mx < sa + sl
        · rw [if_pos t] at p2
          rcases (show mx = 1 ∨ mx = 2 ∨ mx = 3 by omega) with q | q | q
          · subst q
            simp (disch := first | decide | omega) only [if_true, eq_self, show (6 * 1 : Int) = 6 by decide, show (63 + 6 + 0 : Int) = 69 by decide] at p2
            simp (disch := first | decide | omega) only [vd_S203_0 hN, vd_S203_25 hN, vd_S203_36 hN, vd_S203_42 hN, vd_S203_46 hN, vd_S203_52 hN, vd_S203_56 hN, vd_S203_62 hN, vd_S203_66 hN, vd_S203_67 hN, vd_S203_86 hN, vd_S203_93 hN, vd_S203_100 hN, vd_S203_107 hN, vd_S203_108 hN, vd_S203_132 hN, vd_S203_136 hN, vd_S203_137 hN, vd_S203_146 hN, vd_S203_150 hN, vd_S203_158 hN, vd_S203_162 hN, vd_S203_163 hN, vd_S203_8 hN, vd_S203_32 hN, vd_S203_113 hN, vd_S203_179 hN, vd_S203_11 hN, vd_S203_35 hN, vd_S203_116 hN, vd_S203_182 hN, vd_S203_13 hN, vd_S203_121 hN, vd_S203_16 hN, vd_S203_124 hN, u1', u2', u3', u1, u2, TA, TL, vd_rs_v, vd_rs_n, vd_I_add, vd_I_mul, vd_I_toInt, t, if_true, eq_self, show (6 * 1 : Int) = 6 by decide, show (63 + 6 + 0 : Int) = 69 by decide, p2]
          · subst q
            simp (disch := first | decide | omega) only [if_true, if_false, eq_self, show ¬ ((2 : Int) = 1) by decide, show (6 * 1 : Int) = 6 by decide, show (63 + 6 + 1 : Int) = 70 by decide] at p2
            simp (disch := first | decide | omega) only [vd_S203_0 hN, vd_S203_25 hN, vd_S203_36 hN, vd_S203_42 hN, vd_S203_46 hN, vd_S203_52 hN, vd_S203_56 hN, vd_S203_62 hN, vd_S203_66 hN, vd_S203_67 hN, vd_S203_86 hN, vd_S203_93 hN, vd_S203_100 hN, vd_S203_107 hN, vd_S203_108 hN, vd_S203_132 hN, vd_S203_136 hN, vd_S203_137 hN, vd_S203_146 hN, vd_S203_150 hN, vd_S203_158 hN, vd_S203_162 hN, vd_S203_163 hN, vd_S203_8 hN, vd_S203_32 hN, vd_S203_113 hN, vd_S203_179 hN, vd_S203_11 hN, vd_S203_35 hN, vd_S203_116 hN, vd_S203_182 hN, vd_S203_13 hN, vd_S203_121 hN, vd_S203_16 hN, vd_S203_124 hN, u1', u2', u3', u1, u2, TA, TL, vd_rs_v, vd_rs_n, vd_I_add, vd_I_mul, vd_I_toInt, t, if_true, if_false, eq_self, show ¬ ((2 : Int) = 1) by decide, show (6 * 1 : Int) = 6 by decide, show (63 + 6 + 1 : Int) = 70 by decide, p2]
          · subst q
            simp (disch := first | decide | omega) only [if_true, if_false, show ¬ ((3 : Int) = 1) by decide, show ¬ ((3 : Int) = 2) by decide, show (6 * 1 : Int) = 6 by decide, show (63 + 6 + 3 : Int) = 72 by decide] at p2
            simp (disch := first | decide | omega) only [vd_S203_0 hN, vd_S203_25 hN, vd_S203_36 hN, vd_S203_42 hN, vd_S203_46 hN, vd_S203_52 hN, vd_S203_56 hN, vd_S203_62 hN, vd_S203_66 hN, vd_S203_67 hN, vd_S203_86 hN, vd_S203_93 hN, vd_S203_100 hN, vd_S203_107 hN, vd_S203_108 hN, vd_S203_132 hN, vd_S203_136 hN, vd_S203_137 hN, vd_S203_146 hN, vd_S203_150 hN, vd_S203_158 hN, vd_S203_162 hN, vd_S203_163 hN, vd_S203_8 hN, vd_S203_32 hN, vd_S203_113 hN, vd_S203_179 hN, vd_S203_11 hN, vd_S203_35 hN, vd_S203_116 hN, vd_S203_182 hN, vd_S203_13 hN, vd_S203_121 hN, vd_S203_16 hN, vd_S203_124 hN, u1', u2', u3', u1, u2, TA, TL, vd_rs_v, vd_rs_n, vd_I_add, vd_I_mul, vd_I_toInt, t, if_true, if_false, show ¬ ((3 : Int) = 1) by decide, show ¬ ((3 : Int) = 2) by decide, show (6 * 1 : Int) = 6 by decide, show (63 + 6 + 3 : Int) = 72 by decide, p2]
        · rw [if_neg t] at p2
          rcases (show mx = 1 ∨ mx = 2 ∨ mx = 3 by omega) with q | q | q
          · subst q
            simp (disch := first | decide | omega) only [if_true, eq_self, show (6 * 0 : Int) = 0 by decide, show (63 + 0 + 0 : Int) = 63 by decide] at p2
            simp (disch := first | decide | omega) only [vd_S203_0 hN, vd_S203_25 hN, vd_S203_36 hN, vd_S203_42 hN, vd_S203_46 hN, vd_S203_52 hN, vd_S203_56 hN, vd_S203_62 hN, vd_S203_66 hN, vd_S203_67 hN, vd_S203_86 hN, vd_S203_93 hN, vd_S203_100 hN, vd_S203_107 hN, vd_S203_108 hN, vd_S203_132 hN, vd_S203_136 hN, vd_S203_137 hN, vd_S203_146 hN, vd_S203_150 hN, vd_S203_158 hN, vd_S203_162 hN, vd_S203_163 hN, vd_S203_8 hN, vd_S203_32 hN, vd_S203_113 hN, vd_S203_179 hN, vd_S203_11 hN, vd_S203_35 hN, vd_S203_116 hN, vd_S203_182 hN, vd_S203_13 hN, vd_S203_121 hN, vd_S203_16 hN, vd_S203_124 hN, u1', u2', u3', u1, u2, TA, TL, vd_rs_v, vd_rs_n, vd_I_add, vd_I_mul, vd_I_toInt, t, if_true, if_false, eq_self, show (6 * 0 : Int) = 0 by decide, show (63 + 0 + 0 : Int) = 63 by decide, p2]
          · subst q
            simp (disch := first | decide | omega) only [if_true, if_false, eq_self, show ¬ ((2 : Int) = 1) by decide, show (6 * 0 : Int) = 0 by decide, show (63 + 0 + 1 : Int) = 64 by decide] at p2
            simp (disch := first | decide | omega) only [vd_S203_0 hN, vd_S203_25 hN, vd_S203_36 hN, vd_S203_42 hN, vd_S203_46 hN, vd_S203_52 hN, vd_S203_56 hN, vd_S203_62 hN, vd_S203_66 hN, vd_S203_67 hN, vd_S203_86 hN, vd_S203_93 hN, vd_S203_100 hN, vd_S203_107 hN, vd_S203_108 hN, vd_S203_132 hN, vd_S203_136 hN, vd_S203_137 hN, vd_S203_146 hN, vd_S203_150 hN, vd_S203_158 hN, vd_S203_162 hN, vd_S203_163 hN, vd_S203_8 hN, vd_S203_32 hN, vd_S203_113 hN, vd_S203_179 hN, vd_S203_11 hN, vd_S203_35 hN, vd_S203_116 hN, vd_S203_182 hN, vd_S203_13 hN, vd_S203_121 hN, vd_S203_16 hN, vd_S203_124 hN, u1', u2', u3', u1, u2, TA, TL, vd_rs_v, vd_rs_n, vd_I_add, vd_I_mul, vd_I_toInt, t, if_true, if_false, eq_self, show ¬ ((2 : Int) = 1) by decide, show (6 * 0 : Int) = 0 by decide, show (63 + 0 + 1 : Int) = 64 by decide, p2]
          · subst q
            simp (disch := first | decide | omega) only [if_false, show ¬ ((3 : Int) = 1) by decide, show ¬ ((3 : Int) = 2) by decide, show (6 * 0 : Int) = 0 by decide, show (63 + 0 + 3 : Int) = 66 by decide] at p2
            simp (disch := first | decide | omega) only [vd_S203_0 hN, vd_S203_25 hN, vd_S203_36 hN, vd_S203_42 hN, vd_S203_46 hN, vd_S203_52 hN, vd_S203_56 hN, vd_S203_62 hN, vd_S203_66 hN, vd_S203_67 hN, vd_S203_86 hN, vd_S203_93 hN, vd_S203_100 hN, vd_S203_107 hN, vd_S203_108 hN, vd_S203_132 hN, vd_S203_136 hN, vd_S203_137 hN, vd_S203_146 hN, vd_S203_150 hN, vd_S203_158 hN, vd_S203_162 hN, vd_S203_163 hN, vd_S203_8 hN, vd_S203_32 hN, vd_S203_113 hN, vd_S203_179 hN, vd_S203_11 hN, vd_S203_35 hN, vd_S203_116 hN, vd_S203_182 hN, vd_S203_13 hN, vd_S203_121 hN, vd_S203_16 hN, vd_S203_124 hN, u1', u2', u3', u1, u2, TA, TL, vd_rs_v, vd_rs_n, vd_I_add, vd_I_mul, vd_I_toInt, t, if_false, show ¬ ((3 : Int) = 1) by decide, show ¬ ((3 : Int) = 2) by decide, show (6 * 0 : Int) = 0 by decide, show (63 + 0 + 3 : Int) = 66 by decide, p2]
      simp (disch := first | assumption | omega) only [vd_S196_151 hN, vd_S196_155 hN, hG, e108, e182, vd_rs_v, vd_rs_n]
end VDS2
