/-! ===== the modes of a block that is predicted from the picture itself ===== -/
def vd_mo (B : Nat → Nat → Int) (o : Option Nat) : Int := match o with
  | none => 0
  | some k => max 0 (B k 7)
section VDMD
variable {M N : vd_M} {ow fa lo lf W H nb : Nat} {O : Nat → Nat → Option Nat} {B : Nat → Nat → Int} {X : Nat → Nat → Int} {mp : Nat → Nat → Int} {x y w h n : Nat} {f g : Nat → Nat → Int32}
theorem vd_P100 (hM : vd_SC M ow fa lo lf) (h : vd_GA ow fa W H nb O B f) {o : Option Nat} (ho : ∀ k, o = some k → k < nb) (d : Nat) (Q : vd_M → (Option Value ⊕ Nat) → Prop) : vd_wp (d + 1) 100 0 [.ref 44, .int (vd_I (vd_pl o))] [] (vd_mf M f) Q = Q (vd_mf M f) (.inl (some (.int (vd_I (vd_mo B o))))) := by
  obtain ⟨_, ⟨_, _, _, _, nb1⟩, _, _, k3, k4⟩ := h
  cases o with
  | none => simp (disch := omega) only [vd_S100_0 hM, vd_S100_4 hM, vd_S100_8 hM, vd_S100_24 hM, vd_S100_20 hM, vd_S100_21 hM, vd_pl, vd_mo, vd_I_toInt, show (-1 : Int) < 0 by decide, if_true]
  | some k =>
    have hk := ho k rfl
    have e7 := k3 k 7 hk (by decide)
    have hb := (k4 k hk).2.1
    have i7 : (18 * (k : Int) + 7).toNat = 18 * k + 7 := by omega
    simp (disch := omega) only [vd_S100_0 hM, vd_S100_4 hM, vd_S100_8 hM, vd_S100_24 hM, vd_S100_20 hM, vd_S100_21 hM, vd_pl, vd_mo, vd_I_toInt, show ¬ (18 * (k : Int) < 0) by omega, if_false, vd_I_add, i7, e7, vd_P287, vd_rs_v, vd_rs_n]
theorem vd_P220 (hN : vd_SR N) (hA : vd_GA ow fa W H nb O B f) (h : vd_GB W H O B g) (w1 : W ≤ 24) (w2 : H ≤ 24) {a b v : Int} (hv : v = b * (W : Int) + a) (d : Nat) (Q : vd_M → (Option Value ⊕ Nat) → Prop) : vd_wp d 220 0 [.ref 63, .int (vd_I (vd_nu (vd_at W H O a b) v))] [] (vd_mf N g) Q = Q (vd_mf N g) (.inl (some (.int (vd_I (vd_mo B (vd_at W H O a b)))))) := by
  cases e : vd_at W H O a b with
  | none => simp (disch := omega) only [vd_S220_0 hN, vd_S220_4 hN, vd_S220_13 hN, vd_S220_17 hN, vd_S220_23 hN, vd_S220_9 hN, vd_S220_22 hN, vd_nu, vd_mo, vd_I_toInt, show (-1 : Int) < 0 by decide, if_true]
  | some k =>
    obtain ⟨i, j, rfl, rfl, hi, hj, hk⟩ := vd_at_some e
    have hkk := hA.2.2.2.1 i j k hk
    have hb := (hA.2.2.2.2.2 k hkk).2.1
    have q := h.2.2 i j k hi hj hk
    have e7 := q.2.1.2.1
    have e8 := q.2.1.2.2.2
    have hx := vd_ix hi hj
    have hy : W * H ≤ 24 * 24 := Nat.mul_le_mul w1 w2
    rw [vd_ixN] at hv
    subst hv
    have cn : ¬ (((W * j + i : Nat) : Int) < 0) := by omega
    by_cases c7 : B k 7 < 0
    · rw [if_pos c7] at e8
      simp (disch := omega) only [vd_S220_0 hN, vd_S220_4 hN, vd_S220_13 hN, vd_S220_17 hN, vd_S220_23 hN, vd_S220_9 hN, vd_S220_22 hN, vd_nu, vd_mo, vd_I_toInt, cn, if_false, Int.toNat_natCast, e8, show ¬ ((1 : Int) = 0) by decide, show max 0 (B k 7) = 0 by omega]
    · rw [if_neg c7] at e8
      simp (disch := omega) only [vd_S220_0 hN, vd_S220_4 hN, vd_S220_13 hN, vd_S220_17 hN, vd_S220_23 hN, vd_S220_9 hN, vd_S220_22 hN, vd_nu, vd_mo, vd_I_toInt, cn, if_false, Int.toNat_natCast, e7, e8, eq_self, if_true, show max 0 (B k 7) = B k 7 by omega]
theorem vd_modes (hM : vd_SC M ow fa lo lf) (hN : vd_SR N) (k : vd_BK ow fa W H nb O B X mp x y w h n f g) (hc : vd_BC W H nb X mp x y w h) (hn : n + 18 ≤ 8000000) : ∃ (f' g' : Nat → Nat → Int32) (md cm : Int), (∀ d Q, vd_wp (d + 2) 99 0 [.ref 44, vd_U, vd_U] [] (vd_mf M f) Q = Q (vd_mf M f') (.inl none)) ∧ (∀ d Q, vd_wp (d + 3) 219 0 [.ref 63, vd_U, vd_U] [] (vd_mf N g) Q = Q (vd_mf N g') (.inl none)) ∧ ((0 ≤ md ∧ md ≤ 9) ∧ (0 ≤ cm ∧ cm ≤ 9)) ∧ vd_BK ow fa W H nb O B X mp x y w h (n + 18) f' g' ∧ (f' fa (18 * nb + 7) = vd_I md ∧ f' fa (18 * nb + 8) = vd_I cm ∧ f' fa (18 * nb + 9) = vd_I (-1) ∧ f' fa (18 * nb + 10) = vd_I (-1) ∧ f' fa (18 * nb + 11) = vd_I (-1) ∧ f' fa (18 * nb + 16) = vd_I (-1)) ∧ (g' 63 106 = vd_I md ∧ g' 63 107 = vd_I cm) ∧ (∀ q, (q < 7 ∨ (12 ≤ q ∧ q ≠ 16)) → f' fa (18 * nb + q) = f fa (18 * nb + q)) ∧ (∀ i, 103 ≤ i → i ≠ 106 → i ≠ 107 → g' 63 i = g 63 i) ∧ (∀ c i, 117 ≤ c → c ≤ 121 → g' c i = g c i) ∧ vd_fB fa f f' ∧ vd_gB g g' := by
  have hX := hc.1
  have hW := hc.2.2.1
  have hnb := hc.2.2.2.1
  have hwh := hc.2.2.2.2.2
  have here := k.2.2.2.2.2.1
  have hbx := k.2.2.2.2.2.2.1
  have hby := k.2.2.2.2.2.2.2.1
  have hm := vd_pw hwh.1 hwh.2
  have hw8 : 1 ≤ w ∧ w ≤ 8 ∧ 1 ≤ h ∧ h ≤ 8 := by omega
  clear hwh
  have hat : ∀ a b k', vd_at W H O a b = some k' → k' < nb := fun a b k' e => by
    obtain ⟨i, j, _, _, _, _, e2⟩ := vd_at_some e
    exact k.2.1.2.2.2.1 i j k' e2
  have hmo : ∀ a b, 0 ≤ vd_mo B (vd_at W H O a b) ∧ vd_mo B (vd_at W H O a b) ≤ 9 := fun a b => by
    cases e : vd_at W H O a b with
    | none => simp only [vd_mo]; omega
    | some k' =>
      have := (k.2.1.2.2.2.2.2 k' (hat a b k' e)).2.1
      simp only [vd_mo]
      omega
  have MA := fun d Q => vd_P100 hM k.2.1 (hat (x : Int) ((y : Int) - 1)) d Q
  have ML := fun d Q => vd_P100 hM k.2.1 (hat ((x : Int) - 1) (y : Int)) d Q
  have NA := fun d Q => vd_P220 (a := (x : Int)) (b := (y : Int) - 1) hN k.2.1 k.2.2.1 hW.2.1 hW.2.2.2 rfl d Q
  have NL := fun d Q => vd_P220 (a := (x : Int) - 1) (b := (y : Int)) (v := (y : Int) * (W : Int) + (x : Int) - 1) hN k.2.1 k.2.2.1 hW.2.1 hW.2.2.2 (by omega) d Q
  have ba := hmo (x : Int) ((y : Int) - 1)
  have bl := hmo ((x : Int) - 1) (y : Int)
  generalize hma : vd_mo B (vd_at W H O (x : Int) ((y : Int) - 1)) = ma at *
  generalize hml : vd_mo B (vd_at W H O ((x : Int) - 1) (y : Int)) = ml at *
  have u1 := k.2.2.2.2.2.2.2.2.1
  have u2 := k.2.2.2.2.2.2.2.2.2
  have st := fun d Q => vd_P33 (d := d) (Q := Q) hM hX k.2.2.2.1.1
  have b0 : g 63 33 = vd_I (X 0 0) := k.2.2.2.1.2.1.1
  have s0 := hX.1.1
  have F2 : ∀ d Q, vd_wp d 83 0 [.ref 44, .int (vd_I 2)] [] (vd_mf M f) Q = Q (vd_mf M f) (.inl (some (.int (vd_I (w : Int))))) := fun d Q => by rw [← hbx.2.2.1]; exact vd_P83 (q := 2) hM here.1 hnb (by decide)
  have F3 : ∀ d Q, vd_wp d 83 0 [.ref 44, .int (vd_I 3)] [] (vd_mf M f) Q = Q (vd_mf M f) (.inl (some (.int (vd_I (h : Int))))) := fun d Q => by rw [← hbx.2.2.2]; exact vd_P83 (q := 3) hM here.1 hnb (by decide)
  have PT : ∀ (q : Nat) (hq : q < 18) (f : Nat → Nat → Int32) (v : Int32), f 44 8 = vd_I (18 * (nb : Int)) → ∀ d Q, vd_wp d 74 0 [.ref 44, .int (vd_I (q : Int)), .int v] [] (vd_mf M f) Q = Q (vd_mf M (vd_up f fa (18 * nb + q) v)) (.inl none) := fun q hq f v hh d Q => vd_P74 hM hh hnb hq
  -- the first model
  have hrk := vd_rk_b (min (w : Int) (h : Int))
  have em : min (w : Int) (h : Int) = ((min w h : Nat) : Int) := by omega
  have e8 : min (8 * (w : Int)) (8 * (h : Int)) = 8 * ((min w h : Nat) : Int) := by omega
  have hz : 0 ≤ (if X 0 0 = 0 then 975 + 9 * vd_rk (min (w : Int) (h : Int)) else 75 + 9 * (10 * ma + ml)) ∧ (if X 0 0 = 0 then 975 + 9 * vd_rk (min (w : Int) (h : Int)) else 75 + 9 * (10 * ma + ml)) ≤ 1100 := by split <;> omega
  obtain ⟨f1, g1, md, p1, p2, p3, p4, p5, p6, p7⟩ := vd_ladder hM hN (z := if X 0 0 = 0 then 975 + 9 * vd_rk (min (w : Int) (h : Int)) else 75 + 9 * (10 * ma + ml)) (w := 9) hz.1 (by decide) (by decide) (by omega) (show n + (9 : Int).toNat ≤ 8000000 by simp; omega) k.1
  have k1 := ((k.keepD hM p5 p6 p7).put hM (q := 7) (v := vd_I md) (by decide)).note (c := 63) (i := 106) (v := vd_I md) (Or.inl ⟨rfl, by decide⟩)
  obtain ⟨f2, g2, cm, q1, q2, q3, q4, q5, q6, q7⟩ := vd_ladder hM hN (z := 1011 + 9 * md) (w := 9) (by omega) (by decide) (by decide) (by omega) (show n + (9 : Int).toNat + (9 : Int).toNat ≤ 8000000 by simp; omega) k1.1
  have k2 := k1.keepD hM q5 q6 q7
  have h1 : f1 44 8 = vd_I (18 * (nb : Int)) := (k.keepD hM p5 p6 p7).2.2.2.2.2.1.1
  have h2 : f2 44 8 = vd_I (18 * (nb : Int)) := k2.2.2.2.2.2.1.1
  have hp := vd_par_ne hM
  have h44 : ∀ (f : Nat → Nat → Int32) i v, f 44 8 = vd_I (18 * (nb : Int)) → vd_up f fa i v 44 8 = vd_I (18 * (nb : Int)) := fun f i v hh => by rw [vd_up_ne (by omega)]; exact hh
  clear hp
  have P7 := PT 7 (by decide) f1 (vd_I md) h1
  have P8 := PT 8 (by decide) f2 (vd_I cm) h2
  have P9 := PT 9 (by decide) _ (vd_I (-1)) (h44 f2 (18 * nb + 8) (vd_I cm) h2)
  have P10 := PT 10 (by decide) _ (vd_I (-1)) (h44 _ (18 * nb + 9) (vd_I (-1)) (h44 f2 (18 * nb + 8) (vd_I cm) h2))
  have P11 := PT 11 (by decide) _ (vd_I (-1)) (h44 _ (18 * nb + 10) (vd_I (-1)) (h44 _ (18 * nb + 9) (vd_I (-1)) (h44 f2 (18 * nb + 8) (vd_I cm) h2)))
  have P16 := PT 16 (by decide) _ (vd_I (-1)) (h44 _ (18 * nb + 11) (vd_I (-1)) (h44 _ (18 * nb + 10) (vd_I (-1)) (h44 _ (18 * nb + 9) (vd_I (-1)) (h44 f2 (18 * nb + 8) (vd_I cm) h2))))
  refine ⟨vd_up (vd_up (vd_up (vd_up (vd_up f2 fa (18 * nb + 8) (vd_I cm)) fa (18 * nb + 9) (vd_I (-1))) fa (18 * nb + 10) (vd_I (-1))) fa (18 * nb + 11) (vd_I (-1))) fa (18 * nb + 16) (vd_I (-1)), vd_up g2 63 107 (vd_I cm), md, cm, fun d Q => ?_, fun d Q => ?_, ⟨⟨p3, p4⟩, ⟨q3, q4⟩⟩, ?_, ⟨?_, ?_, ?_, ?_, ?_, ?_⟩, ⟨?_, ?_⟩, fun q hq => ?_, fun i i1 i2 i3 => ?_, fun c i c1 c2 => ?_, ?_, ?_⟩
  · have P7' : ∀ d Q, vd_wp d 74 0 [.ref 44, .int (vd_I 7), .int (vd_I md)] [] (vd_mf M f1) Q = _ := P7
    have P8' : ∀ d Q, vd_wp d 74 0 [.ref 44, .int (vd_I 8), .int (vd_I cm)] [] (vd_mf M f2) Q = _ := P8
    have P9' : ∀ d Q, vd_wp d 74 0 [.ref 44, .int (vd_I 9), .int (vd_I (-1))] [] (vd_mf M (vd_up f2 fa (18 * nb + 8) (vd_I cm))) Q = _ := P9
    have P10' : ∀ d Q, vd_wp d 74 0 [.ref 44, .int (vd_I 10), .int (vd_I (-1))] [] (vd_mf M (vd_up (vd_up f2 fa (18 * nb + 8) (vd_I cm)) fa (18 * nb + 9) (vd_I (-1)))) Q = _ := P10
    have P11' : ∀ d Q, vd_wp d 74 0 [.ref 44, .int (vd_I 11), .int (vd_I (-1))] [] (vd_mf M (vd_up (vd_up (vd_up f2 fa (18 * nb + 8) (vd_I cm)) fa (18 * nb + 9) (vd_I (-1))) fa (18 * nb + 10) (vd_I (-1)))) Q = _ := P11
    have P16' : ∀ d Q, vd_wp d 74 0 [.ref 44, .int (vd_I 16), .int (vd_I (-1))] [] (vd_mf M (vd_up (vd_up (vd_up (vd_up f2 fa (18 * nb + 8) (vd_I cm)) fa (18 * nb + 9) (vd_I (-1))) fa (18 * nb + 10) (vd_I (-1))) fa (18 * nb + 11) (vd_I (-1)))) Q = _ := P16
    rcases s0 with s0 | s0
    · rw [if_pos s0] at p1
      simp (disch := omega) only [vd_S99_0 hM, vd_S99_34 hM, vd_S99_61 hM, vd_S99_7 hM, vd_S99_45 hM, vd_S99_68 hM, vd_S99_10 hM, vd_S99_48 hM, vd_S99_71 hM, vd_S99_12 hM, vd_S99_54 hM, vd_S99_76 hM, vd_S99_15 hM, vd_S99_57 hM, vd_S99_79 hM, vd_S99_18 hM, vd_S99_96 hM, vd_S99_21 hM, vd_S99_99 hM, vd_S99_28 hM, vd_S99_102 hM, vd_S99_31 hM, vd_S99_106 hM, vd_S99_109 hM, vd_S99_113 hM, vd_S99_116 hM, vd_S99_120 hM, vd_S99_123 hM, vd_S99_127 hM, vd_S99_130 hM, F2, F3, vd_P289, vd_P84 hM, st, s0, vd_rs_v, vd_rs_n, vd_I_add, vd_I_mul, vd_I_toInt, eq_self, if_true, p1, P7', q1, P8', P9', P10', P11', P16']
    · rw [if_neg (show ¬ X 0 0 = 0 by omega)] at p1
      simp (disch := omega) only [vd_S99_0 hM, vd_S99_34 hM, vd_S99_61 hM, vd_S99_7 hM, vd_S99_45 hM, vd_S99_68 hM, vd_S99_10 hM, vd_S99_48 hM, vd_S99_71 hM, vd_S99_12 hM, vd_S99_54 hM, vd_S99_76 hM, vd_S99_15 hM, vd_S99_57 hM, vd_S99_79 hM, vd_S99_18 hM, vd_S99_96 hM, vd_S99_21 hM, vd_S99_99 hM, vd_S99_28 hM, vd_S99_102 hM, vd_S99_31 hM, vd_S99_106 hM, vd_S99_109 hM, vd_S99_113 hM, vd_S99_116 hM, vd_S99_120 hM, vd_S99_123 hM, vd_S99_127 hM, vd_S99_130 hM, F2, F3, vd_P289, vd_P84 hM, st, s0, here.2.1, here.2.2, MA, ML, vd_rs_v, vd_rs_n, vd_I_add, vd_I_mul, vd_I_toInt, show ¬ ((1 : Int) = 0) by decide, if_false, p1, P7', q1, P8', P9', P10', P11', P16']
  · have e43 : ∀ d Q, vd_wp (d + 3) 219 0 [.ref 63, vd_U, vd_U] [] (vd_mf N g) Q = vd_wp (d + 3) 219 43 [.ref 63, .int (vd_I (8 * ((min w h : Nat) : Int))), vd_U] [.int (vd_I (vd_rk ((min w h : Nat) : Int)))] (vd_mf N g) Q := fun d Q => by
      have b1 := hby.1
      have b2 := hby.2.1
      simp (disch := omega) only [vd_S219_0 hN, vd_S219_8 hN, vd_S219_11 hN, b1, b2, vd_P289, vd_rs_v, vd_rs_n, e8]
      clear em hz p1 hrk
      generalize min w h = z at *
      rcases hm with rfl | rfl | rfl | rfl
      · simp (disch := omega) only [vd_S219_18 hN, vd_I_toInt, show (8 * ((1 : Nat) : Int)) = 8 by decide, eq_self, if_true]
        rfl
      · simp (disch := omega) only [vd_S219_22 hN, vd_S219_28 hN, vd_I_toInt, show (8 * ((2 : Nat) : Int)) = 16 by decide, show ¬ ((16 : Int) = 8) by decide, eq_self, if_true, if_false]
        rfl
      · simp (disch := omega) only [vd_S219_22 hN, vd_S219_32 hN, vd_S219_38 hN, vd_I_toInt, show (8 * ((4 : Nat) : Int)) = 32 by decide, show ¬ ((32 : Int) = 8) by decide, show ¬ ((32 : Int) = 16) by decide, eq_self, if_true, if_false]
        rfl
      · simp (disch := omega) only [vd_S219_22 hN, vd_S219_32 hN, vd_S219_42 hN, vd_I_toInt, show (8 * ((8 : Nat) : Int)) = 64 by decide, show ¬ ((64 : Int) = 8) by decide, show ¬ ((64 : Int) = 16) by decide, show ¬ ((64 : Int) = 32) by decide, if_false]
        rfl
    rw [e43]
    rcases s0 with s0 | s0
    · rw [if_pos s0, em] at p2
      simp (disch := omega) only [vd_S219_43 hN, vd_S219_82 hN, vd_S219_90 hN, vd_S219_92 hN, vd_S219_95 hN, vd_S219_113 hN, vd_S219_116 hN, vd_up_at, vd_ua_at, Nat.reduceEqDiff, Nat.reduceAdd, Nat.reduceMul, and_false, false_and, and_true, true_and, and_self, if_true, if_false, reduceIte, ne_eq, not_false_eq_true, not_true_eq_false, eq_self, b0, s0, vd_rs_v, vd_rs_n, vd_I_add, vd_I_mul, vd_I_toInt, p2, q2]
    · rw [if_neg (show ¬ X 0 0 = 0 by omega)] at p2
      simp (disch := omega) only [vd_S219_43 hN, vd_S219_53 hN, vd_S219_64 hN, vd_S219_67 hN, vd_S219_73 hN, vd_S219_76 hN, vd_S219_90 hN, vd_S219_92 hN, vd_S219_95 hN, vd_S219_113 hN, vd_S219_116 hN, vd_up_at, vd_ua_at, Nat.reduceEqDiff, Nat.reduceAdd, Nat.reduceMul, and_false, false_and, and_true, true_and, and_self, if_true, if_false, reduceIte, ne_eq, not_false_eq_true, not_true_eq_false, eq_self, b0, s0, u1, u2, NA, NL, vd_rs_v, vd_rs_n, vd_I_add, vd_I_mul, vd_I_toInt, show ¬ ((1 : Int) = 0) by decide, p2, q2]
  · exact (((((k2.put hM (by decide)).put hM (by decide)).put hM (by decide)).put hM (by decide)).put hM (by decide)).note (Or.inl ⟨rfl, by decide⟩)
  · rw [vd_up_ne (by omega), vd_up_ne (by omega), vd_up_ne (by omega), vd_up_ne (by omega), vd_up_ne (by omega), q6.cur hM, vd_up_eq]
  · rw [vd_up_ne (by omega), vd_up_ne (by omega), vd_up_ne (by omega), vd_up_ne (by omega), vd_up_eq]
  · rw [vd_up_ne (by omega), vd_up_ne (by omega), vd_up_ne (by omega), vd_up_eq]
  · rw [vd_up_ne (by omega), vd_up_ne (by omega), vd_up_eq]
  · rw [vd_up_ne (by omega), vd_up_eq]
  · rw [vd_up_eq]
  · rw [vd_up_ne (by omega), q7.cur (by decide), vd_up_eq]
  · rw [vd_up_eq]
  · rw [vd_up_ne (by omega), vd_up_ne (by omega), vd_up_ne (by omega), vd_up_ne (by omega), vd_up_ne (by omega), q6.cur hM, vd_up_ne (by omega), p6.cur hM]
  · rw [vd_up_ne (by omega), q7.cur (by omega), vd_up_ne (by omega), p7.cur (by omega)]
  · rw [vd_up_ne (by omega), q7 c i (by omega) (by omega) (by omega), vd_up_ne (by omega), p7 c i (by omega) (by omega) (by omega)]
  · exact (((((((p6.toB.up (Or.inr (Or.inr (Or.inl rfl)))).trans q6.toB).up (Or.inr (Or.inr (Or.inl rfl)))).up (Or.inr (Or.inr (Or.inl rfl)))).up (Or.inr (Or.inr (Or.inl rfl)))).up (Or.inr (Or.inr (Or.inl rfl)))).up (Or.inr (Or.inr (Or.inl rfl))))
  · exact ((p7.toB.up (by omega)).trans q7.toB).up (by omega)
end VDMD
