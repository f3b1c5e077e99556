/-! ===== skipped or not, from other pictures or not ===== -/
section VDSK
variable {M N : vd_M} {ow fa lo lf W H nb : Nat} {O : Nat → Nat → Option Nat} {B : Nat → Nat → Int} {X : Nat → Nat → Int} {mp : Nat → Nat → Int} {x y w h n : Nat} {f g : Nat → Nat → Int32}
theorem vd_skip (hM : vd_SC M ow fa lo lf) (hN : vd_SR N) (k : vd_BK ow fa W H nb O B X mp x y w h n f g) (hc : vd_BC W H nb X mp x y w h) (hn : n + 1 ≤ 8000000) {s : Nat} (hs : s < 8) (hg : g 63 103 = vd_I (s : Int)) : ∃ (f' g' : Nat → Nat → Int32) (sk : Int), (∀ x1 x2 x3 x4 a6 a7 d Q, vd_wp (d + 2) 67 59 [.ref 44, .int x1, .int x2, .int x3, .int x4, .int (vd_I (s : Int)), a6, a7] [] (vd_mf M f) Q = vd_wp (d + 2) 67 97 [.ref 44, .int x1, .int x2, .int x3, .int x4, .int (vd_I (s : Int)), a6, a7] [] (vd_mf M f') Q) ∧ (∀ x1 x2 x3 x4 a5 d Q, vd_wp (d + 2) 196 55 [.ref 63, .int x1, .int x2, .int x3, .int x4, a5] [] (vd_mf N g) Q = (if X 0 0 = 0 then vd_wp (d + 2) 196 99 [.ref 63, .int x1, .int x2, .int x3, .int x4, a5] [.ref 63] (vd_mf N g') Q else vd_wp (d + 2) 196 150 [.ref 63, .int x1, .int x2, .int x3, .int x4, a5] [.ref 63] (vd_mf N g') Q)) ∧ (sk = 0 ∨ sk = 1) ∧ vd_BK ow fa W H nb O B X mp x y w h (n + 1) f' g' ∧ (f' fa (18 * nb + 5) = vd_I sk ∧ g' 63 110 = vd_I sk) ∧ (∀ q, q ≠ 5 → f' fa (18 * nb + q) = f fa (18 * nb + q)) ∧ (∀ i, 103 ≤ i → i ≠ 110 → g' 63 i = g 63 i) ∧ vd_fB fa f f' ∧ vd_gB g g' := by
  have hX := hc.1
  have hnb := hc.2.2.2.1
  have hA := k.2.2.2.1.1
  have hB := k.2.2.2.1.2
  have here := k.2.2.2.2.2.1.1
  have P3 : ∀ d Q, vd_wp d 78 0 [.ref 20, .int (vd_I (s : Int)), .int (vd_I 3)] [] (vd_mf M f) Q = Q (vd_mf M f) (.inl (some (.int (vd_I (vd_ft X s 3))))) := fun d Q => vd_P78 (q := 3) hM hX hA hs (by decide)
  have R3 : ∀ d Q, vd_wp d 201 0 [.ref 63, .int (vd_I 3)] [] (vd_mf N g) Q = Q (vd_mf N g) (.inl (some (.int (vd_I (vd_ft X s 3))))) := fun d Q => vd_P201 (q := 3) hN hX hB hg hs (by decide)
  have PT : ∀ (f : Nat → Nat → Int32) (v : Int32), f 44 8 = vd_I (18 * (nb : Int)) → ∀ d Q, vd_wp d 74 0 [.ref 44, .int (vd_I 5), .int v] [] (vd_mf M f) Q = Q (vd_mf M (vd_up f fa (18 * nb + 5) v)) (.inl none) := fun f v hh d Q => vd_P74 (q := 5) hM hh hnb (by decide)
  rcases vd_ft_b X s 3 with c | c
  · have e1 := vd_eq1_b B (vd_at W H O (x : Int) ((y : Int) - 1)) 5 1
    have e2 := vd_eq1_b B (vd_at W H O ((x : Int) - 1) (y : Int)) 5 1
    have al : ∀ d Q, vd_wp d 73 0 [.ref 44, .int (vd_I 5), .int (vd_I 1), vd_U] [] (vd_mf M f) Q = Q (vd_mf M f) (.inl (some (.int (vd_I (vd_eq1 B (vd_at W H O (x : Int) ((y : Int) - 1)) 5 1 + vd_eq1 B (vd_at W H O ((x : Int) - 1) (y : Int)) 5 1))))) := fun d Q => vd_alk hM k hc (q := 5) (v := 1) (by decide) (by decide) (by decide) d Q
    have cn := fun d Q => vd_cnt2 hN k hc (o := 89) (q := 5) (v := 1) hN.k89 hN.l89 (fun i j k' hi hj hk => by
      have q := (k.2.2.1.2.2 i j k' hi hj hk).1.2.2.2.2.2
      have hb := (k.2.1.2.2.2.2.2 k' (k.2.1.2.2.2.1 i j k' hk)).2.1
      rw [q]
      congr 1
      split <;> omega) d Q
    generalize hz : vd_eq1 B (vd_at W H O (x : Int) ((y : Int) - 1)) 5 1 + vd_eq1 B (vd_at W H O ((x : Int) - 1) (y : Int)) 5 1 = z at *
    obtain ⟨f1, g1, b, p1, p2, p3, p4, p5, p6⟩ := vd_read hM hN (z := 60 + z) k.1 (by omega) (by omega) (by omega)
    have k1 := k.keepD hM p4 p5 p6
    have PT1 := PT f1 (vd_I b) k1.2.2.2.2.2.1.1
    have st : g1 63 33 = vd_I (X 0 0) := k1.2.2.2.1.2.1.1
    have sx := hX.1.1
    refine ⟨vd_up f1 fa (18 * nb + 5) (vd_I b), vd_up g1 63 110 (vd_I b), b, fun x1 x2 x3 x4 a6 a7 d Q => ?_, fun x1 x2 x3 x4 a5 d Q => ?_, p3, (k1.put hM (by decide)).note (Or.inl ⟨rfl, by decide⟩), ⟨vd_up_eq _ _ _ _, vd_up_eq _ _ _ _⟩, fun q hq => ?_, fun i q1 q2 => ?_, p5.toB.up (Or.inr (Or.inr (Or.inl rfl))), p6.toB.up (by omega)⟩
    · simp (disch := omega) only [vd_S67_59 hM, vd_S67_68 hM, vd_S67_71 hM, vd_S67_78 hM, vd_S67_87 hM, vd_S67_90 hM, vd_S67_91 hM, vd_S67_94 hM, P3, c, vd_I_toInt, eq_self, if_true, vd_rs_v, vd_rs_n, al, vd_I_add, p1, PT1]
    · rcases p3 with rfl | rfl
      · simp (disch := first | decide | omega) only [vd_S196_55 hN, vd_S196_58 hN, vd_S196_61 hN, vd_S196_64 hN, vd_S196_72 hN, vd_S196_75 hN, vd_S196_76 hN, vd_S196_79 hN, vd_S196_87 hN, vd_S196_88 hN, R3, c, vd_I_toInt, eq_self, if_true, vd_rs_v, vd_rs_n, cn, vd_I_add, p2, show ¬ ((0 : Int) = 1) by decide, if_false, vd_fok0, st]
      · simp (disch := first | decide | omega) only [vd_S196_55 hN, vd_S196_58 hN, vd_S196_61 hN, vd_S196_64 hN, vd_S196_72 hN, vd_S196_75 hN, vd_S196_76 hN, vd_S196_79 hN, vd_S196_83 hN, vd_S196_88 hN, R3, c, vd_I_toInt, eq_self, if_true, vd_rs_v, vd_rs_n, cn, vd_I_add, p2, vd_fok1, st]
    · rw [vd_up_ne (by omega)]; exact p5.cur hM _
    · rw [vd_up_ne (by omega)]; exact p6.cur (by omega)
  · have PT1 := PT f (vd_I 1) here
    have st : g 63 33 = vd_I (X 0 0) := hB.1.1
    have sx := hX.1.1
    refine ⟨vd_up f fa (18 * nb + 5) (vd_I 1), vd_up g 63 110 (vd_I 1), 1, fun x1 x2 x3 x4 a6 a7 d Q => ?_, fun x1 x2 x3 x4 a5 d Q => ?_, Or.inr rfl, ((k.put hM (by decide)).note (Or.inl ⟨rfl, by decide⟩)).keepR (((k.put hM (q := 5) (v := vd_I 1) (by decide)).note (c := 63) (i := 110) (v := vd_I 1) (Or.inl ⟨rfl, by decide⟩)).1.mono (by omega)) (fun _ _ _ => rfl) (fun _ _ _ => rfl), ⟨vd_up_eq _ _ _ _, vd_up_eq _ _ _ _⟩, fun q hq => vd_up_ne (by omega), fun i q1 q2 => vd_up_ne (by omega), (vd_fB.refl fa f).up (Or.inr (Or.inr (Or.inl rfl))), (vd_gB.refl g).up (by omega)⟩
    · simp (disch := omega) only [vd_S67_59 hM, vd_S67_68 hM, vd_S67_71 hM, vd_S67_74 hM, vd_S67_94 hM, P3, c, vd_I_toInt, show ¬ ((1 : Int) = 0) by decide, if_false, vd_rs_v, vd_rs_n, PT1]
    · simp (disch := first | decide | omega) only [vd_S196_55 hN, vd_S196_58 hN, vd_S196_61 hN, vd_S196_83 hN, vd_S196_88 hN, R3, c, vd_I_toInt, show ¬ ((1 : Int) = 0) by decide, if_false, vd_rs_v, vd_rs_n, vd_fok1, st]
end VDSK
