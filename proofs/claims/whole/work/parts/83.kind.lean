/-! ===== the kind of a block's vectors, and its kernel ===== -/
section VDKI
variable {M N : vd_M} {ow fa lo lf W H nb : Nat} {O : Nat → Nat → Option Nat} {B : Nat → Nat → Int} {X : Nat → Nat → Int} {mp : Nat → Nat → Int} {x y w h n : Nat} {f g : Nat → Nat → Int32}
/-- one turn of the loop that counts new vectors -/
theorem vd_G206K (hN : vd_SR N) (hA : vd_GA ow fa W H nb O B f) (h : vd_GB W H O B g) (w1 : W ≤ 24) (w2 : H ≤ 24) {a b v : Int} {i : Nat} {nn : Int32} {c : Int} {a4 : Value} (hv : v = b * (W : Int) + a) (hi : i < 2) (c0 : 0 ≤ c) (c1 : c ≤ 2) {d : Nat} {Q : vd_M → (Option Value ⊕ Nat) → Prop} (hP : ∀ Q, vd_wp (d + 1) 209 0 [.ref 63, .int (vd_I (i : Int)), vd_U, vd_U, vd_U, vd_U] [] (vd_mf N g) Q = Q (vd_mf N g) (.inl (some (.int (vd_I (vd_nu (vd_at W H O a b) v)))))) : vd_wp (d + 2) 206 191 [.ref 63, .int nn, .int (vd_I c), .int (vd_I (i : Int)), a4] [] (vd_mf N g) Q = vd_wp (d + 2) 206 191 [.ref 63, .int nn, .int (vd_I (c + vd_eq1 B (vd_at W H O a b) 11 3)), .int (vd_I ((i : Int) + 1)), .int (vd_I (vd_nu (vd_at W H O a b) v))] [] (vd_mf N g) Q := by
  have hi2 : (i : Int) < 2 := by omega
  conv => lhs; rw [vd_S206_191 hN]
  cases e : vd_at W H O a b with
  | none =>
    rw [e] at hP
    simp (disch := omega) only [vd_S206_196 hN, vd_S206_198 hN, vd_S206_201 hN, vd_S206_232 hN, hP, vd_nu, vd_eq1, vd_rs_v, vd_rs_n, vd_I_toInt, hi2, show (-1 : Int) < 0 by decide, if_true, vd_I_add, Int.add_zero]
  | some k =>
    rw [e] at hP
    obtain ⟨i', j, rfl, rfl, hi', hj, hk⟩ := vd_at_some e
    have hkk := hA.2.2.2.1 i' j k hk
    have hb := hA.2.2.2.2.2 k hkk
    have hb1 := hb.2.1
    have hb2 := hb.2.2.1
    have hb3 := hb.2.2.2.2.2.2
    have q := h.2.2 i' j k hi' hj hk
    have e8 := q.2.1.2.2.2
    have e9 := q.2.2.1.2.2
    have hx := vd_ix hi' hj
    have hy : W * H ≤ 24 * 24 := Nat.mul_le_mul w1 w2
    rw [vd_ixN] at hv
    subst hv
    have cn : ¬ (((W * j + i' : Nat) : Int) < 0) := by omega
    by_cases c7 : B k 7 < 0
    · rw [if_pos c7] at e8
      by_cases c9 : B k 11 = 3
      · simp (disch := omega) only [vd_S206_196 hN, vd_S206_198 hN, vd_S206_201 hN, vd_S206_208 hN, vd_S206_214 hN, vd_S206_218 hN, vd_S206_224 hN, vd_S206_229 hN, vd_S206_232 hN, hP, vd_nu, vd_eq1, vd_rs_v, vd_rs_n, vd_I_toInt, hi2, cn, if_true, if_false, vd_I_add, Int.toNat_natCast, e8, e9, c9, show ¬ ((1 : Int) = 0) by decide, eq_self]
      · simp (disch := omega) only [vd_S206_196 hN, vd_S206_198 hN, vd_S206_201 hN, vd_S206_208 hN, vd_S206_214 hN, vd_S206_218 hN, vd_S206_224 hN, vd_S206_232 hN, hP, vd_nu, vd_eq1, vd_rs_v, vd_rs_n, vd_I_toInt, hi2, cn, if_true, if_false, vd_I_add, Int.toNat_natCast, e8, e9, c9, show ¬ ((1 : Int) = 0) by decide, Int.add_zero]
    · rw [if_neg c7] at e8
      simp (disch := omega) only [vd_S206_196 hN, vd_S206_198 hN, vd_S206_201 hN, vd_S206_208 hN, vd_S206_214 hN, vd_S206_232 hN, hP, vd_nu, vd_eq1, vd_rs_v, vd_rs_n, vd_I_toInt, hi2, cn, if_true, if_false, vd_I_add, Int.toNat_natCast, e8, eq_self, show ¬ (B k 11 = 3) by omega, Int.add_zero]
def vd_KindPost (M N : vd_M) (ow fa W H nb : Nat) (O : Nat → Nat → Option Nat) (B : Nat → Nat → Int) (X mp : Nat → Nat → Int) (x y w h n s : Nat) (f g : Nat → Nat → Int32) : Prop := ∃ (f' g' : Nat → Nat → Int32) (kd kn : Int) , (∀ d Q, vd_wp (d + 2) 88 0 [.ref 44, .int (vd_I (s : Int)), vd_U] [] (vd_mf M f) Q = Q (vd_mf M f') (.inl none)) ∧ (∀ nn a2, ∃ a3 a4 : Value, ∀ d Q, vd_wp (d + 3) 206 174 [.ref 63, .int nn, a2, vd_U, vd_U] [] (vd_mf N g) Q = vd_wp (d + 3) 206 300 [.ref 63, .int nn, .int (vd_I 0), a3, a4] [] (vd_mf N g') Q) ∧ ((0 ≤ kd ∧ kd ≤ 3) ∧ (0 ≤ kn ∧ kn ≤ 1)) ∧ vd_BK ow fa W H nb O B X mp x y w h (n + 4) f' g' ∧ (f' fa (18 * nb + 11) = vd_I kd ∧ f' fa (18 * nb + 16) = vd_I kn) ∧ (g' 63 108 = vd_I kd ∧ g' 63 109 = vd_I kn) ∧ (∀ q, q ≠ 11 → q ≠ 16 → f' fa (18 * nb + q) = f fa (18 * nb + q)) ∧ (∀ i, 103 ≤ i → i ≠ 108 → i ≠ 109 → g' 63 i = g 63 i) ∧ (∀ c i, 117 ≤ c → c ≤ 121 → g' c i = g c i) ∧ vd_fB fa f f' ∧ vd_gB g g'
theorem vd_kind (hM : vd_SC M ow fa lo lf) (hN : vd_SR N) (h00 : X 0 0 = 0) (k : vd_BK ow fa W H nb O B X mp x y w h n f g) (hc : vd_BC W H nb X mp x y w h) (hn : n + 4 ≤ 8000000) {s : Nat} (hs : s < 8) (hg : g 63 103 = vd_I (s : Int)) : vd_KindPost M N ow fa W H nb O B X mp x y w h n s f g := by
  have hX := hc.1
  have hW := hc.2.2.1
  have hnb := hc.2.2.2.1
  have hxy := hc.2.2.2.2.1
  have hw8 : 1 ≤ w ∧ w ≤ 8 ∧ 1 ≤ h ∧ h ≤ 8 := by
    have := hc.2.2.2.2.2
    omega
  have here := k.2.2.2.2.2.1.1
  have PT : ∀ (q : Nat) (hq : q < 18) (f : Nat → Nat → Int32) (v : Int32), f 44 8 = vd_I (18 * (nb : Int)) → ∀ d Q, vd_wp d 74 0 [.ref 44, .int (vd_I (q : Int)), .int v] [] (vd_mf M f) Q = Q (vd_mf M (vd_up f fa (18 * nb + q) v)) (.inl none) := fun q hq f v hh d Q => vd_P74 hM hh hnb hq
  -- the second half: the kernel
  have fin : ∀ {n1 : Nat} {f1 g1 : Nat → Nat → Int32} {kd : Int}, vd_BK ow fa W H nb O B X mp x y w h n1 f1 g1 → n1 ≤ n + 3 → 0 ≤ kd → kd ≤ 3 → f1 fa (18 * nb + 11) = vd_I kd → g1 63 108 = vd_I kd → (∀ q, q ≠ 11 → f1 fa (18 * nb + q) = f fa (18 * nb + q)) → (∀ i, 103 ≤ i → i ≠ 108 → g1 63 i = g 63 i) → (∀ c i, 117 ≤ c → c ≤ 121 → g1 c i = g c i) → vd_fB fa f f1 → vd_gB g g1 → (∀ d Q, vd_wp (d + 2) 88 0 [.ref 44, .int (vd_I (s : Int)), vd_U] [] (vd_mf M f) Q = vd_wp (d + 2) 88 43 [.ref 44, .int (vd_I (s : Int)), .int (vd_I kd)] [] (vd_mf M f1) Q) → (∀ nn a2, ∃ a2' a3 a4 : Value, ∀ d Q, vd_wp (d + 3) 206 174 [.ref 63, .int nn, a2, vd_U, vd_U] [] (vd_mf N g) Q = vd_wp (d + 3) 206 254 [.ref 63, .int nn, a2', a3, a4] [] (vd_mf N g1) Q) → vd_KindPost M N ow fa W H nb O B X mp x y w h n s f g := by
    intro n1 f1 g1 kd kk hn1 kd0 kd1 h11 h108 hq hi hcc hF hG eF eG
    have a11 : f1 17 11 = vd_I (X 0 4) := kk.2.2.2.1.1.2.1.2.2.2.2 h00
    have b40 : g1 63 40 = vd_I (X 0 4) := kk.2.2.2.1.2.1.2.2.2.2 h00
    have xk := hX.1.2.2.2.2.1
    have here1 := kk.2.2.2.2.2.1.1
    by_cases c2 : X 0 4 = 2
    · have SA := fun d Q => vd_P210 (a := (x : Int)) (b := (y : Int) - 1) hN kk.2.1 kk.2.2.1 hW.2.1 hW.2.2.2 rfl d Q
      have SL := fun d Q => vd_P210 (a := (x : Int) - 1) (b := (y : Int)) (v := (y : Int) * (W : Int) + (x : Int) - 1) hN kk.2.1 kk.2.2.1 hW.2.1 hW.2.2.2 (by omega) d Q
      have u1 := kk.2.2.2.2.2.2.2.2.1
      have u2 := kk.2.2.2.2.2.2.2.2.2
      have a16 : ∀ d Q, vd_wp d 73 0 [.ref 44, .int (vd_I 16), .int (vd_I 1), vd_U] [] (vd_mf M f1) Q = Q (vd_mf M f1) (.inl (some (.int (vd_I (vd_eq1 B (vd_at W H O (x : Int) ((y : Int) - 1)) 16 1 + vd_eq1 B (vd_at W H O ((x : Int) - 1) (y : Int)) 16 1))))) := fun d Q => vd_alk hM kk hc (q := 16) (v := 1) (by decide) (by decide) (by decide) d Q
      have d1 := vd_eq1_b B (vd_at W H O (x : Int) ((y : Int) - 1)) 16 1
      have d2 := vd_eq1_b B (vd_at W H O ((x : Int) - 1) (y : Int)) 16 1
      obtain ⟨f2, g2, b, p1, p2, p3, p4, p5, p6⟩ := vd_read hM hN (z := 1125 + (vd_eq1 B (vd_at W H O (x : Int) ((y : Int) - 1)) 16 1 + vd_eq1 B (vd_at W H O ((x : Int) - 1) (y : Int)) 16 1)) kk.1 (by omega) (by omega) (by omega)
      have p2' : ∀ d Q, vd_wp (d + 1) 202 0 [.ref 63, .int (vd_I (1125 + vd_eq1 B (vd_at W H O (x : Int) ((y : Int) - 1)) 16 1 + vd_eq1 B (vd_at W H O ((x : Int) - 1) (y : Int)) 16 1)), vd_U] [] (vd_mf N g1) Q = Q (vd_mf N g2) (.inl (some (.int (vd_I b)))) := fun d Q => by rw [Int.add_assoc]; exact p2 d Q
      have k2 := kk.keepD hM p4 p5 p6
      have P16 : ∀ d Q, vd_wp d 74 0 [.ref 44, .int (vd_I 16), .int (vd_I b)] [] (vd_mf M f2) Q = _ := PT 16 (by decide) f2 (vd_I b) k2.2.2.2.2.2.1.1
      have k3 := (k2.put hM (q := 16) (v := vd_I b) (by decide)).note (c := 63) (i := 109) (v := vd_I b) (Or.inl ⟨rfl, by decide⟩)
      refine ⟨vd_up f2 fa (18 * nb + 16) (vd_I b), vd_up g2 63 109 (vd_I b), kd, b, fun d Q => ?_, fun nn a2 => ?_, ⟨⟨kd0, kd1⟩, by omega⟩, k3.keepR (k3.1.mono (by omega)) (fun _ _ _ => rfl) (fun _ _ _ => rfl), ⟨?_, vd_up_eq _ _ _ _⟩, ⟨?_, vd_up_eq _ _ _ _⟩, fun q q1 q2 => ?_, fun i i1 i2 i3 => ?_, fun c i c1 c2 => ?_, (hF.trans p5.toB).up (Or.inr (Or.inr (Or.inl rfl))), (hG.trans p6.toB).up (by omega)⟩
      · rw [eF]
        simp (disch := omega) only [vd_S88_43 hM, vd_S88_57 hM, vd_S88_68 hM, vd_S88_71 hM, vd_S88_72 hM, vd_S88_75 hM, vd_S88_85 hM, vd_S88_88 hM, a11, c2, a16, vd_rs_v, vd_rs_n, vd_I_toInt, eq_self, if_true, vd_I_add, p1, P16]
      · obtain ⟨a2', a3, a4, eG'⟩ := eG nn a2
        refine ⟨a3, a4, fun d Q => ?_⟩
        rw [eG']
        simp (disch := omega) only [vd_S206_254 hN, vd_S206_270 hN, vd_S206_279 hN, vd_S206_282 hN, vd_S206_288 hN, vd_S206_291 hN, vd_S206_292 hN, vd_S206_295 hN, b40, c2, u1, u2, SA, SL, vd_rs_v, vd_rs_n, vd_I_toInt, Int.lt_irrefl, if_false, vd_I_add, p2']
      · rw [vd_up_ne (by omega), p5.cur hM]; exact h11
      · rw [vd_up_ne (by omega), p6.cur (by decide)]; exact h108
      · rw [vd_up_ne (by omega), p5.cur hM]; exact hq q q1
      · rw [vd_up_ne (by omega), p6.cur (by omega)]; exact hi i i1 i2
      · rw [vd_up_ne (by omega), p6 c i (by omega) (by omega) (by omega)]; exact hcc c i c1 c2
    · have P16 : ∀ d Q, vd_wp d 74 0 [.ref 44, .int (vd_I 16), .int (vd_I (X 0 4))] [] (vd_mf M f1) Q = _ := PT 16 (by decide) f1 (vd_I (X 0 4)) here1
      have k3 := (kk.put hM (q := 16) (v := vd_I (X 0 4)) (by decide)).note (c := 63) (i := 109) (v := vd_I (X 0 4)) (Or.inl ⟨rfl, by decide⟩)
      have c3 : X 0 4 < 2 := by omega
      refine ⟨vd_up f1 fa (18 * nb + 16) (vd_I (X 0 4)), vd_up g1 63 109 (vd_I (X 0 4)), kd, X 0 4, fun d Q => ?_, fun nn a2 => ?_, ⟨⟨kd0, kd1⟩, by omega⟩, k3.keepR (k3.1.mono (by omega)) (fun _ _ _ => rfl) (fun _ _ _ => rfl), ⟨?_, vd_up_eq _ _ _ _⟩, ⟨?_, vd_up_eq _ _ _ _⟩, fun q q1 q2 => ?_, fun i i1 i2 i3 => ?_, fun c i c1 c2 => ?_, hF.up (Or.inr (Or.inr (Or.inl rfl))), hG.up (by omega)⟩
      · rw [eF]
        simp (disch := omega) only [vd_S88_43 hM, vd_S88_78 hM, vd_S88_85 hM, vd_S88_88 hM, a11, c2, vd_rs_v, vd_rs_n, vd_I_toInt, if_false, P16]
      · obtain ⟨a2', a3, a4, eG'⟩ := eG nn a2
        refine ⟨a3, a4, fun d Q => ?_⟩
        rw [eG']
        simp (disch := omega) only [vd_S206_254 hN, vd_S206_263 hN, vd_S206_295 hN, b40, c3, vd_I_toInt, if_true]
      · rw [vd_up_ne (by omega)]; exact h11
      · rw [vd_up_ne (by omega)]; exact h108
      · rw [vd_up_ne (by omega)]; exact hq q q1
      · rw [vd_up_ne (by omega)]; exact hi i i1 i2
      · rw [vd_up_ne (by omega)]; exact hcc c i c1 c2
  have hA := k.2.2.2.1.1
  have kg : vd_BK ow fa W H nb O B X mp x y w h n f (vd_up g 63 108 (vd_I 0)) := k.note (Or.inl ⟨rfl, by decide⟩)
  have hg' : vd_up g 63 108 (vd_I 0) 63 103 = vd_I (s : Int) := by rw [vd_up_ne (by omega)]; exact hg
  have P3 : ∀ d Q, vd_wp d 78 0 [.ref 20, .int (vd_I (s : Int)), .int (vd_I 3)] [] (vd_mf M f) Q = Q (vd_mf M f) (.inl (some (.int (vd_I (vd_ft X s 3))))) := fun d Q => vd_P78 (q := 3) hM hX hA hs (by decide)
  have R3 : ∀ d Q, vd_wp d 201 0 [.ref 63, .int (vd_I 3)] [] (vd_mf N (vd_up g 63 108 (vd_I 0))) Q = Q (vd_mf N (vd_up g 63 108 (vd_I 0))) (.inl (some (.int (vd_I (vd_ft X s 3))))) := fun d Q => vd_P201 (q := 3) hN hX kg.2.2.2.1.2 hg' hs (by decide)
  rcases vd_ft_b X s 3 with c | c
  · have e0 : (x : Int) + vd_dx w 0 = (x : Int) := by show (x : Int) + 0 = _; omega
    have e0' : (y : Int) + vd_dy h 0 = (y : Int) - 1 := by show (y : Int) + (-1) = _; omega
    have e1 : (x : Int) + vd_dx w 1 = (x : Int) - 1 := by show (x : Int) + (-1) = _; omega
    have e1' : (y : Int) + vd_dy h 1 = (y : Int) := by show (y : Int) + 0 = _; omega
    have L0 := fun d Q => vd_P209 hN kg.2.2.1 kg.2.2.2.2.2.2.2.1 hW.2.1 hW.2.2.2 (by omega) (by omega) hw8.2.1 hw8.2.2.2 (i := 0) (by decide) d Q
    have L1 := fun d Q => vd_P209 hN kg.2.2.1 kg.2.2.2.2.2.2.2.1 hW.2.1 hW.2.2.2 (by omega) (by omega) hw8.2.1 hw8.2.2.2 (i := 1) (by decide) d Q
    rw [e0, e0'] at L0
    rw [e1, e1'] at L1
    have a11 : ∀ d Q, vd_wp d 73 0 [.ref 44, .int (vd_I 11), .int (vd_I 3), vd_U] [] (vd_mf M f) Q = Q (vd_mf M f) (.inl (some (.int (vd_I (vd_eq1 B (vd_at W H O (x : Int) ((y : Int) - 1)) 11 3 + vd_eq1 B (vd_at W H O ((x : Int) - 1) (y : Int)) 11 3))))) := fun d Q => vd_alk hM k hc (q := 11) (v := 3) (by decide) (by decide) (by decide) d Q
    have d1 := vd_eq1_b B (vd_at W H O (x : Int) ((y : Int) - 1)) 11 3
    have d2 := vd_eq1_b B (vd_at W H O ((x : Int) - 1) (y : Int)) 11 3
    have T0 := fun nn a4 d Q => vd_G206K (nn := nn) (a4 := a4) (c := 0) (i := 0) (d := d) (Q := Q) hN kg.2.1 kg.2.2.1 hW.2.1 hW.2.2.2 rfl (by decide) (by decide) (by decide) (L0 d)
    have T1 := fun nn a4 d Q => vd_G206K (nn := nn) (a4 := a4) (c := 0 + vd_eq1 B (vd_at W H O (x : Int) ((y : Int) - 1)) 11 3) (i := 1) (d := d) (Q := Q) hN kg.2.1 kg.2.2.1 hW.2.1 hW.2.2.2 rfl (by decide) (by omega) (by omega) (L1 d)
    generalize hz : vd_eq1 B (vd_at W H O (x : Int) ((y : Int) - 1)) 11 3 + vd_eq1 B (vd_at W H O ((x : Int) - 1) (y : Int)) 11 3 = z at *
    obtain ⟨f1, g1, r, p1, p2, p3, p4, p5, p6, p7⟩ := vd_ladder hM hN (z := 1116 + 3 * z) (w := 3) (by omega) (by decide) (by decide) (by omega) (show n + (3 : Int).toNat ≤ 8000000 by simp; omega) kg.1
    have k2 := kg.keepD hM p5 p6 p7
    have P11 : ∀ d Q, vd_wp d 74 0 [.ref 44, .int (vd_I 11), .int (vd_I r)] [] (vd_mf M f1) Q = _ := PT 11 (by decide) f1 (vd_I r) k2.2.2.2.2.2.1.1
    refine fin (n1 := n + 3) (f1 := vd_up f1 fa (18 * nb + 11) (vd_I r)) (g1 := vd_up g1 63 108 (vd_I r)) (kd := r) ((k2.put hM (by decide)).note (Or.inl ⟨rfl, by decide⟩)) (Nat.le_refl _) p3 p4 (vd_up_eq _ _ _ _) (vd_up_eq _ _ _ _) (fun q hq => by rw [vd_up_ne (by omega)]; exact p6.cur hM _) (fun i i1 i2 => by rw [vd_up_ne (by omega), p7.cur (by omega), vd_up_ne (by omega)]) (fun c' i c1 c2 => by rw [vd_up_ne (by omega), p7 c' i (by omega) (by omega) (by omega), vd_up_ne (by omega)]) (p6.toB.up (Or.inr (Or.inr (Or.inl rfl)))) ((((vd_gB.refl g).up (by omega)).trans p7.toB).up (by omega)) (fun d Q => ?_) (fun nn a2 => ?_)
    · simp (disch := omega) only [vd_S88_0 hM, vd_S88_8 hM, vd_S88_11 hM, vd_S88_14 hM, vd_S88_26 hM, vd_S88_29 hM, vd_S88_32 hM, vd_S88_35 hM, vd_S88_36 hM, vd_S88_40 hM, P3, c, a11, vd_rs_v, vd_rs_n, vd_I_toInt, eq_self, if_true, vd_I_mul, vd_I_add, p1, P11]
    · refine ⟨.int (vd_I z), .int (vd_I 2), .int (vd_I (vd_nu (vd_at W H O ((x : Int) - 1) (y : Int)) ((y : Int) * (W : Int) + ((x : Int) - 1)))), fun d Q => ?_⟩
      have t0 := T0 nn vd_U (d + 1) Q
      have t1 := fun a4 => T1 nn a4 (d + 1) Q
      have ez : 0 + vd_eq1 B (vd_at W H O (x : Int) ((y : Int) - 1)) 11 3 + vd_eq1 B (vd_at W H O ((x : Int) - 1) (y : Int)) 11 3 = z := by omega
      rw [ez] at t1
      simp (disch := omega) only [vd_S206_174 hN, vd_S206_181 hN, vd_S206_184 hN, vd_S206_187 hN, R3, c, vd_rs_v, vd_rs_n, vd_I_toInt, eq_self, if_true]
      refine Eq.trans t0 (Eq.trans (t1 _) ?_)
      rw [vd_S206_191 hN]
      simp (disch := omega) only [vd_S206_238 hN, vd_S206_248 hN, vd_S206_251 hN, vd_rs_v, vd_rs_n, vd_I_toInt, show ((1 : Nat) : Int) + 1 = 2 from rfl, Int.lt_irrefl, if_false, vd_I_mul, vd_I_add, p2]
  · have P11 : ∀ d Q, vd_wp d 74 0 [.ref 44, .int (vd_I 11), .int (vd_I 0)] [] (vd_mf M f) Q = _ := PT 11 (by decide) f (vd_I 0) here
    refine fin (n1 := n) (f1 := vd_up f fa (18 * nb + 11) (vd_I 0)) (g1 := vd_up g 63 108 (vd_I 0)) (kd := 0) (kg.put hM (by decide)) (by omega) (by decide) (by decide) (vd_up_eq _ _ _ _) (vd_up_eq _ _ _ _) (fun q hq => vd_up_ne (by omega)) (fun i i1 i2 => vd_up_ne (by omega)) (fun c' i c1 c2 => vd_up_ne (by omega)) ((vd_fB.refl fa f).up (Or.inr (Or.inr (Or.inl rfl)))) ((vd_gB.refl g).up (by omega)) (fun d Q => ?_) (fun nn a2 => ⟨a2, vd_U, vd_U, fun d Q => ?_⟩)
    · simp (disch := omega) only [vd_S88_0 hM, vd_S88_8 hM, vd_S88_11 hM, vd_S88_36 hM, vd_S88_40 hM, P3, c, vd_rs_v, vd_rs_n, vd_I_toInt, show ¬ ((1 : Int) = 0) by decide, if_false, P11]
    · simp (disch := omega) only [vd_S206_174 hN, vd_S206_181 hN, vd_S206_184 hN, R3, c, vd_rs_v, vd_rs_n, vd_I_toInt, show ¬ ((1 : Int) = 0) by decide, if_false]
end VDKI
