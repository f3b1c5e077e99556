/-! ===== one vector of a block ===== -/
def vd_VX (lo lf W H : Nat) (mo : Int) (L : Nat → Nat → Nat → Int) (pw ph : Int) (x y : Nat) (f g : Nat → Nat → Int32) : Prop := vd_LA lo lf W H mo L f ∧ vd_LB W H mo L g ∧ (f 37 0 = vd_I pw ∧ f 37 1 = vd_I ph) ∧ (g 63 24 = vd_I pw ∧ g 63 25 = vd_I ph) ∧ (g 63 95 = vd_I (8 * (x : Int)) ∧ g 63 96 = vd_I (8 * (y : Int)))
def vd_VV (W H : Nat) (mo : Int) (L : Nat → Nat → Nat → Int) (pw ph : Int) : Prop := vd_LV W H mo L ∧ (1 ≤ pw ∧ pw ≤ 192) ∧ (1 ≤ ph ∧ ph ≤ 192)
section VDV2
variable {M N : vd_M} {ow fa lo lf W H nb : Nat} {O : Nat → Nat → Option Nat} {B : Nat → Nat → Int} {X mp : Nat → Nat → Int} {x y w h n : Nat} {mo : Int} {L : Nat → Nat → Nat → Int} {pw ph : Int} {f f' g g' : Nat → Nat → Int32}
theorem vd_par4 (hM : vd_SC M ow fa lo lf) : ((38 ≤ ow ∧ ow ≤ 41) ∧ (38 ≤ fa ∧ fa ≤ 41)) ∧ ((38 ≤ lo ∧ lo ≤ 41) ∧ (38 ≤ lf ∧ lf ≤ 41)) ∧ (lo ≠ fa ∧ lf ≠ fa ∧ ow ≠ fa) := by
  have := hM.par
  omega
theorem vd_VX.keepB (hM : vd_SC M ow fa lo lf) (k : vd_VX lo lf W H mo L pw ph x y f g) (hf : vd_fB fa f f') (hg : vd_gB g g') : vd_VX lo lf W H mo L pw ph x y f' g' := by
  obtain ⟨k1, k2, ⟨k3, k4⟩, ⟨k5, k6⟩, k7, k8⟩ := k
  obtain ⟨⟨⟨p1, p2⟩, p3, p4⟩, ⟨⟨p5, p6⟩, p7, p8⟩, p9, p10, p11⟩ := vd_par4 hM
  have F : ∀ c i, c = 37 ∨ c = lo ∨ c = lf → f' c i = f c i := fun c i q => hf c i (by omega) (by omega) (by omega) (by omega) (by omega) (by omega) (by omega)
  have G : ∀ c i, (c = 63 ∧ (i = 24 ∨ i = 25 ∨ i = 39 ∨ i = 95 ∨ i = 96)) ∨ (76 ≤ c ∧ c ≤ 78) → g' c i = g c i := fun c i q => hg c i (by omega) (by omega) (by omega) (by omega) (by omega)
  refine ⟨k1.keep fun c i q => F c i (by omega), k2.keep fun c i q => G c i (by omega), ⟨?_, ?_⟩, ⟨?_, ?_⟩, ?_, ?_⟩
  · rw [F _ _ (by omega)]; exact k3
  · rw [F _ _ (by omega)]; exact k4
  · rw [G _ _ (by omega)]; exact k5
  · rw [G _ _ (by omega)]; exact k6
  · rw [G _ _ (by omega)]; exact k7
  · rw [G _ _ (by omega)]; exact k8
theorem vd_vput (hM : vd_SC M ow fa lo lf) (here : f 44 8 = vd_I (18 * (nb : Int))) (hn : nb < 576) {i : Nat} (hi : i < 2) (x1 x3 vx vy : Int32) (a6 a7 : Value) : ∀ d Q, vd_wp (d + 3) 89 182 [.ref 44, .int x1, .int (vd_I (i : Int)), .int x3, .int vx, .int vy, a6, a7] [] (vd_mf M f) Q = vd_wp (d + 3) 89 9 [.ref 44, .int x1, .int (vd_I ((i + 1 : Nat) : Int)), .int x3, .int vx, .int vy, a6, a7] [] (vd_mf M (vd_up (vd_up f fa (18 * nb + (12 + 2 * i)) vx) fa (18 * nb + (13 + 2 * i)) vy)) Q := by
  intro d Q
  have p : fa ≠ 44 := by
    have := vd_par4 hM
    omega
  have e1 : (12 : Int) + 2 * (i : Int) = ((12 + 2 * i : Nat) : Int) := by omega
  have e2 : ((12 + 2 * i : Nat) : Int) + 1 = ((13 + 2 * i : Nat) : Int) := by omega
  have e3 : (i : Int) + 1 = ((i + 1 : Nat) : Int) := by omega
  have P1 := fun d Q => vd_P74 (d := d) (Q := Q) (k := nb) (q := 12 + 2 * i) (x := vx) (f := f) hM here hn (by omega)
  have P2 := fun d Q => vd_P74 (d := d) (Q := Q) (k := nb) (q := 13 + 2 * i) (x := vy) (f := vd_up f fa (18 * nb + (12 + 2 * i)) vx) hM (by rw [vd_up_ne (by omega)]; exact here) hn (by omega)
  simp (disch := omega) only [vd_S89_182 hM, vd_S89_191 hM, vd_S89_194 hM, vd_S89_205 hM, vd_S89_208 hM, vd_I_add, vd_I_mul, e1, e2, e3, P1, P2, vd_rs_v, vd_rs_n]
def vd_VecPost (M N : vd_M) (ow fa W H nb : Nat) (O : Nat → Nat → Option Nat) (B : Nat → Nat → Int) (X mp : Nat → Nat → Int) (x y w h n i : Nat) (kd : Int) (f g : Nat → Nat → Int32) : Prop := ∃ (f' g' : Nat → Nat → Int32) (vx vy : Int), (∀ a3 a4 a5 a6 a7 : Value, ∃ b3 b4 b5 b6 b7 : Value, ∀ d Q, vd_wp (d + 3) 89 9 [.ref 44, .int (vd_I kd), .int (vd_I (i : Int)), a3, a4, a5, a6, a7] [] (vd_mf M f) Q = vd_wp (d + 3) 89 9 [.ref 44, .int (vd_I kd), .int (vd_I ((i + 1 : Nat) : Int)), b3, b4, b5, b6, b7] [] (vd_mf M f') Q) ∧ (∀ x1 a3 a4 d Q, vd_wp (d + 5) 206 300 [.ref 63, .int x1, .int (vd_I (i : Int)), a3, a4] [] (vd_mf N g) Q = vd_wp (d + 5) 206 300 [.ref 63, .int x1, .int (vd_I ((i + 1 : Nat) : Int)), a3, a4] [] (vd_mf N g') Q) ∧ ((-5500 ≤ vx ∧ vx ≤ 5500) ∧ (-5500 ≤ vy ∧ vy ≤ 5500)) ∧ vd_BK ow fa W H nb O B X mp x y w h (n + 41) f' g' ∧ (f' fa (18 * nb + (12 + 2 * i)) = vd_I vx ∧ f' fa (18 * nb + (13 + 2 * i)) = vd_I vy) ∧ (g' 118 i = vd_I vx ∧ g' 119 i = vd_I vy) ∧ (∀ q, q ≠ 12 + 2 * i → q ≠ 13 + 2 * i → f' fa (18 * nb + q) = f fa (18 * nb + q)) ∧ (∀ j, 103 ≤ j → j ≠ 116 → g' 63 j = g 63 j) ∧ (∀ c j, 117 ≤ c → c ≤ 119 → (c = 117 ∨ j ≠ i) → g' c j = g c j) ∧ vd_fB fa f f' ∧ vd_gB g g'
theorem vd_vec1 (hM : vd_SC M ow fa lo lf) (hN : vd_SR N) (h00 : X 0 0 = 0) (k : vd_BK ow fa W H nb O B X mp x y w h n f g) (hc : vd_BC W H nb X mp x y w h) (kx : vd_VX lo lf W H mo L pw ph x y f g) (kv : vd_VV W H mo L pw ph) (hn : n + 41 ≤ 8000000) {i : Nat} (hi : i < 2) {kd r : Int} (kd1 : 1 ≤ kd) (kd3 : kd ≤ 3) (hr : -1 ≤ r) (hr2 : r ≤ 2) (h108 : g 63 108 = vd_I kd) (hrf : f fa (18 * nb + (9 + i)) = vd_I r) (hrg : g 117 i = vd_I r) (z1 : f fa (18 * nb + (12 + 2 * i)) = vd_I 0) (z2 : f fa (18 * nb + (13 + 2 * i)) = vd_I 0) (z3 : g 118 i = vd_I 0) (z4 : g 119 i = vd_I 0) : vd_VecPost M N ow fa W H nb O B X mp x y w h n i kd f g := by
  obtain ⟨hX, hmp, hW, hnb, ⟨hx, hy⟩, hw8, hh8⟩ := hc
  have here := k.2.2.2.2.2.1.1
  have hp := vd_par4 hM
  have ci : (i : Int) < 2 := by omega
  have ei : (i : Int) + 1 = ((i + 1 : Nat) : Int) := by omega
  have e9 : (9 : Int) + (i : Int) = ((9 + i : Nat) : Int) := by omega
  have ck0 : ¬ (kd = 0) := by omega
  have ck1 : 0 < kd := by omega
  have P9 := fun d Q => vd_P83 (k := nb) (q := 9 + i) (f := f) (d := d) (Q := Q) hM here hnb (by omega)
  rw [hrf] at P9
  by_cases cr : r < 0
  · refine ⟨f, g, 0, 0, fun a3 a4 a5 a6 a7 => ⟨a3, a4, a5, a6, a7, fun d Q => ?_⟩, fun x1 a3 a4 d Q => ?_, by omega, k.keepR (k.1.mono (by omega)) (fun _ _ _ => rfl) (fun _ _ _ => rfl), ⟨z1, z2⟩, ⟨z3, z4⟩, fun _ _ _ => rfl, fun _ _ _ => rfl, fun _ _ _ _ _ => rfl, vd_fB.refl fa f, vd_gB.refl g⟩
    · conv => lhs; rw [vd_S89_9 hM]
      simp (disch := omega) only [vd_S89_14 hM, vd_S89_18 hM, vd_S89_23 hM, vd_S89_26 hM, vd_S89_208 hM, vd_I_add, vd_I_toInt, e9, ei, P9, ci, ck0, cr, if_true, if_false, vd_rs_v, vd_rs_n]
    · conv => lhs; rw [vd_S206_300 hN]
      simp (disch := omega) only [vd_S206_305 hN, vd_S206_310 hN, vd_S206_326 hN, Int.toNat_natCast, hrg, vd_I_add, vd_I_toInt, ei, ci, cr, if_true]
  · have hfi1 := hX.1.2.2.2.1
    have hS := hX.2.2.1
    obtain ⟨hL, ⟨w0, w1⟩, h0, h1⟩ := kv
    obtain ⟨x1, x2, ⟨x3, x4⟩, ⟨x5, x6⟩, x7, x8⟩ := kx
    obtain ⟨hA, hB⟩ := k.2.2.2.1
    have qa : vd_QA ow fa lo lf W H nb O B (X 1) mo L x y w h f := ⟨k.2.1, hA.2.2.2.2.1 h00, k.2.2.2.2.2.2.1, x1⟩
    have qb : vd_QB W H O B (X 1) mo L x y w h g := ⟨k.2.2.1, hB.2.2.2.1 h00, k.2.2.2.2.2.2.2.1, x2⟩
    have hBV : ∀ i j kk, O i j = some kk → vd_BV (B kk) := fun i j kk hO => k.2.1.2.2.2.2.2 kk (k.2.1.2.2.2.1 i j kk hO)
    obtain ⟨f1, E1, ⟨u1, u2, u3, u4⟩, F1⟩ := vd_C90 (r := r) (fi := X 0 3) hM qa hL hS hnb hx hy (by omega) (by omega) (by omega) hr2 (hA.2.1.2.2.2.1 h00) hfi1 x3 x4 w0 w1 h0 h1
    obtain ⟨g1, T1, ⟨v1, v2, v3, v4⟩, G1⟩ := vd_C212 (r := r) (fi := X 0 3) hN qb hBV hL hS hW.2.1 hW.2.2.2 hx hy (by omega) (by omega) (by omega) hr2 x7 x8 (hB.1.2.2.2.1 h00) hfi1 x5 x6 w0 w1 h0 h1
    have cb := vd_col_b (W := W) (H := H) (O := O) (B := B) (mo := mo) (L := L) (S := X 1) (r := r) (fi := X 0 3) w0 w1 h0 h1 (show x < 24 by omega) (show y < 24 by omega) (show w ≤ 8 by omega) (show h ≤ 8 by omega)
    generalize vd_col W H O B mo L (X 1) r (X 0 3) pw ph x y w h = cc at *
    have k1 : vd_BK ow fa W H nb O B X mp x y w h n f1 g1 := k.keepR (k.1.keep (fun c i q => F1 c i (by omega) (by omega)) (fun c i q => G1 c i (by omega) (by omega) (by omega))) (fun c i q => F1 c i (by omega) (by omega)) (fun c i q => G1 c i (by unfold vd_inB at q; omega) (by unfold vd_inB at q; omega) (by unfold vd_inB at q; omega))
    have here1 := k1.2.2.2.2.2.1.1
    have h108' : g1 63 108 = vd_I kd := by rw [G1 _ _ (by omega) (by omega) (by omega)]; exact h108
    have FA : ∀ q, f1 fa q = f fa q := fun q => F1 fa q (by omega) (by omega)
    have FB : vd_fB fa f f1 := fun c i q1 q2 q3 q4 q5 q6 q7 => F1 c i (by omega) q7
    have GB : vd_gB g g1 := fun c i q1 q2 q3 q4 q5 => G1 c i (by omega) (by omega) (by omega)
    have go1 : ∀ a3 a4 a5 a6 a7 d Q, vd_wp (d + 3) 89 9 [.ref 44, .int (vd_I kd), .int (vd_I (i : Int)), a3, a4, a5, a6, a7] [] (vd_mf M f) Q = vd_wp (d + 3) 89 48 [.ref 44, .int (vd_I kd), .int (vd_I (i : Int)), a3, a4, a5, a6, a7] [] (vd_mf M f1) Q := fun a3 a4 a5 a6 a7 d Q => by
      rw [vd_S89_9 hM]
      simp (disch := omega) only [vd_S89_14 hM, vd_S89_18 hM, vd_S89_23 hM, vd_S89_26 hM, vd_S89_29 hM, vd_S89_42 hM, vd_S89_45 hM, vd_I_add, vd_I_toInt, e9, P9, ci, ck0, cr, here, E1, if_true, if_false, vd_rs_v, vd_rs_n]
    have wrap : ∀ g', (∀ d Q, vd_wp (d + 4) 211 0 [.ref 63, .int (vd_I (i : Int)), vd_U, vd_U, vd_U, vd_U] [] (vd_mf N g) Q = Q (vd_mf N g') (.inl none)) → ∀ x1 a3 a4 d Q, vd_wp (d + 5) 206 300 [.ref 63, .int x1, .int (vd_I (i : Int)), a3, a4] [] (vd_mf N g) Q = vd_wp (d + 5) 206 300 [.ref 63, .int x1, .int (vd_I ((i + 1 : Nat) : Int)), a3, a4] [] (vd_mf N g') Q := fun g' t x1 a3 a4 d Q => by
      conv => lhs; rw [vd_S206_300 hN]
      simp (disch := omega) only [vd_S206_305 hN, vd_S206_310 hN, vd_S206_314 hN, vd_S206_321 hN, vd_S206_323 hN, vd_S206_326 hN, Int.toNat_natCast, hrg, h108, vd_I_add, vd_I_toInt, ei, ci, cr, ck1, t, if_true, if_false, vd_rs_v, vd_rs_n]
    have i0 : (0 : Int).toNat = 0 := rfl
    have i1 : (1 : Int).toNat = 1 := rfl
    have i2 : (2 : Int).toNat = 2 := rfl
    have i3 : (3 : Int).toNat = 3 := rfl
    have two : ∀ (vx vy : Int), ((-5500 ≤ vx ∧ vx ≤ 5500) ∧ (-5500 ≤ vy ∧ vy ≤ 5500)) → (∀ a3 a4 a5 a6 a7 : Value, ∃ b3 : Int32, ∀ d Q, vd_wp (d + 3) 89 48 [.ref 44, .int (vd_I kd), .int (vd_I (i : Int)), a3, a4, a5, a6, a7] [] (vd_mf M f1) Q = vd_wp (d + 3) 89 182 [.ref 44, .int (vd_I kd), .int (vd_I (i : Int)), .int b3, .int (vd_I vx), .int (vd_I vy), a6, a7] [] (vd_mf M f1) Q) → (∀ d Q, vd_wp (d + 4) 211 0 [.ref 63, .int (vd_I (i : Int)), vd_U, vd_U, vd_U, vd_U] [] (vd_mf N g) Q = Q (vd_mf N (vd_up (vd_up g1 118 i (vd_I vx)) 119 i (vd_I vy))) (.inl none)) → vd_VecPost M N ow fa W H nb O B X mp x y w h n i kd f g := by
      intro vx vy vb t1 t2
      have k2 := (((k1.put hM (q := 12 + 2 * i) (v := vd_I vx) (by omega)).put hM (q := 13 + 2 * i) (v := vd_I vy) (by omega)).note (c := 118) (i := i) (v := vd_I vx) (Or.inr (by omega))).note (c := 119) (i := i) (v := vd_I vy) (Or.inr (by omega))
      refine ⟨vd_up (vd_up f1 fa (18 * nb + (12 + 2 * i)) (vd_I vx)) fa (18 * nb + (13 + 2 * i)) (vd_I vy), vd_up (vd_up g1 118 i (vd_I vx)) 119 i (vd_I vy), vx, vy, fun a3 a4 a5 a6 a7 => ?_, wrap _ t2, vb, k2.keepR (k2.1.mono (by omega)) (fun _ _ _ => rfl) (fun _ _ _ => rfl), ⟨by rw [vd_up_ne (by omega), vd_up_eq], vd_up_eq _ _ _ _⟩, ⟨by rw [vd_up_ne (by omega), vd_up_eq], vd_up_eq _ _ _ _⟩, fun q q1 q2 => by rw [vd_up_ne (by omega), vd_up_ne (by omega), FA], fun j j1 j2 => by rw [vd_up_ne (by omega), vd_up_ne (by omega), G1 _ _ (by omega) (by omega) (by omega)], fun c j c1 c2 c3 => by rw [vd_up_ne (by omega), vd_up_ne (by omega), G1 _ _ (by omega) (by omega) (by omega)], (FB.up (Or.inr (Or.inr (Or.inl rfl)))).up (Or.inr (Or.inr (Or.inl rfl))), (GB.up (by omega)).up (by omega)⟩
      obtain ⟨b3, t3⟩ := t1 a3 a4 a5 a6 a7
      exact ⟨_, _, _, _, _, fun d Q => (go1 _ _ _ _ _ d Q).trans ((t3 d Q).trans (vd_vput hM here1 hnb hi (vd_I kd) b3 (vd_I vx) (vd_I vy) a6 a7 d Q))⟩
    have ckd : kd = 1 ∨ kd = 2 ∨ kd = 3 := by omega
    rcases ckd with c | c | c
    · refine two cc.1.1 cc.1.2 (by omega) (fun a3 a4 a5 a6 a7 => ⟨vd_I 0, fun d Q => ?_⟩) (fun d Q => ?_)
      · rw [c]
        simp (disch := omega) only [vd_S89_48 hM, vd_S89_57 hM, vd_S89_58 hM, vd_S89_67 hM, vd_S89_80 hM, vd_I_toInt, vd_I_add, show ¬ ((1 : Int) = 2) by decide, show ¬ ((1 : Int) = 3) by decide, show (0 + 1 : Int) = 1 from rfl, if_false, i0, i1, u1, u2]
      · rw [c] at h108'
        simp (disch := omega) only [vd_S211_0 hN, vd_S211_6 hN, vd_S211_7 hN, vd_S211_10 hN, vd_S211_22 hN, vd_S211_23 hN, vd_S211_34 hN, vd_S211_35 hN, vd_S211_46 hN, vd_S211_47 hN, vd_S211_56 hN, Int.toNat_natCast, hrg, T1, h108', v1, v2, vd_I_toInt, show ¬ ((1 : Int) = 2) by decide, show ¬ ((1 : Int) = 3) by decide, if_false, i0, vd_rs_v, vd_rs_n, vd_up_at, vd_ua_at, Nat.reduceEqDiff, Nat.reduceAdd, Nat.reduceMul, and_false, false_and, and_true, true_and, and_self, if_true, if_false, reduceIte, ne_eq, not_false_eq_true, not_true_eq_false, eq_self]
    · refine two cc.2.1 cc.2.2 (by omega) (fun a3 a4 a5 a6 a7 => ⟨vd_I 2, fun d Q => ?_⟩) (fun d Q => ?_)
      · rw [c]
        simp (disch := omega) only [vd_S89_48 hM, vd_S89_53 hM, vd_S89_58 hM, vd_S89_67 hM, vd_S89_80 hM, vd_I_toInt, vd_I_add, eq_self, show ¬ ((2 : Int) = 3) by decide, show (2 + 1 : Int) = 3 from rfl, if_true, if_false, i2, i3, u3, u4]
      · rw [c] at h108'
        simp (disch := omega) only [vd_S211_0 hN, vd_S211_6 hN, vd_S211_7 hN, vd_S211_10 hN, vd_S211_18 hN, vd_S211_23 hN, vd_S211_34 hN, vd_S211_35 hN, vd_S211_46 hN, vd_S211_47 hN, vd_S211_56 hN, Int.toNat_natCast, hrg, T1, h108', v3, v4, vd_I_toInt, show ¬ ((2 : Int) = 3) by decide, if_true, if_false, i1, vd_rs_v, vd_rs_n, vd_up_at, vd_ua_at, Nat.reduceEqDiff, Nat.reduceAdd, Nat.reduceMul, and_false, false_and, and_true, true_and, and_self, if_true, if_false, reduceIte, ne_eq, not_false_eq_true, not_true_eq_false, eq_self]
    · have k2 := (k1.note (c := 118) (i := i) (v := vd_I cc.1.1) (Or.inr (by omega))).note (c := 119) (i := i) (v := vd_I cc.1.2) (Or.inr (by omega))
      have fine := (hA.2.1.2.2.2.1 h00)
      have finf : f1 17 10 = vd_I (X 0 3) := by rw [F1 _ _ (by omega) (by omega)]; exact fine
      have fing : g1 63 34 = vd_I (X 0 3) := by rw [G1 _ _ (by omega) (by omega) (by omega)]; exact (hB.1.2.2.2.1 h00)
      have P96 := fun (f : Nat → Nat → Int32) (d : Nat) (Q : vd_M → (Option Value ⊕ Nat) → Prop) => vd_P96 (a := cc.1.1) (b := cc.1.2) (f := f) (d := d) (Q := Q) hM (by omega) (by omega) (by omega) (by omega)
      have P216 := fun (f : Nat → Nat → Int32) (d : Nat) (Q : vd_M → (Option Value ⊕ Nat) → Prop) => vd_P216 (a := cc.1.1) (b := cc.1.2) (g := f) (d := d) (Q := Q) hN (by omega) (by omega) (by omega) (by omega)
      have fin : ∃ fin : Int, (fin = 0 ∨ fin = 1) ∧ (∀ a3 a4 a5 a6 a7 d Q, vd_wp (d + 3) 89 48 [.ref 44, .int (vd_I kd), .int (vd_I (i : Int)), a3, a4, a5, a6, a7] [] (vd_mf M f1) Q = vd_wp (d + 3) 89 113 [.ref 44, .int (vd_I kd), .int (vd_I (i : Int)), .int (vd_I 0), .int (vd_I cc.1.1), .int (vd_I cc.1.2), a6, a7] [.int (vd_I fin)] (vd_mf M f1) Q) ∧ (∀ d Q, vd_wp (d + 4) 211 0 [.ref 63, .int (vd_I (i : Int)), vd_U, vd_U, vd_U, vd_U] [] (vd_mf N g) Q = vd_wp (d + 4) 211 88 [.ref 63, .int (vd_I (i : Int)), .int (vd_I 0), vd_U, vd_U, vd_U] [.int (vd_I fin)] (vd_mf N (vd_up (vd_up g1 118 i (vd_I cc.1.1)) 119 i (vd_I cc.1.2))) Q) := by
        rw [c] at h108' ⊢
        rcases hfi1 with z | z
        · rw [z] at finf fing
          refine ⟨0, Or.inl rfl, fun a3 a4 a5 a6 a7 d Q => ?_, fun d Q => ?_⟩
          · simp (disch := omega) only [vd_S89_48 hM, vd_S89_57 hM, vd_S89_58 hM, vd_S89_67 hM, vd_S89_80 hM, vd_S89_88 hM, vd_S89_112 hM, vd_I_toInt, vd_I_add, show ¬ ((3 : Int) = 2) by decide, show (0 + 1 : Int) = 1 from rfl, eq_self, if_true, if_false, i0, i1, u1, u2, finf]
          · simp (disch := omega) only [vd_S211_0 hN, vd_S211_6 hN, vd_S211_7 hN, vd_S211_10 hN, vd_S211_22 hN, vd_S211_23 hN, vd_S211_34 hN, vd_S211_35 hN, vd_S211_46 hN, vd_S211_47 hN, vd_S211_57 hN, vd_S211_87 hN, Int.toNat_natCast, hrg, T1, h108', fing, v1, v2, vd_I_toInt, show ¬ ((3 : Int) = 2) by decide, i0, vd_rs_v, vd_rs_n, vd_up_at, vd_ua_at, Nat.reduceEqDiff, Nat.reduceAdd, Nat.reduceMul, and_false, false_and, and_true, true_and, and_self, if_true, if_false, reduceIte, ne_eq, not_false_eq_true, not_true_eq_false, eq_self]
        · rw [z] at finf fing
          rcases vd_sml_b cc.1.1 cc.1.2 with s | s
          · rw [s] at P96 P216
            refine ⟨0, Or.inl rfl, fun a3 a4 a5 a6 a7 d Q => ?_, fun d Q => ?_⟩
            · simp (disch := omega) only [vd_S89_48 hM, vd_S89_57 hM, vd_S89_58 hM, vd_S89_67 hM, vd_S89_80 hM, vd_S89_88 hM, vd_S89_98 hM, vd_S89_102 hM, vd_S89_105 hM, vd_S89_112 hM, vd_I_toInt, vd_I_add, show ¬ ((3 : Int) = 2) by decide, show ¬ ((1 : Int) = 0) by decide, show (0 + 1 : Int) = 1 from rfl, eq_self, if_true, if_false, i0, i1, u1, u2, finf, P96, vd_rs_v, vd_rs_n]
            · simp (disch := omega) only [vd_S211_0 hN, vd_S211_6 hN, vd_S211_7 hN, vd_S211_10 hN, vd_S211_22 hN, vd_S211_23 hN, vd_S211_34 hN, vd_S211_35 hN, vd_S211_46 hN, vd_S211_47 hN, vd_S211_57 hN, vd_S211_64 hN, vd_S211_70 hN, vd_S211_76 hN, vd_S211_77 hN, vd_S211_80 hN, vd_S211_87 hN, Int.toNat_natCast, hrg, T1, h108', fing, v1, v2, P216, vd_I_toInt, show ¬ ((3 : Int) = 2) by decide, show ¬ ((1 : Int) = 0) by decide, i0, vd_rs_v, vd_rs_n, vd_up_at, vd_ua_at, Nat.reduceEqDiff, Nat.reduceAdd, Nat.reduceMul, and_false, false_and, and_true, true_and, and_self, if_true, if_false, reduceIte, ne_eq, not_false_eq_true, not_true_eq_false, eq_self]
          · rw [s] at P96 P216
            refine ⟨1, Or.inr rfl, fun a3 a4 a5 a6 a7 d Q => ?_, fun d Q => ?_⟩
            · simp (disch := omega) only [vd_S89_48 hM, vd_S89_57 hM, vd_S89_58 hM, vd_S89_67 hM, vd_S89_80 hM, vd_S89_88 hM, vd_S89_98 hM, vd_S89_102 hM, vd_S89_105 hM, vd_S89_108 hM, vd_I_toInt, vd_I_add, show ¬ ((3 : Int) = 2) by decide, show ¬ ((1 : Int) = 0) by decide, show (0 + 1 : Int) = 1 from rfl, eq_self, if_true, if_false, i0, i1, u1, u2, finf, P96, vd_rs_v, vd_rs_n]
            · simp (disch := omega) only [vd_S211_0 hN, vd_S211_6 hN, vd_S211_7 hN, vd_S211_10 hN, vd_S211_22 hN, vd_S211_23 hN, vd_S211_34 hN, vd_S211_35 hN, vd_S211_46 hN, vd_S211_47 hN, vd_S211_57 hN, vd_S211_64 hN, vd_S211_70 hN, vd_S211_76 hN, vd_S211_77 hN, vd_S211_80 hN, vd_S211_83 hN, Int.toNat_natCast, hrg, T1, h108', fing, v1, v2, P216, vd_I_toInt, show ¬ ((3 : Int) = 2) by decide, show ¬ ((1 : Int) = 0) by decide, i0, vd_rs_v, vd_rs_n, vd_up_at, vd_ua_at, Nat.reduceEqDiff, Nat.reduceAdd, Nat.reduceMul, and_false, false_and, and_true, true_and, and_self, if_true, if_false, reduceIte, ne_eq, not_false_eq_true, not_true_eq_false, eq_self]
      obtain ⟨fin, hfin, t1, t2⟩ := fin
      obtain ⟨f2, g2, nx, ny, j, s1, s2, s3, s4, ⟨s5, s6⟩, s7, s8⟩ := vd_vecNew hM hN (n := n) (k := i) (vx := cc.1.1) (vy := cc.1.2) (fin := fin) hi hfin hn k2.1 cb.1.1 cb.1.2 (by rw [vd_up_ne (by omega), vd_up_eq]) (vd_up_eq _ _ _ _)
      have k3 : vd_BK ow fa W H nb O B X mp x y w h (n + 41) f2 g2 := k2.keepR s4 (fun c i q => s7 c i (by omega) (by omega)) (fun c i q => s8 c i (by unfold vd_inB at q; omega) (by unfold vd_inB at q; omega) (by unfold vd_inB at q; omega) (by unfold vd_inB at q; omega))
      have here3 := k3.2.2.2.2.2.1.1
      refine ⟨vd_up (vd_up f2 fa (18 * nb + (12 + 2 * i)) (vd_I nx)) fa (18 * nb + (13 + 2 * i)) (vd_I ny), g2, nx, ny, fun a3 a4 a5 a6 a7 => ⟨_, _, _, _, _, fun d Q => (go1 _ _ _ _ _ d Q).trans ((t1 a3 a4 a5 a6 a7 d Q).trans ((s1 _ _ _ _ _ d Q).trans (vd_vput hM here3 hnb hi (vd_I kd) (vd_I 0) (vd_I nx) (vd_I ny) (.int (vd_I fin)) (.int (vd_I j)) d Q)))⟩, wrap g2 (fun d Q => (t2 d Q).trans (s2 _ _ _ _ d Q)), s3, (k3.put hM (by omega)).put hM (by omega), ⟨by rw [vd_up_ne (by omega), vd_up_eq], vd_up_eq _ _ _ _⟩, ⟨s5, s6⟩, fun q q1 q2 => by rw [vd_up_ne (by omega), vd_up_ne (by omega), s7 fa _ (by omega) (by omega), FA], fun jj j1 j2 => by rw [s8 _ _ (by omega) (by omega) (by omega) (by omega), vd_up_ne (by omega), vd_up_ne (by omega), G1 _ _ (by omega) (by omega) (by omega)], fun c j c1 c2 c3 => by rw [s8 _ _ (by omega) (by omega) (by omega) (by omega), vd_up_ne (by omega), vd_up_ne (by omega), G1 _ _ (by omega) (by omega) (by omega)], ((FB.trans s7.toB).up (Or.inr (Or.inr (Or.inl rfl)))).up (Or.inr (Or.inr (Or.inl rfl))), GB.trans (fun c i q1 q2 q3 q4 q5 => by rw [s8 c i (by omega) q3 q4 (by omega), vd_up_ne (by omega), vd_up_ne (by omega)])⟩
end VDV2
