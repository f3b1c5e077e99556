/-! ===== a square's numbers are turned and added, both ===== -/
/-- the class's tables of waves -/
def vd_stW (f : Nat → Nat → Int32) : Prop := (∀ j, j < 16 → f 1 j = vd_I (vd_sL.getD j 0)) ∧ (∀ k p, k < 32 → p < 32 → f 47 (32 * k + p) = vd_I (vd_Tc 32 k p))
theorem vd_Tc_n {s k p : Nat} (hs : s < 4) : vd_Tc 32 (k * (32 / vd_sn s)) p = vd_Tc (vd_sn s) k p := by
  have h8 : 0 < 32 / vd_sn s := by rcases vd_nn_v hs with ⟨_, e⟩ | ⟨_, e⟩ | ⟨_, e⟩ | ⟨_, e⟩ <;> rw [e] <;> decide
  unfold vd_Tc
  by_cases c : k = 0
  · rw [if_pos c, if_pos (by rw [c, Nat.zero_mul])]
  · rw [if_neg c, if_neg (fun q => by
      rcases Nat.mul_eq_zero.mp q with a | a
      · exact c a
      · omega)]
    rw [Nat.div_self (by decide), Nat.mul_one, Nat.mul_assoc (2 * p + 1) k]
section VDAS
variable {M N : vd_M} {ow fa lo lf : Nat} {p s q pl sz o x y : Nat} {pw ph : Int} {P K : Nat → Nat → Nat → Int} {f g : Nat → Nat → Int32} {C : Nat → Int} {lr lc ls : Int}
def vd_fA (s : Nat) (f f' : Nat → Nat → Int32) : Prop := ∀ c i, c ≠ 49 → c ≠ 50 → c ≠ s → f' c i = f c i
def vd_gA (q : Nat) (g g' : Nat → Nat → Int32) : Prop := ∀ c i, c ≠ 123 → c ≠ 125 → ¬ (c = 63 ∧ i = 123) → ¬ (q + 2 ≤ c ∧ c ≤ q + 4) → g' c i = g c i
/-- the numbers turned: the same on both sides -/
theorem vd_turn (hM : vd_SC M ow fa lo lf) (hN : vd_SR N) (hpl : pl < 3) (hs : sz < 4) (ho : o < 2) (f10 : f 45 10 = vd_I ls) (f11 : f 45 11 = vd_I (pl : Int)) (f14 : f 45 14 = vd_I (sz : Int)) (f15 : f 45 15 = vd_I lr) (f16 : f 45 16 = vd_I lc) (hL : vd_NL (vd_sn sz) C lr lc) (hC : ∀ p, p < vd_sn sz * vd_sn sz → f 49 p = vd_I (C p) ∧ g 123 p = vd_I (C p)) (g35 : g 63 35 = vd_I ls) (g111 : g 63 111 = vd_I (o : Int)) (hl : (ls = 1 ∧ sz = 0) ∨ ls = 0) (hW : vd_stW f) (hR : vd_stR g) : ∃ (f' g' : Nat → Nat → Int32), (∀ d Q, vd_wp (d + 2) 131 0 [.ref 45, .ref p, .int (vd_I (o : Int)), vd_U, vd_U, vd_U, vd_U, vd_U] [] (vd_mf M f) Q = vd_wp (d + 2) 131 61 [.ref 45, .ref p, .int (vd_I (o : Int)), vd_U, vd_U, vd_U, vd_U, vd_U] [] (vd_mf M f') Q) ∧ (∀ x2 x3 d Q, vd_wp (d + 3) 258 0 [.ref 63, .int (vd_I (pl : Int)), .int x2, .int x3, .int (vd_I ((vd_sn sz : Nat) : Int)), vd_U, vd_U] [] (vd_mf N g) Q = vd_wp (d + 3) 258 24 [.ref 63, .int (vd_I (pl : Int)), .int x2, .int x3, .int (vd_I ((vd_sn sz : Nat) : Int)), .int (vd_I 0), vd_U] [] (vd_mf N g') Q) ∧ (∀ p, p < vd_sn sz * vd_sn sz → f' 49 p = g' 123 p) ∧ (∀ c i, c ≠ 49 → c ≠ 50 → f' c i = f c i) ∧ (∀ c i, c ≠ 123 → c ≠ 125 → ¬ (c = 63 ∧ i = 123) → g' c i = g c i) := by
  have nb := vd_nnb hs
  have n4 : vd_nn4 (vd_sn sz) := by rcases vd_nn_v hs with ⟨_, e⟩ | ⟨_, e⟩ | ⟨_, e⟩ | ⟨_, e⟩ <;> rw [e] <;> unfold vd_nn4 <;> omega
  rcases hl with ⟨c, cz⟩ | c
  · -- exact
    subst c
    have e16 : vd_sn sz * vd_sn sz = 16 := by rw [cz]; rfl
    refine ⟨vd_pq f 49, vd_pq g 123, fun d Q => ?_, fun x2 x3 d Q => ?_, fun p hp => ?_, fun c i a _ => vd_pq_ne a, fun c i a _ _ => vd_pq_ne a⟩
    · simp (disch := omega) only [vd_S131_0 hM, vd_S131_7 hM, vd_S131_8 hM, vd_S131_11 hM, f10, vd_P132 hM, vd_I_toInt, show ¬ ((1 : Int) = 0) by decide, if_false, vd_rs_v, vd_rs_n]
    · simp (disch := omega) only [vd_S258_0 hN, vd_S258_7 hN, vd_S258_8 hN, vd_S258_11 hN, vd_S258_21 hN, g35, vd_P259 hN, vd_I_toInt, show ¬ ((1 : Int) = 0) by decide, if_false, vd_rs_v, vd_rs_n]
    · exact vd_pq_al (fun p hp => by
        have := hC p (by omega)
        rw [this.1, this.2]) p (by omega)
  · subst c
    obtain ⟨g1, t1, t2, t3⟩ := vd_P261 (C := C) hN hR n4 hpl ho g111 hL.1 (fun p hp => (hC p hp).2)
    -- the class's table
    obtain ⟨f1, p1, p2, p3⟩ : ∃ (f1 : Nat → Nat → Int32), (∀ d Q, vd_wp (d + 2) 131 0 [.ref 45, .ref p, .int (vd_I (o : Int)), vd_U, vd_U, vd_U, vd_U, vd_U] [] (vd_mf M f) Q = vd_wp (d + 2) 131 61 [.ref 45, .ref p, .int (vd_I (o : Int)), vd_U, vd_U, vd_U, vd_U, vd_U] [] (vd_mf M f1) Q) ∧ (∀ r c, r < vd_sn sz → c < vd_sn sz → f1 49 (r * vd_sn sz + c) = vd_I (vd_ou (vd_Tt (if pl = 0 ∧ o = 0 ∧ vd_sn sz = 4 then 1 else 0) (vd_sn sz)) C (vd_sn sz) r c)) ∧ (∀ k q, k ≠ 49 → k ≠ 50 → f1 k q = f k q) := by
      by_cases cs : pl = 0 ∧ o = 0 ∧ vd_sn sz = 4
      · obtain ⟨c1, c2, c3⟩ := cs
        have sz0 : sz = 0 := by rcases vd_nn_v hs with ⟨e, _⟩ | ⟨_, e⟩ | ⟨_, e⟩ | ⟨_, e⟩ <;> omega
        have eT : vd_Tt (if pl = 0 ∧ o = 0 ∧ vd_sn sz = 4 then 1 else 0) (vd_sn sz) = vd_Ts := by
          rw [if_pos ⟨c1, c2, c3⟩]
          unfold vd_Tt
          rw [if_pos rfl]
        rw [eT]
        obtain ⟨f1, p1, p2, p3⟩ := vd_P134 (o1 := 1) (ac := 4) (st := 1) (T := vd_Ts) (C := C) hM hs f14 hL ⟨⟨hM.k1, by rw [hM.l1]; decide⟩, fun k p a b => ⟨by rw [hM.l1]; omega, by rw [show k * 1 * 4 + p = 4 * k + p by omega, hW.1 _ (by omega)]; rfl⟩, vd_Ts_b, by decide, by decide⟩ f15 f16 (fun p hp => (hC p hp).1)
        have z4 : ((4 : Nat) : Int) = 4 := rfl
        have z1 : ((1 : Nat) : Int) = 1 := rfl
        rw [z4, z1] at p1
        refine ⟨f1, fun d Q => ?_, p2, p3⟩
        have c1' : ((pl : Nat) : Int) = 0 := by omega
        have c2' : ((o : Nat) : Int) = 0 := by omega
        have c3' : ((sz : Nat) : Int) = 0 := by omega
        have d2 : (vd_I ((o : Nat) : Int)).toInt = 0 := by rw [vd_I_toInt (by omega) (by omega)]; exact c2'
        simp (disch := omega) only [vd_S131_0 hM, vd_S131_14 hM, vd_S131_21 hM, vd_S131_25 hM, vd_S131_32 hM, vd_S131_38 hM, vd_S131_41 hM, f10, f11, f14, d2, vd_I_toInt, c1', c3', eq_self, if_true, p1, vd_rs_v, vd_rs_n]
      · have eT : vd_Tt (if pl = 0 ∧ o = 0 ∧ vd_sn sz = 4 then 1 else 0) (vd_sn sz) = vd_Tc (vd_sn sz) := by
          rw [if_neg cs]
          unfold vd_Tt
          rw [if_neg (by decide)]
        rw [eT]
        have st : vd_I 8 >>> (vd_I ((sz : Nat) : Int) &&& 31) = vd_I ((32 / vd_sn sz : Nat) : Int) := by
          have : sz = 0 ∨ sz = 1 ∨ sz = 2 ∨ sz = 3 := by omega
          rcases this with rfl | rfl | rfl | rfl <;> decide
        have ix : ∀ k p, k < vd_sn sz → p < vd_sn sz → k * (32 / vd_sn sz) * 32 + p < 1024 ∧ k * (32 / vd_sn sz) < 32 := by
          intro k p hk hp
          rcases vd_nn_v hs with ⟨_, e⟩ | ⟨_, e⟩ | ⟨_, e⟩ | ⟨_, e⟩ <;> rw [e] at hk hp ⊢ <;> omega
        obtain ⟨f1, p1, p2, p3⟩ := vd_P134 (o1 := 47) (ac := 32) (st := 32 / vd_sn sz) (T := vd_Tc (vd_sn sz)) (C := C) hM hs f14 hL ⟨⟨hM.k47, by rw [hM.l47]; decide⟩, fun k p a b => ⟨by rw [hM.l47]; exact (ix k p a b).1, by rw [Nat.mul_comm (k * (32 / vd_sn sz)) 32, hW.2 _ _ (ix k p a b).2 (by omega), vd_Tc_n hs]⟩, vd_Tc_b _, by decide, by decide⟩ f15 f16 (fun p hp => (hC p hp).1)
        have z4 : ((32 : Nat) : Int) = 32 := rfl
        rw [z4] at p1
        refine ⟨f1, fun d Q => ?_, p2, p3⟩
        have b44 : ∀ d Q, vd_wp (d + 2) 131 44 [.ref 45, .ref p, .int (vd_I (o : Int)), vd_U, vd_U, vd_U, vd_U, vd_U] [] (vd_mf M f) Q = vd_wp (d + 2) 131 61 [.ref 45, .ref p, .int (vd_I (o : Int)), vd_U, vd_U, vd_U, vd_U, vd_U] [] (vd_mf M f1) Q := fun d Q => by
          simp (disch := omega) only [vd_S131_44 hM, vd_S131_58 hM, f14, st, p1, vd_rs_v, vd_rs_n]
        rw [← b44]
        by_cases c1 : pl = 0
        · have c1' : ((pl : Nat) : Int) = 0 := by omega
          by_cases c2 : o = 0
          · have d2 : (vd_I ((o : Nat) : Int)).toInt = 0 := by rw [vd_I_toInt (by omega) (by omega)]; omega
            have c3 : ¬ (((sz : Nat) : Int) = 0) := fun e => cs ⟨c1, c2, by rw [show sz = 0 by omega]; rfl⟩
            simp (disch := omega) only [vd_S131_0 hM, vd_S131_14 hM, vd_S131_21 hM, vd_S131_25 hM, f10, f11, f14, d2, vd_I_toInt, c1', c3, eq_self, if_true, if_false]
          · have d2 : ¬ ((vd_I ((o : Nat) : Int)).toInt = 0) := by rw [vd_I_toInt (by omega) (by omega)]; omega
            have d3 : ¬ (((o : Nat) : Int) = 0) := by omega
            simp (disch := omega) only [vd_S131_0 hM, vd_S131_14 hM, vd_S131_21 hM, f10, f11, d2, d3, vd_I_toInt, c1', eq_self, if_true, if_false]
        · have c1' : ¬ (((pl : Nat) : Int) = 0) := by omega
          simp (disch := omega) only [vd_S131_0 hM, vd_S131_14 hM, f10, f11, vd_I_toInt, c1', eq_self, if_true, if_false]
    refine ⟨f1, g1, p1, fun x2 x3 d Q => ?_, fun k hk => ?_, p3, t3⟩
    · simp (disch := omega) only [vd_S258_0 hN, vd_S258_14 hN, vd_S258_18 hN, vd_S258_21 hN, g35, t1, vd_I_toInt, eq_self, if_true, vd_rs_v, vd_rs_n]
    · have n0 : 0 < vd_sn sz := by omega
      have e : k = k / vd_sn sz * vd_sn sz + k % vd_sn sz := by
        rw [Nat.mul_comm]
        exact (Nat.div_add_mod k (vd_sn sz)).symm
      have a1 : k / vd_sn sz < vd_sn sz := Nat.div_lt_of_lt_mul hk
      have a2 : k % vd_sn sz < vd_sn sz := Nat.mod_lt _ n0
      rw [e, p2 _ _ a1 a2, t2 _ _ a1 a2]
def vd_AddPost (M N : vd_M) (p s q pl sz o x y : Nat) (pw ph : Int) (K : Nat → Nat → Nat → Int) (f g : Nat → Nat → Int32) : Prop := ∃ (f' g' : Nat → Nat → Int32) (P' : Nat → Nat → Nat → Int), (∀ d Q, vd_wp (d + 2) 131 0 [.ref 45, .ref p, .int (vd_I (o : Int)), vd_U, vd_U, vd_U, vd_U, vd_U] [] (vd_mf M f) Q = Q (vd_mf M f') (.inl none)) ∧ (∀ d Q, vd_wp (d + 3) 258 0 [.ref 63, .int (vd_I (pl : Int)), .int (vd_I (x : Int)), .int (vd_I (y : Int)), .int (vd_I ((vd_sn sz : Nat) : Int)), vd_U, vd_U] [] (vd_mf N g) Q = Q (vd_mf N g') (.inl none)) ∧ vd_PK s q pw ph P' K f' g' ∧ (∀ pl x y, 0 ≤ P' pl x y ∧ P' pl x y ≤ 255) ∧ vd_fA s f f' ∧ vd_gA q g g'
theorem vd_addSq (hM : vd_SC M ow fa lo lf) (hN : vd_SR N) (hp : vd_PC M p s) (hq : vd_PD N q) (hnow : vd_r N 63 23 = some q) (k : vd_PK s q pw ph P K f g) (hPb : ∀ pl x y, 0 ≤ P pl x y ∧ P pl x y ≤ 255) (hq0 : g q 0 = vd_I pw) (p0 : 1 ≤ pw ∧ pw ≤ 192) (q0 : 1 ≤ ph ∧ ph ≤ 192) (hpl : pl < 3) (hs : sz < 4) (ho : o < 2) (f10 : f 45 10 = vd_I ls) (f11 : f 45 11 = vd_I (pl : Int)) (f12 : f 45 12 = vd_I (x : Int)) (f13 : f 45 13 = vd_I (y : Int)) (f14 : f 45 14 = vd_I (sz : Int)) (f15 : f 45 15 = vd_I lr) (f16 : f 45 16 = vd_I lc) (hL : vd_NL (vd_sn sz) C lr lc) (hC : ∀ p, p < vd_sn sz * vd_sn sz → f 49 p = vd_I (C p) ∧ g 123 p = vd_I (C p)) (g35 : g 63 35 = vd_I ls) (g111 : g 63 111 = vd_I (o : Int)) (hl : (ls = 1 ∧ sz = 0) ∨ ls = 0) (hW : vd_stW f) (hR : vd_stR g) (hx : x + vd_sn sz ≤ vd_ws pl pw) (hy : y + vd_sn sz ≤ vd_ws pl ph) : vd_AddPost M N p s q pl sz o x y pw ph K f g := by
  have nb := vd_nnb hs
  have hp' := hp.2.2
  have hq' := hq.2.2.2
  have sdx := (vd_ws_b (pl := pl) p0.1 p0.2).1
  have sdy := (vd_ws_b (pl := pl) q0.1 q0.2).1
  obtain ⟨f1, g1, p1, t1, al, F1, G1⟩ := vd_turn (p := p) hM hN hpl hs ho f10 f11 f14 f15 f16 hL hC g35 g111 hl hW hR
  have k1 : vd_PK s q pw ph P K f1 g1 := k.keep (fun c i a => F1 c i (by omega) (by omega)) (fun c i a => G1 c i (by omega) (by omega) (by omega))
  obtain ⟨f2, p2, p3, p4⟩ := vd_L131r (n := vd_sn sz) (x := x) (y := y) (P := P pl) (D := fun k => f1 49 k) hM hp ⟨by omega, nb.2.1⟩ hpl (by omega) (by omega) (vd_I (o : Int)) (vd_sn sz) 0 f1 vd_U vd_U vd_U (by omega) (fun c r' hc _ hr => k1.1.1 pl (x + c) (y + r') hpl (by omega) (by omega)) (fun _ _ => rfl) ⟨by rw [F1 _ _ (by decide) (by decide)]; exact f11, by rw [F1 _ _ (by decide) (by decide)]; exact f12, by rw [F1 _ _ (by decide) (by decide)]; exact f13⟩
  obtain ⟨g2, t2, t3, t4⟩ := vd_L258j (n := vd_sn sz) (x := x) (y := y) (P := P pl) (D := fun k => f1 49 k) hN hq hnow ⟨by omega, nb.2.1⟩ hpl p0 hx (by omega) (vd_sn sz) 0 g1 vd_U (by omega) (by rw [G1 _ _ (by omega) (by omega) (by omega)]; exact hq0) (fun i' j' hi _ hj => k1.1.2 pl (x + i') (y + j') hpl (by omega) (by omega)) (fun k hk => (al k hk).symm)
  have z0 : ((0 : Nat) : Int) = 0 := rfl
  rw [z0] at p2 t2
  have sh := vd_sh4 hs
  have V : ∀ X Y : Nat, Int := fun X Y => vd_cl (vd_I (P pl X Y) + f1 49 ((Y - y) * vd_sn sz + (X - x)))
  refine ⟨f2, g2, vd_rect P pl x y (vd_sn sz) (vd_sn sz) (fun X Y => vd_cl (vd_I (P pl X Y) + f1 49 ((Y - y) * vd_sn sz + (X - x)))), fun d Q => ?_, fun d Q => ?_, ⟨⟨?_, ?_⟩, ?_, ?_, ?_⟩, fun c a b => ?_, fun c i a1 a2 a3 => ?_, fun c i a1 a2 a3 a4 => ?_⟩
  · have f14' : f1 45 14 = vd_I (sz : Int) := by rw [F1 _ _ (by decide) (by decide)]; exact f14
    rw [p1, vd_S131_61 hM, f14', sh]
    exact p2 (d + 1) Q
  · rw [t1]
    exact t2 (d + 1) Q
  · refine k1.1.1.rect p0 q0 hpl (by omega) (by omega) (fun i j hi hj => ?_) (fun i hi => p4 s i (fun _ c r' hc _ hr => hi c r' hc hr))
    rw [p3 i j hi (Nat.zero_le _) hj, show y + j - y = j by omega, show x + i - x = i by omega]
  · refine k1.1.2.rect hpl hx (fun i j hi hj => ?_) (fun c i a1 a2 a3 => t4 c i (fun e i' j' hi _ hj => a3 e i' j' hi hj))
    rw [t3 i j hi (Nat.zero_le _) hj, show y + j - y = j by omega, show x + i - x = i by omega]
  · exact k1.2.1.keep fun i => p4 43 i (fun e => by omega)
  · exact k1.2.2.1.keep fun c i a1 a2 => t4 c i (fun e => by omega)
  · exact k1.2.2.2.keep fun c i a1 a2 => t4 c i (fun e => by omega)
  · unfold vd_rect
    split
    · exact vd_cl_b _
    · exact hPb c a b
  · rw [p4 c i (fun e => absurd e a3), F1 c i a1 a2]
  · rw [t4 c i (fun e => by omega), G1 c i a1 a2 a3]
end VDAS
