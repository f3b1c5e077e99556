/-! ===== numbers of a square: all of them ===== -/
def vd_fu (A : Nat → Int) (k : Nat) (v : Int) : Nat → Int := fun p => if p = k then v else A p
theorem vd_fu_eq (A : Nat → Int) (k : Nat) (v : Int) : vd_fu A k v k = v := if_pos rfl
theorem vd_fu_ne {A : Nat → Int} {k p : Nat} {v : Int} (h : p ≠ k) : vd_fu A k v p = A p := if_neg h
/-- how the rows of amounts and numbers stand behind i numbers -/
def vd_NS (s i : Nat) (sc : Nat → Nat) (A C : Nat → Int) (lr lc : Int) (f g : Nat → Nat → Int32) : Prop := (∀ j, j < i → f 48 (sc j) = vd_I (A (sc j))) ∧ (0 < i → (∀ p, p < vd_sn s * vd_sn s → f 49 p = vd_I (C p)) ∧ f 45 15 = vd_I lr ∧ f 45 16 = vd_I lc) ∧ (∀ p, p < vd_sn s * vd_sn s → g 124 p = vd_I (A p) ∧ g 123 p = vd_I (C p)) ∧ f 45 3 = g 63 47
/-- the last row and the last column with a number -/
def vd_NL (n : Nat) (C : Nat → Int) (lr lc : Int) : Prop := (∀ p, -32768 ≤ C p ∧ C p ≤ 32767) ∧ ((0 ≤ lr ∧ lr < (n : Int)) ∧ (0 ≤ lc ∧ lc < (n : Int))) ∧ (∀ p, p < n * n → C p ≠ 0 → ((p / n : Nat) : Int) ≤ lr ∧ ((p % n : Nat) : Int) ≤ lc)
def vd_NV (n i : Nat) (sc : Nat → Nat) (A C : Nat → Int) (lr lc : Int) : Prop := (∀ p, 0 ≤ A p ∧ A p ≤ 40000) ∧ vd_NL n C lr lc ∧ (∀ p, p < n * n → (∀ j, j < i → sc j ≠ p) → A p = 0 ∧ C p = 0) ∧ (i = 0 → lr = 0 ∧ lc = 0)
section VDRL
variable {M N : vd_M} {ow fa lo lf W H : Nat} {O : Nat → Nat → Option Nat} {B : Nat → Nat → Int} {K : Nat → Nat → Nat → Int} {X : Nat → Nat → Int} {pl s sg o off os x y : Nat} {sc : Nat → Nat}
def vd_lcC (x1 : Int32) (pl s o off : Nat) (bz : Int) (i : Nat) (l : List Value) : List Value := .ref 45 :: .int x1 :: .int (vd_I ((vd_tt pl : Nat) : Int)) :: .int (vd_I (1185 + 108 * ((o : Int) + 2 * (((vd_tt pl : Nat) : Int) + 2 * (s : Int))))) :: .int (vd_I (off : Int)) :: .int (vd_I ((vd_sn s * vd_sn s : Nat) : Int)) :: .int (vd_I bz) :: .int (vd_I (i : Int)) :: l
def vd_lcR (x6 : Int32) (pl s x y os : Nat) (bz : Int) (i : Nat) (l : List Value) : List Value := .ref 63 :: .int (vd_I (pl : Int)) :: .int (vd_I (x : Int)) :: .int (vd_I (y : Int)) :: .int (vd_I (s : Int)) :: .int (vd_I ((vd_sn s : Nat) : Int)) :: .int x6 :: .ref os :: .int (vd_I ((vd_tt pl : Nat) : Int)) :: .int (vd_I bz) :: .int (vd_I (i : Int)) :: l
def vd_RlPost (M N : vd_M) (x1 x6 : Int32) (pl s o off os x y n0 m i : Nat) (bz : Int) (f g : Nat → Nat → Int32) : Prop := ∃ (f' g' : Nat → Nat → Int32) (r : Int) (C : Nat → Int) (lr lc : Int), (∀ a8 a9 a10 a11 a12 d Q, vd_wp (d + 3) 115 72 (vd_lcC x1 pl s o off bz i [a8, a9, a10, a11, a12]) [] (vd_mf M f) Q = Q (vd_mf M f') (.inl (some (.int (vd_I r))))) ∧ (∀ a11 a12 a13 a14 d Q, vd_wp (d + 4) 239 147 (vd_lcR x6 pl s x y os bz i [a11, a12, a13, a14]) [] (vd_mf N g) Q = Q (vd_mf N g') (.inl (some (.int (vd_I r))))) ∧ (r = 0 ∨ r = 1) ∧ vd_RD (n0 + 32 * m) f' g' ∧ (r = 1 → (∀ p, p < vd_sn s * vd_sn s → f' 49 p = vd_I (C p) ∧ g' 123 p = vd_I (C p)) ∧ (f' 45 15 = vd_I lr ∧ f' 45 16 = vd_I lc) ∧ vd_NL (vd_sn s) C lr lc) ∧ f' 45 3 = g' 63 47 ∧ vd_fN f f' ∧ vd_gN g g'
theorem vd_rdL (hM : vd_SC M ow fa lo lf) (hN : vd_SR N) (hc : vd_NCt N W H O K X pl s sg o off os x y sc) (x1 x6 : Int32) : ∀ (m i n0 : Nat) (f g : Nat → Nat → Int32) (A C : Nat → Int) (lr lc bz : Int), i + m = vd_sn s * vd_sn s → n0 + 32 * m ≤ 8000000 → vd_NX W H O B K X pl s sg o off os x y sc f g → vd_RD n0 f g → vd_NS s i sc A C lr lc f g → vd_NV (vd_sn s) i sc A C lr lc → (bz = 0 ∨ bz = 1) → vd_RlPost M N x1 x6 pl s o off os x y n0 m i bz f g := by
  obtain ⟨hX, ⟨w1, w2⟩, ⟨hpl, hs, hsg, ho⟩, hoff, ⟨os1, os2, osk, osl⟩, ⟨s1, s2, s3, s4⟩, hxy, hK, hV⟩ := id hc
  have nb := vd_nnb hs
  have tb := vd_tt_b pl
  intro m
  induction m with
  | zero =>
    intro i n0 f g A C lr lc bz hi hn hx h ns nv hbz
    have e : i = vd_sn s * vd_sn s := by omega
    subst e
    obtain ⟨ns1, ns2, ns3, ns4⟩ := ns
    obtain ⟨q1, q2, q3⟩ := ns2 (by omega)
    refine ⟨f, g, 1, C, lr, lc, fun a8 a9 a10 a11 a12 d Q => ?_, fun a11 a12 a13 a14 d Q => ?_, Or.inr rfl, h.mono (by omega), fun _ => ⟨fun p hp => ⟨q1 p hp, (ns3 p hp).2⟩, ⟨q2, q3⟩, nv.2.1⟩, ns4, vd_fN.refl f, vd_gN.refl g⟩
    · show vd_wp (d + 3) 115 72 [.ref 45, .int x1, .int (vd_I ((vd_tt pl : Nat) : Int)), .int (vd_I (1185 + 108 * ((o : Int) + 2 * (((vd_tt pl : Nat) : Int) + 2 * (s : Int))))), .int (vd_I (off : Int)), .int (vd_I ((vd_sn s * vd_sn s : Nat) : Int)), .int (vd_I bz), .int (vd_I ((vd_sn s * vd_sn s : Nat) : Int)), a8, a9, a10, a11, a12] [] (vd_mf M f) Q = _
      rw [vd_S115_72 hM]
      simp (disch := omega) only [vd_S115_323 hM, Int.lt_irrefl, if_false]
    · show vd_wp (d + 4) 239 147 [.ref 63, .int (vd_I (pl : Int)), .int (vd_I (x : Int)), .int (vd_I (y : Int)), .int (vd_I (s : Int)), .int (vd_I ((vd_sn s : Nat) : Int)), .int x6, .ref os, .int (vd_I ((vd_tt pl : Nat) : Int)), .int (vd_I bz), .int (vd_I ((vd_sn s * vd_sn s : Nat) : Int)), a11, a12, a13, a14] [] (vd_mf N g) Q = _
      have en : ((vd_sn s : Nat) : Int) * ((vd_sn s : Nat) : Int) = ((vd_sn s * vd_sn s : Nat) : Int) := (Int.natCast_mul _ _).symm
      rw [vd_S239_147 hN]
      simp (disch := omega) only [vd_S239_414 hN, vd_I_mul, en, Int.lt_irrefl, if_false]
  | succ m ih =>
    intro i n0 f g A C lr lc bz hi hn hx h ns nv hbz
    obtain ⟨ns1, ns2, ns3, ns4⟩ := id ns
    obtain ⟨hA, ⟨hC, hl0, hl1⟩, hz, hl2⟩ := id nv
    have hi' : i < vd_sn s * vd_sn s := by omega
    have si := s1 i hi'
    have ccb := vd_cc_b (K := K) (sc := sc) (pl := pl) (s := s) (x := x) (y := y) (fun p => (hA p).1) i
    have mb := vd_mm_b hs ho tb ccb.1 ccb.2 i
    have H1 := fun a8 a9 a10 a11 a12 d Q => vd_rd1C (N := N) (d := d) (Q := Q) hM hx hc hA hi' ns1 hbz x1 a8 a9 a10 a11 a12
    have H2 := fun a11 a12 a13 a14 d Q => vd_rd1R (d := d) (Q := Q) hN hx hc hA hi' (fun p hp => (ns3 p hp).1) hbz x6 a11 a12 a13 a14
    generalize hcc : vd_cxt K A sc pl s x y i = cc at *
    generalize hmm : vd_mdl s o (vd_tt pl) cc i = mm at *
    have fresh : ∀ j, j < i → sc j ≠ sc i := fun j hj e => by
      have := s2 j i (by omega) hi' e
      omega
    have zi := hz (sc i) si fresh
    have e1 : (i : Int) + 1 = ((i + 1 : Nat) : Int) := by omega
    -- the rest, from where the amount is read
    have rest : ∀ (f1 g1 : Nat → Nat → Int32), vd_RD (n0 + 1) f1 g1 → vd_fD f f1 → vd_gD g g1 → (∀ a8 a9 a10 a11 a12 d Q, vd_wp (d + 3) 115 72 (vd_lcC x1 pl s o off bz i [a8, a9, a10, a11, a12]) [] (vd_mf M f) Q = vd_wp (d + 3) 115 183 (vd_lcC x1 pl s o off bz i [.int (vd_I ((sc i : Nat) : Int)), .int (vd_I cc), .int (vd_I mm), a11, a12]) [] (vd_mf M f1) Q) → (∀ a11 a12 a13 a14 d Q, vd_wp (d + 4) 239 147 (vd_lcR x6 pl s x y os bz i [a11, a12, a13, a14]) [] (vd_mf N g) Q = vd_wp (d + 4) 239 279 (vd_lcR x6 pl s x y os bz i [.int (vd_I ((sc i : Nat) : Int)), .int (vd_I cc), .int (vd_I mm), a14]) [] (vd_mf N g1) Q) → vd_RlPost M N x1 x6 pl s o off os x y n0 (m + 1) i bz f g := by
      intro f1 g1 h1 F1 G1 L1 L2
      -- numbers are cleared before the first
      obtain ⟨f2, c1, c2, c3, c4⟩ : ∃ f2, (∀ a11 a12 d Q, vd_wp (d + 3) 115 183 (vd_lcC x1 pl s o off bz i [.int (vd_I ((sc i : Nat) : Int)), .int (vd_I cc), .int (vd_I mm), a11, a12]) [] (vd_mf M f1) Q = vd_wp (d + 3) 115 194 (vd_lcC x1 pl s o off bz i [.int (vd_I ((sc i : Nat) : Int)), .int (vd_I cc), .int (vd_I mm), a11, a12]) [] (vd_mf M f2) Q) ∧ ((∀ p, p < vd_sn s * vd_sn s → f2 49 p = vd_I (C p)) ∧ f2 45 15 = vd_I lr ∧ f2 45 16 = vd_I lc) ∧ vd_RD (n0 + 1) f2 g1 ∧ (∀ c q, c ≠ 49 → ¬ (c = 45 ∧ (q = 15 ∨ q = 16)) → f2 c q = f1 c q) := by
        by_cases c0 : i = 0
        · have P := fun (d : Nat) (Q : vd_M → (Option Value ⊕ Nat) → Prop) => vd_P121 (f := f1) (t := vd_sn s * vd_sn s) hM (by omega) d Q
          have c02 : (vd_I ((i : Nat) : Int)).toInt = 0 := by rw [vd_I_toInt (by omega) (by omega)]; omega
          obtain ⟨l1, l2⟩ := hl2 c0
          refine ⟨vd_up (vd_up (vd_uf f1 49 0 (vd_sn s * vd_sn s) (vd_I 0)) 45 15 (vd_I 0)) 45 16 (vd_I 0), fun a11 a12 d Q => ?_, ⟨fun p hp => ?_, ?_, ?_⟩, h1.keep (fun c q a => by rw [vd_up_ne (by omega), vd_up_ne (by omega), vd_uf_ne (by omega)]) (fun _ _ _ => rfl), fun c q a b => by rw [vd_up_ne (by omega), vd_up_ne (by omega), vd_uf_ne (by omega)]⟩
          · simp (disch := omega) only [vd_lcC, vd_S115_183 hM, vd_S115_188 hM, vd_S115_191 hM, P, c02, eq_self, if_true, vd_rs_v, vd_rs_n]
          · rw [vd_up_ne (by omega), vd_up_ne (by omega), vd_uf_in (Nat.zero_le _) hp, (hz p hp (fun j hj => by omega)).2]
          · rw [vd_up_ne (by omega), vd_up_eq, l1]
          · rw [vd_up_eq, l2]
        · have c02 : ¬ ((vd_I ((i : Nat) : Int)).toInt = 0) := by rw [vd_I_toInt (by omega) (by omega)]; omega
          obtain ⟨q1, q2, q3⟩ := ns2 (by omega)
          refine ⟨f1, fun a11 a12 d Q => ?_, ⟨fun p hp => ?_, ?_, ?_⟩, h1, fun _ _ _ _ => rfl⟩
          · simp (disch := omega) only [vd_lcC, vd_S115_183 hM, c02, if_false]
          · rw [F1 _ _ (by omega) (by decide)]; exact q1 p hp
          · rw [F1 _ _ (by omega) (by decide)]; exact q2
          · rw [F1 _ _ (by omega) (by decide)]; exact q3
      obtain ⟨c2a, c2b, c2c⟩ := c2
      obtain ⟨f3, g3, am, t1, t2, h3, F3, G3⟩ := vd_amt (t := vd_tt pl) (mm := mm) hM hN c3 (by omega) mb.1 mb.2 tb
      have FN3 : vd_fN f f3 := fun c q a1 a2 a3 a4 a5 => by rw [F3 c q a1 a2, c4 c q a4 (by omega), F1 c q a1 a2]
      have GN3 : vd_gN g g3 := fun c q a1 a2 a3 a4 a5 => by rw [G3 c q (by omega) a2 a3, G1 c q (by omega) a2 a3]
      have hx3 := hx.keep os1 FN3 GN3
      have f49 : ∀ p, p < vd_sn s * vd_sn s → f3 49 p = vd_I (C p) := fun p hp => by rw [F3 _ _ (by omega) (by decide)]; exact c2a p hp
      have f15 : f3 45 15 = vd_I lr := by rw [F3 _ _ (by omega) (by decide)]; exact c2b
      have f16 : f3 45 16 = vd_I lc := by rw [F3 _ _ (by omega) (by decide)]; exact c2c
      have f48 : ∀ p, f3 48 p = f 48 p := fun p => by rw [F3 _ _ (by omega) (by decide), c4 _ _ (by decide) (by omega), F1 _ _ (by omega) (by decide)]
      have g12 : ∀ p, p < vd_sn s * vd_sn s → g3 124 p = vd_I (A p) ∧ g3 123 p = vd_I (C p) := fun p hp => by
        rw [G3 _ _ (by omega) (by decide) (by decide), G1 _ _ (by omega) (by decide) (by decide), G3 _ _ (by omega) (by decide) (by decide), G1 _ _ (by omega) (by decide) (by decide)]
        exact ns3 p hp
      have cnt : f3 45 3 = g3 63 47 := by rw [F3 _ _ (by omega) (by decide), c4 _ _ (by decide) (by omega), F1 _ _ (by omega) (by decide), G3 _ _ (by omega) (by decide) (by decide), G1 _ _ (by omega) (by decide) (by decide)]; exact ns4
      rcases t2 with ⟨ca, t2⟩ | ⟨ca, cb, t2⟩
      · -- a zero
        subst ca
        have hx4 : vd_NX W H O B K X pl s sg o off os x y sc (vd_up f3 48 (sc i) (vd_I 0)) g3 := hx3.keep os1 (fun c q a1 a2 a3 a4 a5 => vd_up_ne (by omega)) (vd_gN.refl g3)
        have h4 : vd_RD (n0 + 32) (vd_up f3 48 (sc i) (vd_I 0)) g3 := (h3.mono (show n0 + 1 + 30 ≤ n0 + 32 by omega)).keep (fun c q a => vd_up_ne (by omega)) (fun _ _ _ => rfl)
        have ns4' : vd_NS s (i + 1) sc A C lr lc (vd_up f3 48 (sc i) (vd_I 0)) g3 := by
          refine ⟨fun j hj => ?_, fun _ => ⟨fun p hp => ?_, ?_, ?_⟩, g12, ?_⟩
          · by_cases cj : j = i
            · subst cj
              rw [vd_up_eq, zi.1]
            · rw [vd_up_ne (fun q => fresh j (by omega) q.2), f48]
              exact ns1 j (by omega)
          · rw [vd_up_ne (by omega)]; exact f49 p hp
          · rw [vd_up_ne (by omega)]; exact f15
          · rw [vd_up_ne (by omega)]; exact f16
          · rw [vd_up_ne (by omega)]; exact cnt
        have nv4 : vd_NV (vd_sn s) (i + 1) sc A C lr lc := ⟨hA, ⟨hC, hl0, hl1⟩, fun p hp q => hz p hp fun j hj => q j (by omega), fun q => by omega⟩
        obtain ⟨f5, g5, r, C5, lr5, lc5, u1, u2, u3, u4, u5, u6, u7, u8⟩ := ih (i + 1) (n0 + 32) _ g3 A C lr lc 1 (by omega) (by omega) hx4 h4 ns4' nv4 (Or.inr rfl)
        refine ⟨f5, g5, r, C5, lr5, lc5, fun a8 a9 a10 a11 a12 d Q => ?_, fun a11 a12 a13 a14 d Q => ?_, u3, u4.mono (by omega), u5, u6, (FN3.trans (fun c q a1 a2 a3 a4 a5 => vd_up_ne (by omega))).trans u7, GN3.trans u8⟩
        · obtain ⟨b12, t1'⟩ := t1 x1 (vd_I (1185 + 108 * ((o : Int) + 2 * (((vd_tt pl : Nat) : Int) + 2 * (s : Int))))) (vd_I (off : Int)) (vd_I ((vd_sn s * vd_sn s : Nat) : Int)) (vd_I bz) (vd_I (i : Int)) (vd_I ((sc i : Nat) : Int)) (vd_I cc) a11 a12
          rw [L1, c1]
          refine (t1' (d + 1) Q).trans ?_
          rw [← u1 (.int (vd_I ((sc i : Nat) : Int))) (.int (vd_I cc)) (.int (vd_I mm)) (.int (vd_I 0)) b12 d Q]
          simp (disch := omega) only [vd_lcC, vd_S115_265 hM, vd_S115_273 hM, vd_S115_279 hM, vd_S115_284 hM, vd_S115_317 hM, Int.toNat_natCast, vd_I_toInt, eq_self, if_true, vd_I_add, e1]
        · rw [L2]
          refine (t2 _ _ _ _ _ _ _ _ _ _ _ a14 d Q).trans ?_
          rw [← u2 (.int (vd_I ((sc i : Nat) : Int))) (.int (vd_I cc)) (.int (vd_I mm)) a14 d Q]
          simp (disch := omega) only [vd_lcR, vd_S239_408 hN, vd_I_add, e1]
      · -- a number
        obtain ⟨f4, g4, v, v1, v2, vb, h4, ⟨w1', w2', w3', w4'⟩, ⟨w5, w6⟩, cnt4, oth, FN4, GN4⟩ := vd_putN (k := sc i) hM hN hx3 hc h3 (by omega) ca cb si f15 f16 hl0.1 hl0.2 cnt
        have dl : sc i / vd_sn s < vd_sn s := Nat.div_lt_of_lt_mul si
        have ml : sc i % vd_sn s < vd_sn s := Nat.mod_lt _ (by omega)
        have hx4 := hx3.keep os1 FN4 GN4
        have ns4' : vd_NS s (i + 1) sc (vd_fu A (sc i) am) (vd_fu C (sc i) v) (max lr ((sc i / vd_sn s : Nat) : Int)) (max lc ((sc i % vd_sn s : Nat) : Int)) f4 g4 := by
          refine ⟨fun j hj => ?_, fun _ => ⟨fun p hp => ?_, w3', w4'⟩, fun p hp => ?_, cnt4⟩
          · by_cases cj : j = i
            · subst cj
              rw [vd_fu_eq]; exact w1'
            · rw [vd_fu_ne (fresh j (by omega)), (oth (sc j) (fresh j (by omega))).1, f48]
              exact ns1 j (by omega)
          · by_cases cp : p = sc i
            · rw [cp, vd_fu_eq]; exact w2'
            · rw [vd_fu_ne cp, (oth p cp).2.1]; exact f49 p hp
          · by_cases cp : p = sc i
            · rw [cp, vd_fu_eq, vd_fu_eq]; exact ⟨w5, w6⟩
            · rw [vd_fu_ne cp, vd_fu_ne cp, (oth p cp).2.2.1, (oth p cp).2.2.2]; exact g12 p hp
        have nv4 : vd_NV (vd_sn s) (i + 1) sc (vd_fu A (sc i) am) (vd_fu C (sc i) v) (max lr ((sc i / vd_sn s : Nat) : Int)) (max lc ((sc i % vd_sn s : Nat) : Int)) := by
          refine ⟨fun p => ?_, ⟨fun p => ?_, ?_, fun p hp => ?_⟩, fun p hp q => ?_, fun q => by omega⟩
          · by_cases cp : p = sc i
            · rw [cp, vd_fu_eq]; omega
            · rw [vd_fu_ne cp]; exact hA p
          · by_cases cp : p = sc i
            · rw [cp, vd_fu_eq]; exact vb
            · rw [vd_fu_ne cp]; exact hC p
          · generalize sc i / vd_sn s = kd at *
            generalize sc i % vd_sn s = km at *
            exact ⟨by omega, by omega⟩
          · by_cases cp : p = sc i
            · intro _
              rw [cp]
              exact ⟨Int.le_max_right _ _, Int.le_max_right _ _⟩
            · rw [vd_fu_ne cp]
              intro q
              have := hl1 p hp q
              exact ⟨Int.le_trans this.1 (Int.le_max_left _ _), Int.le_trans this.2 (Int.le_max_left _ _)⟩
          · have cp : p ≠ sc i := fun e => q i (by omega) e.symm
            rw [vd_fu_ne cp, vd_fu_ne cp]
            exact hz p hp fun j hj => q j (by omega)
        obtain ⟨f5, g5, r, C5, lr5, lc5, u1, u2, u3, u4, u5, u6, u7, u8⟩ := ih (i + 1) (n0 + 1 + 30 + 1) f4 g4 _ _ _ _ 0 (by omega) (by omega) hx4 h4 ns4' nv4 (Or.inl rfl)
        refine ⟨f5, g5, r, C5, lr5, lc5, fun a8 a9 a10 a11 a12 d Q => ?_, fun a11 a12 a13 a14 d Q => ?_, u3, u4.mono (by omega), u5, u6, (FN3.trans FN4).trans u7, (GN3.trans GN4).trans u8⟩
        · obtain ⟨b12, t1'⟩ := t1 x1 (vd_I (1185 + 108 * ((o : Int) + 2 * (((vd_tt pl : Nat) : Int) + 2 * (s : Int))))) (vd_I (off : Int)) (vd_I ((vd_sn s * vd_sn s : Nat) : Int)) (vd_I bz) (vd_I (i : Int)) (vd_I ((sc i : Nat) : Int)) (vd_I cc) a11 a12
          rw [L1, c1]
          refine (t1' (d + 1) Q).trans ((v1 _ _ _ _ _ _ _ _ _ b12 (d + 1) Q).trans ?_)
          rw [← u1 (.int (vd_I ((sc i : Nat) : Int))) (.int (vd_I cc)) (.int (vd_I mm)) (.int (vd_I am)) b12 d Q]
          simp (disch := omega) only [vd_lcC, vd_S115_317 hM, vd_I_add, e1]
        · obtain ⟨b14, v2'⟩ := v2 (vd_I (x : Int)) (vd_I (y : Int)) (vd_I (s : Int)) (vd_I ((vd_sn s : Nat) : Int)) x6 os (vd_I ((vd_tt pl : Nat) : Int)) (vd_I 0) (vd_I (i : Int)) (vd_I cc) (vd_I mm) a14
          rw [L2]
          refine (t2 _ _ _ _ _ _ _ _ _ _ _ a14 d Q).trans ((v2' d Q).trans ?_)
          rw [← u2 (.int (vd_I ((sc i : Nat) : Int))) (.int (vd_I cc)) (.int (vd_I mm)) b14 d Q]
          simp (disch := omega) only [vd_lcR, vd_S239_408 hN, vd_I_add, e1]
    rcases hbz with cz | cz
    · subst cz
      obtain ⟨f1, g1, b, p1, p2, pb, p3, p4, p5⟩ := vd_read hM hN (z := mm) h (by omega) mb.1 (by omega)
      rcases pb with cb | cb
      · -- the end
        subst cb
        by_cases c0 : i = 0
        · have c02 : ¬ (0 < (i : Int)) := by omega
          refine ⟨f1, g1, 0, C, lr, lc, fun a8 a9 a10 a11 a12 d Q => ?_, fun a11 a12 a13 a14 d Q => ?_, Or.inl rfl, p3.mono (by omega), fun q => absurd q (by decide), ?_, p4.toN, p5.toN⟩
          · refine (H1 a8 a9 a10 a11 a12 (d + 1) Q).trans ?_
            rw [if_pos rfl]
            simp (disch := first | decide | omega) only [vd_S115_160 hM, vd_S115_166 hM, vd_S115_169 hM, vd_S115_172 hM, vd_S115_181 hM, vd_S115_182 hM, p1, vd_I_toInt, c02, eq_self, if_true, if_false, vd_rs_v, vd_rs_n]
          · refine (H2 a11 a12 a13 a14 (d + 2) Q).trans ?_
            rw [if_pos rfl]
            simp (disch := first | decide | omega) only [vd_S239_259 hN, vd_S239_262 hN, vd_S239_265 hN, vd_S239_268 hN, vd_S239_277 hN, vd_S239_278 hN, p2, vd_I_toInt, c02, eq_self, if_true, if_false, vd_rs_v, vd_rs_n]
          · rw [p4 _ _ (by omega) (by decide), p5 _ _ (by omega) (by decide) (by decide)]; exact ns4
        · have c02 : 0 < (i : Int) := by omega
          obtain ⟨q1, q2, q3⟩ := ns2 (by omega)
          refine ⟨f1, g1, 1, C, lr, lc, fun a8 a9 a10 a11 a12 d Q => ?_, fun a11 a12 a13 a14 d Q => ?_, Or.inr rfl, p3.mono (by omega), fun _ => ⟨fun p hp => ⟨?_, ?_⟩, ⟨?_, ?_⟩, hC, hl0, hl1⟩, ?_, p4.toN, p5.toN⟩
          · refine (H1 a8 a9 a10 a11 a12 (d + 1) Q).trans ?_
            rw [if_pos rfl]
            simp (disch := first | decide | omega) only [vd_S115_160 hM, vd_S115_166 hM, vd_S115_169 hM, vd_S115_172 hM, vd_S115_177 hM, vd_S115_182 hM, p1, vd_I_toInt, c02, eq_self, if_true, vd_rs_v, vd_rs_n]
          · refine (H2 a11 a12 a13 a14 (d + 2) Q).trans ?_
            rw [if_pos rfl]
            simp (disch := first | decide | omega) only [vd_S239_259 hN, vd_S239_262 hN, vd_S239_265 hN, vd_S239_268 hN, vd_S239_273 hN, vd_S239_278 hN, p2, vd_I_toInt, c02, eq_self, if_true, vd_rs_v, vd_rs_n]
          · rw [p4 _ _ (by omega) (by decide)]; exact q1 p hp
          · rw [p5 _ _ (by omega) (by decide) (by decide)]; exact (ns3 p hp).2
          · rw [p4 _ _ (by omega) (by decide)]; exact q2
          · rw [p4 _ _ (by omega) (by decide)]; exact q3
          · rw [p4 _ _ (by omega) (by decide), p5 _ _ (by omega) (by decide) (by decide)]; exact ns4
      · subst cb
        refine rest f1 g1 p3 p4 p5 (fun a8 a9 a10 a11 a12 d Q => ?_) (fun a11 a12 a13 a14 d Q => ?_)
        · refine (H1 a8 a9 a10 a11 a12 (d + 1) Q).trans ?_
          rw [if_pos rfl]
          simp (disch := first | decide | omega) only [vd_lcC, vd_S115_160 hM, vd_S115_166 hM, vd_S115_169 hM, p1, vd_I_toInt, show ¬ ((1 : Int) = 0) by decide, if_false, vd_rs_v, vd_rs_n]
        · refine (H2 a11 a12 a13 a14 (d + 2) Q).trans ?_
          rw [if_pos rfl]
          simp (disch := first | decide | omega) only [vd_lcR, vd_S239_259 hN, vd_S239_262 hN, vd_S239_265 hN, p2, vd_I_toInt, show ¬ ((1 : Int) = 0) by decide, if_false, vd_rs_v, vd_rs_n]
    · subst cz
      refine rest f g (h.mono (by omega)) (vd_fD.refl f) (vd_gD.refl g) (fun a8 a9 a10 a11 a12 d Q => ?_) (fun a11 a12 a13 a14 d Q => ?_)
      · refine (H1 a8 a9 a10 a11 a12 (d + 1) Q).trans ?_
        rw [if_neg (by decide)]
        rfl
      · refine (H2 a11 a12 a13 a14 (d + 2) Q).trans ?_
        rw [if_neg (by decide)]
        rfl
end VDRL
