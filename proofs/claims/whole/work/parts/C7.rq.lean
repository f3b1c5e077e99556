/-! ===== a square's numbers, both ===== -/
/-- the tables of orders -/
def vd_SCT (Z : Nat → Nat → Nat → Nat) (f g : Nat → Nat → Int32) : Prop := ∀ o s i : Nat, o < 3 → s < 4 → (2 ≤ s → o = 0) → i < vd_sn s * vd_sn s → f 46 (vd_sof o s + i) = vd_I ((Z o s i : Nat) : Int) ∧ g (184 + 4 * o + s) i = vd_I ((Z o s i : Nat) : Int)
def vd_SCV (Z : Nat → Nat → Nat → Nat) : Prop := ∀ o s : Nat, o < 3 → s < 4 → (2 ≤ s → o = 0) → vd_SCN (vd_sn s) (Z o s)
section VDRQ
variable {M N : vd_M} {ow fa lo lf W H : Nat} {O : Nat → Nat → Option Nat} {B : Nat → Nat → Int} {K : Nat → Nat → Nat → Int} {X : Nat → Nat → Int} {pl s sg o x y n0 : Nat} {Z : Nat → Nat → Nat → Nat} {f g : Nat → Nat → Int32}
theorem vd_OS (hN : vd_SR N) {o s : Nat} (ho : o < 3) (hs : s < 4) : vd_r N 122 (4 * o + s) = some (184 + 4 * o + s) ∧ vd_k N (184 + 4 * o + s) = 32 ∧ vd_l N (184 + 4 * o + s) = vd_sn s * vd_sn s := by
  have h1 : o = 0 ∨ o = 1 ∨ o = 2 := by omega
  have h2 : s = 0 ∨ s = 1 ∨ s = 2 ∨ s = 3 := by omega
  rcases h1 with rfl | rfl | rfl <;> rcases h2 with rfl | rfl | rfl | rfl
  · exact ⟨hN.r122_0, hN.k184, hN.l184⟩
  · exact ⟨hN.r122_1, hN.k185, hN.l185⟩
  · exact ⟨hN.r122_2, hN.k186, hN.l186⟩
  · exact ⟨hN.r122_3, hN.k187, hN.l187⟩
  · exact ⟨hN.r122_4, hN.k188, hN.l188⟩
  · exact ⟨hN.r122_5, hN.k189, hN.l189⟩
  · exact ⟨hN.r122_6, hN.k190, hN.l190⟩
  · exact ⟨hN.r122_7, hN.k191, hN.l191⟩
  · exact ⟨hN.r122_8, hN.k192, hN.l192⟩
  · exact ⟨hN.r122_9, hN.k193, hN.l193⟩
  · exact ⟨hN.r122_10, hN.k194, hN.l194⟩
  · exact ⟨hN.r122_11, hN.k195, hN.l195⟩
/-- what a square's reading rests on, but for the order -/
def vd_NY (W H : Nat) (O : Nat → Nat → Option Nat) (B : Nat → Nat → Int) (K : Nat → Nat → Nat → Int) (X : Nat → Nat → Int) (pl s sg o x y : Nat) (Z : Nat → Nat → Nat → Nat) (f g : Nat → Nat → Int32) : Prop := ((f 45 11 = vd_I (pl : Int) ∧ f 45 12 = vd_I (x : Int) ∧ f 45 13 = vd_I (y : Int) ∧ f 45 14 = vd_I (s : Int)) ∧ vd_stC f ∧ (∀ j, j < 4 → f 51 j = vd_I (vd_qn X sg j)) ∧ vd_KC K f) ∧ vd_SCT Z f g ∧ vd_CB X g ∧ g 63 103 = vd_I (sg : Int) ∧ g 63 111 = vd_I (o : Int) ∧ vd_KH K g ∧ vd_GB W H O B g
def vd_NZ (W H : Nat) (O : Nat → Nat → Option Nat) (K : Nat → Nat → Nat → Int) (X : Nat → Nat → Int) (pl s sg o x y : Nat) (Z : Nat → Nat → Nat → Nat) : Prop := vd_XV X ∧ (W ≤ 24 ∧ H ≤ 24) ∧ (pl < 3 ∧ s < 4 ∧ sg < 8 ∧ o < 2) ∧ vd_SCV Z ∧ (x < vd_us pl * W ∧ y < vd_us pl * H) ∧ (∀ pl a b, K pl a b = 0 ∨ K pl a b = 1 ∨ K pl a b = 2) ∧ (∀ a b, K pl a b = 2 → a / vd_cu pl < W → b / vd_cu pl < H → O (a / vd_cu pl) (b / vd_cu pl) ≠ none)
/-- the reference's order -/
theorem vd_G239s (hN : vd_SR N) (hpl : pl < 3) (hs : s < 4) {md : Int} (hmd : (o = 1 ∧ md = -1) ∨ (o = 0 ∧ 0 ≤ md ∧ md ≤ 9)) (h111 : g 63 111 = vd_I (o : Int)) (h106 : pl = 0 → g 63 106 = vd_I md) (x2 x3 : Int32) (d : Nat) (Q : vd_M → (Option Value ⊕ Nat) → Prop) : vd_wp d 239 0 [.ref 63, .int (vd_I (pl : Int)), .int x2, .int x3, .int (vd_I (s : Int)), vd_U, vd_U, vd_U, vd_U, vd_U, vd_U, vd_U, vd_U, vd_U, vd_U] [] (vd_mf N g) Q = vd_wp d 239 88 [.ref 63, .int (vd_I (pl : Int)), .int x2, .int x3, .int (vd_I (s : Int)), .int (vd_I ((vd_sn s : Nat) : Int)), .int (vd_I ((vd_ord pl s md : Nat) : Int)), vd_U, vd_U, vd_U, vd_U, vd_U, vd_U, vd_U, vd_U] [] (vd_mf N g) Q := by
  have sh := vd_sh4 hs
  by_cases c : pl = 0
  · have c' : (vd_I ((pl : Nat) : Int)).toInt = 0 := by rw [vd_I_toInt (by omega) (by omega)]; omega
    have h106 := h106 c
    rcases hmd with ⟨co, cm⟩ | ⟨co, m0, m1⟩
    · have e : vd_ord pl s md = 0 := by
        unfold vd_ord
        rw [cm]
        split
        · rfl
        · rfl
      have h111' : g 63 111 = vd_I 1 := by rw [h111, co]; rfl
      rw [e]
      simp (disch := omega) only [vd_S239_0 hN, vd_S239_13 hN, sh, c', h111', vd_I_toInt, show ¬ ((1 : Int) = 0) by decide, eq_self, if_true, if_false]
      rfl
    · have h111' : g 63 111 = vd_I 0 := by rw [h111, co]; rfl
      by_cases c2 : s < 2
      · have c2' : (s : Int) < 2 := by omega
        have e : vd_ord pl s md = (if md = 1 ∨ md = 5 ∨ md = 8 then 1 else if md = 2 ∨ md = 6 ∨ md = 7 then 2 else 0) := by unfold vd_ord; rw [if_pos ⟨c, c2⟩]
        rw [e]
        have : md = 0 ∨ md = 1 ∨ md = 2 ∨ md = 3 ∨ md = 4 ∨ md = 5 ∨ md = 6 ∨ md = 7 ∨ md = 8 ∨ md = 9 := by omega
        rcases this with rfl | rfl | rfl | rfl | rfl | rfl | rfl | rfl | rfl | rfl <;> simp (disch := omega) only [vd_S239_0 hN, vd_S239_13 hN, vd_S239_20 hN, vd_S239_26 hN, vd_S239_34 hN, vd_S239_42 hN, vd_S239_51 hN, vd_S239_55 hN, vd_S239_63 hN, vd_S239_72 hN, vd_S239_81 hN, vd_S239_85 hN, vd_S239_86 hN, sh, c', h111', h106, vd_I_toInt, c2', eq_self, if_true, if_false, Int.reduceEq, reduceIte, or_self, or_true, true_or, or_false, false_or] <;> rfl
      · have c2' : ¬ ((s : Int) < 2) := by omega
        have e : vd_ord pl s md = 0 := by unfold vd_ord; rw [if_neg (by omega)]
        rw [e]
        simp (disch := omega) only [vd_S239_0 hN, vd_S239_13 hN, vd_S239_20 hN, sh, c', h111', vd_I_toInt, c2', eq_self, if_true, if_false]
        rfl
  · have c' : ¬ ((vd_I ((pl : Nat) : Int)).toInt = 0) := by rw [vd_I_toInt (by omega) (by omega)]; omega
    have e : vd_ord pl s md = 0 := by unfold vd_ord; rw [if_neg (by omega)]
    rw [e]
    simp (disch := omega) only [vd_S239_0 hN, sh, c', if_false]
    rfl
def vd_SqPost (M N : vd_M) (pl s x y n0 : Nat) (md : Int) (f g : Nat → Nat → Int32) : Prop := ∃ (f' g' : Nat → Nat → Int32) (r : Int) (C : Nat → Int) (lr lc : Int), (∀ d Q, vd_wp (d + 3) 115 0 [.ref 45, .int (vd_I md), vd_U, vd_U, vd_U, vd_U, vd_U, vd_U, vd_U, vd_U, vd_U, vd_U, vd_U] [] (vd_mf M f) Q = Q (vd_mf M f') (.inl (some (.int (vd_I r))))) ∧ (∀ d Q, vd_wp (d + 4) 239 0 [.ref 63, .int (vd_I (pl : Int)), .int (vd_I (x : Int)), .int (vd_I (y : Int)), .int (vd_I (s : Int)), vd_U, vd_U, vd_U, vd_U, vd_U, vd_U, vd_U, vd_U, vd_U, vd_U] [] (vd_mf N g) Q = Q (vd_mf N g') (.inl (some (.int (vd_I r))))) ∧ (r = 0 ∨ r = 1) ∧ vd_RD (n0 + 32 * (vd_sn s * vd_sn s)) f' g' ∧ (r = 1 → (∀ p, p < vd_sn s * vd_sn s → f' 49 p = vd_I (C p) ∧ g' 123 p = vd_I (C p)) ∧ (f' 45 15 = vd_I lr ∧ f' 45 16 = vd_I lc) ∧ vd_NL (vd_sn s) C lr lc) ∧ f' 45 3 = g' 63 47 ∧ vd_fN f f' ∧ vd_gN g g'
theorem vd_readSq (hM : vd_SC M ow fa lo lf) (hN : vd_SR N) (hy : vd_NY W H O B K X pl s sg o x y Z f g) (hz : vd_NZ W H O K X pl s sg o x y Z) (h : vd_RD n0 f g) (hn : n0 + 32 * (vd_sn s * vd_sn s) ≤ 8000000) {md : Int} (hmd : (o = 1 ∧ md = -1) ∨ (o = 0 ∧ 0 ≤ md ∧ md ≤ 9)) (h106 : pl = 0 → g 63 106 = vd_I md) (cnt : f 45 3 = g 63 47) : vd_SqPost M N pl s x y n0 md f g := by
  obtain ⟨⟨⟨f11, f12, f13, f14⟩, st, fq, fk⟩, sct, gB, g103, g111, gk, gG⟩ := id hy
  obtain ⟨hX, ⟨w1, w2⟩, ⟨hpl, hs, hsg, ho⟩, scv, ⟨hx1, hy1⟩, hK, hV⟩ := id hz
  have nb := vd_nnb hs
  have tb := vd_tt_b pl
  have ob := vd_ord_b pl s md
  have P116 := vd_P116 (f := f) hM f11 f14 hpl hs (md := md) (by omega) (by omega)
  have PG := vd_G239s (g := g) hN hpl hs hmd g111 h106
  generalize hoo : vd_ord pl s md = oo at *
  have P9 := vd_P9 (f := f) (o := oo) hM (by omega) hs
  have sb := vd_sof_b (o := oo) hs ob.2
  obtain ⟨osr, osk, osl⟩ := vd_OS hN (o := oo) (s := s) (by omega) hs
  have scn := scv oo s (by omega) hs ob.2
  have hc : vd_NCt N W H O K X pl s sg o (vd_sof oo s) (184 + 4 * oo + s) x y (Z oo s) := ⟨hX, ⟨w1, w2⟩, ⟨hpl, hs, hsg, ho⟩, sb, ⟨by omega, by omega, osk, osl⟩, scn, ⟨hx1, hy1⟩, hK, hV⟩
  have hx : vd_NX W H O B K X pl s sg o (vd_sof oo s) (184 + 4 * oo + s) x y (Z oo s) f g := ⟨⟨⟨f11, f12, f13, f14⟩, st, fq, fun i hi => (sct oo s i (by omega) hs ob.2 hi).1, fk⟩, gB, g103, g111, fun i hi => (sct oo s i (by omega) hs ob.2 hi).2, gk, gG⟩
  have FA := fun (d : Nat) (Q : vd_M → (Option Value ⊕ Nat) → Prop) => vd_F290 (M := N) (f := g) (d := d) (Q := Q) (o := 123) (len := 1024) (a := 0) (b := vd_sn s * vd_sn s) (x := vd_I 0) (by decide) hN.k123 hN.l123 (by decide) (Nat.zero_le _) nb.2.2.1
  have FB := fun (d : Nat) (Q : vd_M → (Option Value ⊕ Nat) → Prop) => vd_F290 (M := N) (f := vd_uf g 123 0 (vd_sn s * vd_sn s) (vd_I 0)) (d := d) (Q := Q) (o := 124) (len := 1024) (a := 0) (b := vd_sn s * vd_sn s) (x := vd_I 0) (by decide) hN.k124 hN.l124 (by decide) (Nat.zero_le _) nb.2.2.1
  have z0 : ((0 : Nat) : Int) = 0 := rfl
  rw [z0] at FA FB
  generalize hg1 : vd_uf (vd_uf g 123 0 (vd_sn s * vd_sn s) (vd_I 0)) 124 0 (vd_sn s * vd_sn s) (vd_I 0) = g1 at *
  have G1 : ∀ c i, c ≠ 123 → c ≠ 124 → g1 c i = g c i := fun c i a b => by rw [← hg1, vd_uf_ne (by omega), vd_uf_ne (by omega)]
  have g1z : ∀ p, p < vd_sn s * vd_sn s → g1 124 p = vd_I 0 ∧ g1 123 p = vd_I 0 := fun p hp => by
    rw [← hg1]
    exact ⟨vd_uf_in (Nat.zero_le _) hp, by rw [vd_uf_ne (by omega), vd_uf_in (Nat.zero_le _) hp]⟩
  have hx1' := hx.keep (by omega) (vd_fN.refl f) (show vd_gN g g1 from fun c i a1 a2 a3 a4 a5 => G1 c i a4 a5)
  have h1 : vd_RD n0 f g1 := h.keep (fun _ _ _ => rfl) (fun c i q => G1 c i (by omega) (by omega))
  obtain ⟨f', g', r, C, lr, lc, u1, u2, u3, u4, u5, u6, u7, u8⟩ := vd_rdL hM hN hc (vd_I md) (vd_I (oo : Int)) (vd_sn s * vd_sn s) 0 n0 f g1 (fun _ => 0) (fun _ => 0) 0 0 0 (by omega) hn hx1' h1 ⟨fun j hj => by omega, fun q => by omega, fun p hp => g1z p hp, by rw [G1 _ _ (by decide) (by decide)]; exact cnt⟩ ⟨fun _ => (by decide : (0 : Int) ≤ 0 ∧ (0 : Int) ≤ 40000), ⟨fun _ => (by decide : (-32768 : Int) ≤ 0 ∧ (0 : Int) ≤ 32767), ⟨by omega, by omega⟩, fun p hp q => absurd rfl q⟩, fun _ _ _ => ⟨rfl, rfl⟩, fun _ => ⟨rfl, rfl⟩⟩ (Or.inl rfl)
  refine ⟨f', g', r, C, lr, lc, fun d Q => ?_, fun d Q => ?_, u3, u4, u5, u6, u7, fun c i a1 a2 a3 a4 a5 => by rw [u8 c i a1 a2 a3 a4 a5, G1 c i a4 a5]⟩
  · have e := u1 vd_U vd_U vd_U vd_U vd_U d Q
    simp only [vd_lcC, z0] at e
    rw [← e]
    have sh16 := vd_sh16 hs
    have tt : ∀ (d : Nat) (Q : vd_M → (Option Value ⊕ Nat) → Prop), vd_wp d 115 0 [.ref 45, .int (vd_I md), vd_U, vd_U, vd_U, vd_U, vd_U, vd_U, vd_U, vd_U, vd_U, vd_U, vd_U] [] (vd_mf M f) Q = vd_wp d 115 12 [.ref 45, .int (vd_I md), vd_U, vd_U, vd_U, vd_U, vd_U, vd_U, vd_U, vd_U, vd_U, vd_U, vd_U] [.int (vd_I ((vd_tt pl : Nat) : Int))] (vd_mf M f) Q := fun d Q => by
      by_cases c : pl = 0
      · have c' : ((pl : Nat) : Int) = 0 := by omega
        have et : ((vd_tt pl : Nat) : Int) = 0 := by unfold vd_tt; rw [if_pos c]; rfl
        rw [et]
        simp (disch := omega) only [vd_S115_0 hM, vd_S115_7 hM, f11, vd_I_toInt, c', eq_self, if_true]
      · have c' : ¬ (((pl : Nat) : Int) = 0) := by omega
        have et : ((vd_tt pl : Nat) : Int) = 1 := by unfold vd_tt; rw [if_neg c]; rfl
        rw [et]
        simp (disch := omega) only [vd_S115_0 hM, vd_S115_11 hM, f11, vd_I_toInt, c', if_false]
    rw [tt]
    rcases hmd with ⟨co, cm⟩ | ⟨co, m0, m1⟩
    · have c2 : md < 0 := by omega
      have eo : (1 : Int) = (o : Int) := by omega
      simp (disch := omega) only [vd_S115_12 hM, vd_S115_22 hM, vd_S115_27 hM, vd_S115_43 hM, vd_S115_46 hM, vd_S115_50 hM, vd_S115_53 hM, f14, P116, P9, sh16, vd_I_toInt, c2, if_true, vd_I_mul, vd_I_add, ← eo, vd_rs_v, vd_rs_n]
    · have c2 : ¬ (md < 0) := by omega
      have eo : (0 : Int) = (o : Int) := by omega
      simp (disch := omega) only [vd_S115_12 hM, vd_S115_26 hM, vd_S115_27 hM, vd_S115_43 hM, vd_S115_46 hM, vd_S115_50 hM, vd_S115_53 hM, f14, P116, P9, sh16, vd_I_toInt, c2, if_false, vd_I_mul, vd_I_add, ← eo, vd_rs_v, vd_rs_n]
  · have e := u2 vd_U vd_U vd_U vd_U d Q
    simp only [vd_lcR, z0] at e
    rw [← e, PG]
    have en : ((vd_sn s : Nat) : Int) * ((vd_sn s : Nat) : Int) = ((vd_sn s * vd_sn s : Nat) : Int) := (Int.natCast_mul _ _).symm
    have ni : (4 * (oo : Int) + (s : Int)).toNat = 4 * oo + s := by omega
    have lg : ∀ k, vd_long (.ref k) = false := fun _ => rfl
    by_cases c : pl = 0
    · have c' : (vd_I ((pl : Nat) : Int)).toInt = 0 := by rw [vd_I_toInt (by omega) (by omega)]; omega
      have et : ((vd_tt pl : Nat) : Int) = 0 := by unfold vd_tt; rw [if_pos c]; rfl
      rw [et]
      simp (disch := first | omega | exact lg _) only [vd_S239_88 hN, vd_S239_99 hN, vd_S239_100 hN, vd_S239_113 hN, vd_S239_116 hN, vd_S239_127 hN, vd_S239_130 hN, vd_S239_134 hN, vd_S239_139 hN, vd_I_mul, vd_I_add, en, ni, osr, vd_vr_some, FA, FB, c', eq_self, if_true, vd_rs_v, vd_rs_n]
    · have c' : ¬ ((vd_I ((pl : Nat) : Int)).toInt = 0) := by rw [vd_I_toInt (by omega) (by omega)]; omega
      have et : ((vd_tt pl : Nat) : Int) = 1 := by unfold vd_tt; rw [if_neg c]; rfl
      rw [et]
      simp (disch := first | omega | exact lg _) only [vd_S239_88 hN, vd_S239_99 hN, vd_S239_100 hN, vd_S239_113 hN, vd_S239_116 hN, vd_S239_127 hN, vd_S239_130 hN, vd_S239_138 hN, vd_S239_139 hN, vd_I_mul, vd_I_add, en, ni, osr, vd_vr_some, FA, FB, c', if_false, vd_rs_v, vd_rs_n]
end VDRQ
