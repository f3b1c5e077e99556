/-! ===== numbers of a square: one number ===== -/
/-- an order of the numbers: every place once, what stands around first -/
def vd_SCN (n : Nat) (sc : Nat → Nat) : Prop := (∀ i, i < n * n → sc i < n * n) ∧ (∀ i j, i < n * n → j < n * n → sc i = sc j → i = j) ∧ sc 0 = 0 ∧ (∀ i, 0 < i → i < n * n → (n ≤ sc i → ∃ j, j < i ∧ sc j = sc i - n) ∧ (0 < sc i % n → ∃ j, j < i ∧ sc j = sc i - 1))
def vd_fN (f f' : Nat → Nat → Int32) : Prop := ∀ c i, ¬ (c = 34 ∧ 3 ≤ i) → c ≠ 36 → c ≠ 48 → c ≠ 49 → ¬ (c = 45 ∧ (i = 3 ∨ i = 15 ∨ i = 16)) → f' c i = f c i
def vd_gN (g g' : Nat → Nat → Int32) : Prop := ∀ c i, ¬ (c = 63 ∧ (i = 46 ∨ i = 47 ∨ (91 ≤ i ∧ i ≤ 94))) → c ≠ 81 → c ≠ 82 → c ≠ 123 → c ≠ 124 → g' c i = g c i
theorem vd_fN.trans {f f1 f2 : Nat → Nat → Int32} (h : vd_fN f f1) (h2 : vd_fN f1 f2) : vd_fN f f2 := fun c i a1 a2 a3 a4 a5 => by rw [h2 c i a1 a2 a3 a4 a5, h c i a1 a2 a3 a4 a5]
theorem vd_gN.trans {f f1 f2 : Nat → Nat → Int32} (h : vd_gN f f1) (h2 : vd_gN f1 f2) : vd_gN f f2 := fun c i a1 a2 a3 a4 a5 => by rw [h2 c i a1 a2 a3 a4 a5, h c i a1 a2 a3 a4 a5]
theorem vd_fD.toN {f f' : Nat → Nat → Int32} (h : vd_fD f f') : vd_fN f f' := fun c i a1 a2 _ _ _ => h c i a1 a2
theorem vd_gD.toN {f f' : Nat → Nat → Int32} (h : vd_gD f f') : vd_gN f f' := fun c i a1 a2 a3 _ _ => h c i (by omega) a2 a3
theorem vd_fN.refl (f : Nat → Nat → Int32) : vd_fN f f := fun _ _ _ _ _ _ _ => rfl
theorem vd_gN.refl (f : Nat → Nat → Int32) : vd_gN f f := fun _ _ _ _ _ _ _ => rfl
/-- what a square's reading rests on -/
def vd_NX (W H : Nat) (O : Nat → Nat → Option Nat) (B : Nat → Nat → Int) (K : Nat → Nat → Nat → Int) (X : Nat → Nat → Int) (pl s sg o off os x y : Nat) (sc : Nat → Nat) (f g : Nat → Nat → Int32) : Prop := ((f 45 11 = vd_I (pl : Int) ∧ f 45 12 = vd_I (x : Int) ∧ f 45 13 = vd_I (y : Int) ∧ f 45 14 = vd_I (s : Int)) ∧ vd_stC f ∧ (∀ j, j < 4 → f 51 j = vd_I (vd_qn X sg j)) ∧ (∀ i, i < vd_sn s * vd_sn s → f 46 (off + i) = vd_I ((sc i : Nat) : Int)) ∧ vd_KC K f) ∧ vd_CB X g ∧ g 63 103 = vd_I (sg : Int) ∧ g 63 111 = vd_I (o : Int) ∧ (∀ i, i < vd_sn s * vd_sn s → g os i = vd_I ((sc i : Nat) : Int)) ∧ vd_KH K g ∧ vd_GB W H O B g
/-- what does not change there -/
def vd_NCt (N : vd_M) (W H : Nat) (O : Nat → Nat → Option Nat) (K : Nat → Nat → Nat → Int) (X : Nat → Nat → Int) (pl s sg o off os x y : Nat) (sc : Nat → Nat) : Prop := vd_XV X ∧ (W ≤ 24 ∧ H ≤ 24) ∧ (pl < 3 ∧ s < 4 ∧ sg < 8 ∧ o < 2) ∧ off + vd_sn s * vd_sn s ≤ 1520 ∧ (184 ≤ os ∧ os ≤ 195 ∧ vd_k N os = 32 ∧ vd_l N os = vd_sn s * vd_sn s) ∧ vd_SCN (vd_sn s) sc ∧ (x < vd_us pl * W ∧ y < vd_us pl * H) ∧ (∀ pl a b, K pl a b = 0 ∨ K pl a b = 1 ∨ K pl a b = 2) ∧ (∀ a b, K pl a b = 2 → a / vd_cu pl < W → b / vd_cu pl < H → O (a / vd_cu pl) (b / vd_cu pl) ≠ none)
section VDRD
variable {M N : vd_M} {ow fa lo lf W H : Nat} {O : Nat → Nat → Option Nat} {B : Nat → Nat → Int} {K : Nat → Nat → Nat → Int} {X : Nat → Nat → Int} {pl s sg o off os x y : Nat} {sc : Nat → Nat} {f f' g g' : Nat → Nat → Int32}
theorem vd_NX.keep (h : vd_NX W H O B K X pl s sg o off os x y sc f g) (h2 : 184 ≤ os) (hf : vd_fN f f') (hg : vd_gN g g') : vd_NX W H O B K X pl s sg o off os x y sc f' g' := by
  obtain ⟨⟨⟨a1, a2, a3, a4⟩, ⟨b1, b2⟩, c, d, e⟩, l1, l2, l3, l4, l5, l6⟩ := h
  have F : ∀ c i, c ≠ 34 → c ≠ 36 → c ≠ 48 → c ≠ 49 → c ≠ 45 → f' c i = f c i := fun c i q1 q2 q3 q4 q5 => hf c i (by omega) q2 q3 q4 (by omega)
  refine ⟨⟨⟨?_, ?_, ?_, ?_⟩, ⟨fun j hj => ?_, fun j hj => ?_⟩, fun j hj => ?_, fun i hi => ?_, e.keep fun i => F _ _ (by decide) (by decide) (by decide) (by decide) (by decide)⟩, l1.keep fun c i q => ?_, ?_, ?_, fun i hi => ?_, l5.keep fun c i q1 q2 => hg c i (by omega) (by omega) (by omega) (by omega) (by omega), l6.keep fun c i q => hg c i (by omega) (by omega) (by omega) (by omega) (by omega)⟩
  · rw [hf _ _ (by omega) (by decide) (by decide) (by decide) (by omega)]; exact a1
  · rw [hf _ _ (by omega) (by decide) (by decide) (by decide) (by omega)]; exact a2
  · rw [hf _ _ (by omega) (by decide) (by decide) (by decide) (by omega)]; exact a3
  · rw [hf _ _ (by omega) (by decide) (by decide) (by decide) (by omega)]; exact a4
  · rw [F _ _ (by decide) (by decide) (by decide) (by decide) (by decide)]; exact b1 j hj
  · rw [F _ _ (by decide) (by decide) (by decide) (by decide) (by decide)]; exact b2 j hj
  · rw [F _ _ (by decide) (by decide) (by decide) (by decide) (by decide)]; exact c j hj
  · rw [F _ _ (by decide) (by decide) (by decide) (by decide) (by decide)]; exact d i hi
  · unfold vd_inB at q
    exact hg c i (by omega) (by omega) (by omega) (by omega) (by omega)
  · rw [hg _ _ (by omega) (by decide) (by decide) (by decide) (by decide)]; exact l2
  · rw [hg _ _ (by omega) (by decide) (by decide) (by decide) (by decide)]; exact l3
  · rw [hg _ _ (by omega) (by omega) (by omega) (by omega) (by omega)]; exact l4 i hi
/-- the model of a number -/
def vd_mdl (s o t : Nat) (cc : Int) (i : Nat) : Int := 1185 + 108 * ((o : Int) + 2 * ((t : Int) + 2 * (s : Int))) + 18 * vd_bd i + 3 * cc
def vd_tt (pl : Nat) : Nat := if pl = 0 then 0 else 1
def vd_cxt (K : Nat → Nat → Nat → Int) (A : Nat → Int) (sc : Nat → Nat) (pl s x y i : Nat) : Int := if i = 0 then vd_c0 K pl x y else vd_ga A (vd_sn s) (sc i)
theorem vd_nnb (hs : s < 4) : 4 ≤ vd_sn s ∧ vd_sn s ≤ 32 ∧ vd_sn s * vd_sn s ≤ 1024 ∧ 16 ≤ vd_sn s * vd_sn s := by
  rcases vd_nn_v hs with ⟨_, e⟩ | ⟨_, e⟩ | ⟨_, e⟩ | ⟨_, e⟩ <;> rw [e] <;> decide
theorem vd_tt_b (pl : Nat) : vd_tt pl ≤ 1 := by unfold vd_tt; split <;> decide
theorem vd_cc_b {A : Nat → Int} (hA : ∀ p, 0 ≤ A p) (i : Nat) : 0 ≤ vd_cxt K A sc pl s x y i ∧ vd_cxt K A sc pl s x y i ≤ 5 := by
  unfold vd_cxt
  split
  · unfold vd_c0
    split <;> split <;> decide
  · exact vd_ga_b hA _ _
theorem vd_mm_b {cc : Int} (hs : s < 4) (ho : o < 2) {t : Nat} (ht : t ≤ 1) (c0 : 0 ≤ cc) (c1 : cc ≤ 5) (i : Nat) : 0 ≤ vd_mdl s o t cc i ∧ vd_mdl s o t cc i + 2 < 2913 := by
  have := vd_bd_b i
  unfold vd_mdl
  omega
/-- the class: place, context, model -/
theorem vd_rd1C (hM : vd_SC M ow fa lo lf) (hx : vd_NX W H O B K X pl s sg o off os x y sc f g) (hc : vd_NCt N W H O K X pl s sg o off os x y sc) {A : Nat → Int} {i : Nat} {bz : Int} (hA : ∀ p, 0 ≤ A p ∧ A p ≤ 40000) (hi : i < vd_sn s * vd_sn s) (ha : ∀ j, j < i → f 48 (sc j) = vd_I (A (sc j))) (hbz : bz = 0 ∨ bz = 1) (x1 : Int32) (a8 a9 a10 a11 a12 : Value) (d : Nat) (Q : vd_M → (Option Value ⊕ Nat) → Prop) : vd_wp (d + 2) 115 72 [.ref 45, .int x1, .int (vd_I ((vd_tt pl : Nat) : Int)), .int (vd_I (1185 + 108 * ((o : Int) + 2 * (((vd_tt pl : Nat) : Int) + 2 * (s : Int))))), .int (vd_I (off : Int)), .int (vd_I ((vd_sn s * vd_sn s : Nat) : Int)), .int (vd_I bz), .int (vd_I (i : Int)), a8, a9, a10, a11, a12] [] (vd_mf M f) Q = vd_wp (d + 2) 115 (if bz = 0 then 160 else 183) [.ref 45, .int x1, .int (vd_I ((vd_tt pl : Nat) : Int)), .int (vd_I (1185 + 108 * ((o : Int) + 2 * (((vd_tt pl : Nat) : Int) + 2 * (s : Int))))), .int (vd_I (off : Int)), .int (vd_I ((vd_sn s * vd_sn s : Nat) : Int)), .int (vd_I bz), .int (vd_I (i : Int)), .int (vd_I ((sc i : Nat) : Int)), .int (vd_I (vd_cxt K A sc pl s x y i)), .int (vd_I (vd_mdl s o (vd_tt pl) (vd_cxt K A sc pl s x y i) i)), a11, a12] [] (vd_mf M f) Q := by
  obtain ⟨⟨⟨f11, f12, f13, f14⟩, st, fq, fs, fk⟩, _⟩ := id hx
  obtain ⟨_, ⟨w1, w2⟩, ⟨hpl, hs, hsg, ho⟩, hoff, _, ⟨s1, s2, s3, s4⟩, ⟨hx1, hy1⟩, hK, _⟩ := id hc
  have nb := vd_nnb hs
  have tb := vd_tt_b pl
  have bb := vd_bd_b i
  have ccb := vd_cc_b (K := K) (sc := sc) (pl := pl) (s := s) (x := x) (y := y) (fun p => (hA p).1) i
  have hus := vd_cu_v pl
  have ub : vd_us pl * W ≤ 192 ∧ vd_us pl * H ≤ 192 := by rcases hus with ⟨e, _⟩ | ⟨e, _⟩ <;> rw [e] <;> omega
  have c1 : (i : Int) < ((vd_sn s * vd_sn s : Nat) : Int) := by omega
  have c1z : (0 : Int) < ((vd_sn s * vd_sn s : Nat) : Int) := by omega
  have e1 : ((off : Int) + (i : Int)).toNat = off + i := by omega
  have fsi := fs i hi
  have mid : vd_wp (d + 2) 115 72 [.ref 45, .int x1, .int (vd_I ((vd_tt pl : Nat) : Int)), .int (vd_I (1185 + 108 * ((o : Int) + 2 * (((vd_tt pl : Nat) : Int) + 2 * (s : Int))))), .int (vd_I (off : Int)), .int (vd_I ((vd_sn s * vd_sn s : Nat) : Int)), .int (vd_I bz), .int (vd_I (i : Int)), a8, a9, a10, a11, a12] [] (vd_mf M f) Q = vd_wp (d + 2) 115 124 [.ref 45, .int x1, .int (vd_I ((vd_tt pl : Nat) : Int)), .int (vd_I (1185 + 108 * ((o : Int) + 2 * (((vd_tt pl : Nat) : Int) + 2 * (s : Int))))), .int (vd_I (off : Int)), .int (vd_I ((vd_sn s * vd_sn s : Nat) : Int)), .int (vd_I bz), .int (vd_I (i : Int)), .int (vd_I ((sc i : Nat) : Int)), a9, a10, a11, a12] [.int (vd_I (vd_cxt K A sc pl s x y i))] (vd_mf M f) Q := by
    by_cases c0 : i = 0
    · have e : vd_cxt K A sc pl s x y i = vd_c0 K pl x y := by unfold vd_cxt; rw [if_pos c0]
      have c0' : ((i : Nat) : Int) = 0 := by omega
      have c02 : (vd_I ((i : Nat) : Int)).toInt = 0 := by rw [vd_I_toInt (by omega) (by omega)]; exact c0'
      have P := vd_P117 hM fk hK hpl (x := x) (y := y) (by omega) (by omega)
      rw [e, vd_S115_72 hM]
      simp (disch := omega) only [vd_S115_79 hM, vd_S115_88 hM, vd_S115_96 hM, vd_S115_112 hM, vd_S115_115 hM, f11, f12, f13, P, vd_I_add, e1, fsi, c02, vd_I_toInt, c1, c1z, eq_self, if_true, vd_rs_v, vd_rs_n]
    · have e : vd_cxt K A sc pl s x y i = vd_ga A (vd_sn s) (sc i) := by unfold vd_cxt; rw [if_neg c0]
      have c02 : ¬ (((i : Nat) : Int) = 0) := by omega
      have sp : 0 < sc i := Nat.pos_of_ne_zero fun q => c0 (s2 i 0 hi (by omega) (by rw [q, s3]))
      have s4i := s4 i (by omega) hi
      have P := vd_P119 hM st hs f14 (A := A) sp (s1 i hi) hA (fun q => by obtain ⟨j, j1, j2⟩ := s4i.1 q; rw [← j2]; exact ha j j1) (fun q => by obtain ⟨j, j1, j2⟩ := s4i.2 q; rw [← j2]; exact ha j j1)
      rw [e, vd_S115_72 hM]
      simp (disch := omega) only [vd_S115_79 hM, vd_S115_88 hM, vd_S115_118 hM, vd_S115_121 hM, P, vd_I_add, e1, fsi, c02, vd_I_toInt, c1, if_true, if_false, vd_rs_v, vd_rs_n]
  rw [mid]
  generalize vd_cxt K A sc pl s x y i = cc at *
  have em : 1185 + 108 * ((o : Int) + 2 * (((vd_tt pl : Nat) : Int) + 2 * (s : Int))) + 18 * vd_bd i + 3 * cc = vd_mdl s o (vd_tt pl) cc i := rfl
  have mb := vd_mm_b hs ho tb ccb.1 ccb.2 i
  by_cases c20 : 20 < i
  · have c20' : (20 : Int) < (i : Int) := by omega
    have eb : vd_bd i = 5 := by unfold vd_bd; rw [if_neg (by omega), if_neg (by omega), if_neg (by omega), if_neg (by omega), if_neg (by omega)]
    rw [eb] at em
    rcases hbz with c | c
    · subst c
      simp (disch := omega) only [vd_S115_124 hM, vd_S115_136 hM, vd_S115_146 hM, vd_I_toInt, c20', eq_self, if_true, vd_I_mul, vd_I_add, em]
    · subst c
      simp (disch := omega) only [vd_S115_124 hM, vd_S115_136 hM, vd_S115_146 hM, vd_I_toInt, c20', show ¬ ((1 : Int) = 0) by decide, if_true, if_false, vd_I_mul, vd_I_add, em]
  · have c20' : ¬ ((20 : Int) < (i : Int)) := by omega
    have fb := st.1 i (by omega)
    rcases hbz with c | c
    · subst c
      simp (disch := omega) only [vd_S115_124 hM, vd_S115_140 hM, vd_S115_145 hM, vd_S115_146 hM, vd_I_toInt, c20', eq_self, if_true, if_false, Int.toNat_natCast, fb, vd_I_mul, vd_I_add, em]
    · subst c
      simp (disch := omega) only [vd_S115_124 hM, vd_S115_140 hM, vd_S115_145 hM, vd_S115_146 hM, vd_I_toInt, c20', show ¬ ((1 : Int) = 0) by decide, if_false, Int.toNat_natCast, fb, vd_I_mul, vd_I_add, em]
/-- the reference's -/
theorem vd_rd1R (hN : vd_SR N) (hx : vd_NX W H O B K X pl s sg o off os x y sc f g) (hc : vd_NCt N W H O K X pl s sg o off os x y sc) {A : Nat → Int} {i : Nat} {bz : Int} (hA : ∀ p, 0 ≤ A p ∧ A p ≤ 40000) (hi : i < vd_sn s * vd_sn s) (ha : ∀ p, p < vd_sn s * vd_sn s → g 124 p = vd_I (A p)) (hbz : bz = 0 ∨ bz = 1) (x6 : Int32) (a11 a12 a13 a14 : Value) (d : Nat) (Q : vd_M → (Option Value ⊕ Nat) → Prop) : vd_wp (d + 2) 239 147 [.ref 63, .int (vd_I (pl : Int)), .int (vd_I (x : Int)), .int (vd_I (y : Int)), .int (vd_I (s : Int)), .int (vd_I ((vd_sn s : Nat) : Int)), .int x6, .ref os, .int (vd_I ((vd_tt pl : Nat) : Int)), .int (vd_I bz), .int (vd_I (i : Int)), a11, a12, a13, a14] [] (vd_mf N g) Q = vd_wp (d + 2) 239 (if bz = 0 then 259 else 279) [.ref 63, .int (vd_I (pl : Int)), .int (vd_I (x : Int)), .int (vd_I (y : Int)), .int (vd_I (s : Int)), .int (vd_I ((vd_sn s : Nat) : Int)), .int x6, .ref os, .int (vd_I ((vd_tt pl : Nat) : Int)), .int (vd_I bz), .int (vd_I (i : Int)), .int (vd_I ((sc i : Nat) : Int)), .int (vd_I (vd_cxt K A sc pl s x y i)), .int (vd_I (vd_mdl s o (vd_tt pl) (vd_cxt K A sc pl s x y i) i)), a14] [] (vd_mf N g) Q := by
  obtain ⟨_, gB, g103, g111, gs, gk, gG⟩ := id hx
  obtain ⟨_, ⟨w1, w2⟩, ⟨hpl, hs, hsg, ho⟩, hoff, ⟨os1, os2, osk, osl⟩, ⟨s1, s2, s3, s4⟩, ⟨hx1, hy1⟩, hK, hV⟩ := id hc
  have nb := vd_nnb hs
  have tb := vd_tt_b pl
  have bb := vd_bd_b i
  have ccb := vd_cc_b (K := K) (sc := sc) (pl := pl) (s := s) (x := x) (y := y) (fun p => (hA p).1) i
  have hus := vd_cu_v pl
  have ub : vd_us pl * W ≤ 192 ∧ vd_us pl * H ≤ 192 := by rcases hus with ⟨e, _⟩ | ⟨e, _⟩ <;> rw [e] <;> omega
  have c1 : (i : Int) < ((vd_sn s * vd_sn s : Nat) : Int) := by omega
  have c1z : (0 : Int) < ((vd_sn s * vd_sn s : Nat) : Int) := by omega
  have en : ((vd_sn s : Nat) : Int) * ((vd_sn s : Nat) : Int) = ((vd_sn s * vd_sn s : Nat) : Int) := (Int.natCast_mul _ _).symm
  have gsi := gs i hi
  have si := s1 i hi
  have mid : vd_wp (d + 2) 239 147 [.ref 63, .int (vd_I (pl : Int)), .int (vd_I (x : Int)), .int (vd_I (y : Int)), .int (vd_I (s : Int)), .int (vd_I ((vd_sn s : Nat) : Int)), .int x6, .ref os, .int (vd_I ((vd_tt pl : Nat) : Int)), .int (vd_I bz), .int (vd_I (i : Int)), a11, a12, a13, a14] [] (vd_mf N g) Q = vd_wp (d + 2) 239 207 [.ref 63, .int (vd_I (pl : Int)), .int (vd_I (x : Int)), .int (vd_I (y : Int)), .int (vd_I (s : Int)), .int (vd_I ((vd_sn s : Nat) : Int)), .int x6, .ref os, .int (vd_I ((vd_tt pl : Nat) : Int)), .int (vd_I bz), .int (vd_I (i : Int)), .int (vd_I ((sc i : Nat) : Int)), a12, a13, a14] [.int (vd_I (vd_cxt K A sc pl s x y i))] (vd_mf N g) Q := by
    by_cases c0 : i = 0
    · have e : vd_cxt K A sc pl s x y i = vd_c0 K pl x y := by unfold vd_cxt; rw [if_pos c0]
      have c02 : (vd_I ((i : Nat) : Int)).toInt = 0 := by rw [vd_I_toInt (by omega) (by omega)]; omega
      have PA := vd_P240 (g := g) hN gG w1 w2 gk hV hpl (x := (x : Int)) (y := (y : Int) - 1) (by omega) (by omega) (by omega) (by omega)
      have PB := vd_P240 (g := g) hN gG w1 w2 gk hV hpl (x := (x : Int) - 1) (y := (y : Int)) (by omega) (by omega) (by omega) (by omega)
      have e0 : (if vd_mk K pl (x : Int) ((y : Int) - 1) = 2 then (1 : Int) else 0) + (if vd_mk K pl ((x : Int) - 1) (y : Int) = 2 then (1 : Int) else 0) = vd_c0 K pl x y := rfl
      rw [e, ← e0, vd_S239_147 hN]
      generalize (if vd_mk K pl (x : Int) ((y : Int) - 1) = 2 then (1 : Int) else 0) = va at *
      generalize (if vd_mk K pl ((x : Int) - 1) (y : Int) = 2 then (1 : Int) else 0) = vb at *
      simp (disch := first | assumption | omega) only [vd_S239_157 hN, vd_S239_161 hN, vd_S239_169 hN, vd_S239_175 hN, vd_S239_178 hN, vd_S239_184 hN, vd_S239_187 hN, PA, PB, vd_I_mul, en, vd_I_sub, vd_I_add, Int.toNat_natCast, gsi, c02, vd_I_toInt, c1, c1z, eq_self, if_true, vd_rs_v, vd_rs_n]
    · have e : vd_cxt K A sc pl s x y i = vd_ga A (vd_sn s) (sc i) := by unfold vd_cxt; rw [if_neg c0]
      have c02 : ¬ (((i : Nat) : Int) = 0) := by omega
      have sp : 0 < sc i := Nat.pos_of_ne_zero fun q => c0 (s2 i 0 hi (by omega) (by rw [q, s3]))
      have P := vd_P241 (g := g) hN (n := vd_sn s) (A := A) ⟨nb.1, nb.2.1⟩ sp si hA ha
      have er : vd_I ((sc i : Nat) : Int) - vd_I ((sc i : Nat) : Int) / vd_I ((vd_sn s : Nat) : Int) * vd_I ((vd_sn s : Nat) : Int) = vd_I ((sc i % vd_sn s : Nat) : Int) := by
        rw [vd_I_rem (by omega) (by omega) (by omega) (by omega), Int.natCast_emod]
      have ed : vd_I ((sc i : Nat) : Int) / vd_I ((vd_sn s : Nat) : Int) = vd_I ((sc i / vd_sn s : Nat) : Int) := by
        rw [vd_I_div (by omega) (by omega) (by omega) (by omega), Int.natCast_ediv]
      have er' := er
      rw [ed, vd_I_mul] at er'
      rw [e, vd_S239_147 hN]
      simp (disch := first | assumption | omega) only [vd_S239_157 hN, vd_S239_161 hN, vd_S239_191 hN, vd_S239_196 hN, vd_S239_201 hN, vd_S239_204 hN, er', ed, P, vd_I_mul, en, Int.toNat_natCast, gsi, c02, vd_I_toInt, c1, if_true, if_false, vd_rs_v, vd_rs_n]
  rw [mid]
  generalize vd_cxt K A sc pl s x y i = cc at *
  have P243 := vd_P243 (g := g) hN (i := i) (by omega)
  have mb := vd_mm_b hs ho tb ccb.1 ccb.2 i
  have o01 : o = 0 ∨ o = 1 := by omega
  have em : ∀ oo : Int, oo = (o : Int) → 1185 + 3 * (cc + 6 * (vd_bd i + 6 * (oo + 2 * (((vd_tt pl : Nat) : Int) + 2 * (s : Int))))) = vd_mdl s o (vd_tt pl) cc i := fun oo e => by
    subst e
    unfold vd_mdl
    omega
  have z0 : ((0 : Nat) : Int) = 0 := rfl
  have z1 : ((1 : Nat) : Int) = 1 := rfl
  rcases o01 with co | co
  · have em0 := em 0 (by omega)
    have g111' : g 63 111 = vd_I 0 := by rw [g111, co]; rfl
    rcases hbz with c | c
    · subst c
      simp (disch := omega) only [vd_S239_207 hN, vd_S239_219 hN, vd_S239_222 hN, vd_S239_235 hN, vd_S239_236 hN, P243, g111', vd_I_toInt, eq_self, if_true, vd_I_mul, vd_I_add, em0, vd_rs_v, vd_rs_n]
    · subst c
      simp (disch := omega) only [vd_S239_207 hN, vd_S239_219 hN, vd_S239_222 hN, vd_S239_235 hN, vd_S239_236 hN, P243, g111', vd_I_toInt, show ¬ ((1 : Int) = 0) by decide, eq_self, if_true, if_false, vd_I_mul, vd_I_add, em0, vd_rs_v, vd_rs_n]
  · have em0 := em 1 (by omega)
    have g111' : g 63 111 = vd_I 1 := by rw [g111, co]; rfl
    rcases hbz with c | c
    · subst c
      simp (disch := omega) only [vd_S239_207 hN, vd_S239_219 hN, vd_S239_222 hN, vd_S239_231 hN, vd_S239_236 hN, P243, g111', vd_I_toInt, show ¬ ((1 : Int) = 0) by decide, eq_self, if_true, if_false, vd_I_mul, vd_I_add, em0, vd_rs_v, vd_rs_n]
    · subst c
      simp (disch := omega) only [vd_S239_207 hN, vd_S239_219 hN, vd_S239_222 hN, vd_S239_231 hN, vd_S239_236 hN, P243, g111', vd_I_toInt, show ¬ ((1 : Int) = 0) by decide, if_false, vd_I_mul, vd_I_add, em0, vd_rs_v, vd_rs_n]
end VDRD
