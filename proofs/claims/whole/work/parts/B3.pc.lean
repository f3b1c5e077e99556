/-! ===== the class predicts a block from others ===== -/
def vd_cu (pl : Nat) : Nat := if pl = 0 then 2 else 1
theorem vd_cu_v (pl : Nat) : (vd_us pl = 8 ∧ vd_cu pl = 2 ∧ vd_sd pl = 192) ∨ (vd_us pl = 4 ∧ vd_cu pl = 1 ∧ vd_sd pl = 96) := by
  unfold vd_us vd_cu vd_sd
  split
  · exact Or.inl ⟨rfl, rfl, rfl⟩
  · exact Or.inr ⟨rfl, rfl, rfl⟩
/-- the pictures that the class predicts from -/
def vd_RpA (M : vd_M) (s : Nat) (pw ph : Int) (R : Nat → Nat → Nat → Nat → Int) (f : Nat → Nat → Int32) : Prop := ∀ r, r < 3 → ∃ pr sr, (vd_r M 55 r = some pr ∧ vd_PC M pr sr ∧ sr ≠ s) ∧ (f pr 0 = vd_I pw ∧ f pr 1 = vd_I ph) ∧ ∀ pl a b : Nat, pl < 3 → (a : Int) < vd_pd pl pw → (b : Int) < vd_pd pl ph → f sr (vd_ax pl a b) = vd_I (R r pl a b)
theorem vd_RpA.keep {M : vd_M} {s p : Nat} {pw ph : Int} {R : Nat → Nat → Nat → Nat → Int} {f f' : Nat → Nat → Int32} (hp : vd_PC M p s) (k : vd_RpA M s pw ph R f) (h : ∀ c i, 197 ≤ c → c ≠ s → f' c i = f c i) : vd_RpA M s pw ph R f' := fun r hr => by
  obtain ⟨pr, sr, ⟨a1, a2, a3⟩, ⟨b1, b2⟩, c⟩ := k r hr
  have ne : pr ≠ s := fun e => by
    have h1 := a2.1.1
    have h2 := hp.2.1.1
    rw [e] at h1
    omega
  refine ⟨pr, sr, ⟨a1, a2, a3⟩, ⟨?_, ?_⟩, fun pl a b hp' ha hb => ?_⟩
  · rw [h _ _ a2.2.2.1 ne]; exact b1
  · rw [h _ _ a2.2.2.1 ne]; exact b2
  · rw [h _ _ a2.2.2.2.1 a3]; exact c pl a b hp' ha hb
section VDPC
variable {M : vd_M} {ow fa lo lf : Nat} {p s pl : Nat} {pw ph : Int}
theorem vd_T104 (hM : vd_SC M ow fa lo lf) (hp : vd_PC M p s) {R : Nat → Nat → Nat → Nat → Int} {b : Nat → Int} {nb x y w h : Nat} {f : Nat → Nat → Int32} (hpl : pl < 3) (hnb : nb < 576) (hf : ∀ q, q < 18 → f fa (18 * nb + q) = vd_I (b q)) (bb : vd_bb b x y w h) (ib : vd_IB b) (hx : x + w ≤ 24) (hy : y + h ≤ 24) (hT : vd_TB f) (hR : vd_RpA M s pw ph R f) (hRb : ∀ r pl a b, 0 ≤ R r pl a b ∧ R r pl a b ≤ 255) (p0 : 1 ≤ pw ∧ pw ≤ 192) (q0 : 1 ≤ ph ∧ ph ≤ 192) (a5 : Value) : ∃ (f' : Nat → Nat → Int32), (∀ d Q, vd_wp (d + 3) 104 11 [.ref 54, .ref p, .int (vd_I (18 * (nb : Int))), .ref fa, .int (vd_I (pl : Int)), a5] [] (vd_mf M f) Q = vd_wp (d + 3) 104 11 [.ref 54, .ref p, .int (vd_I (18 * (nb : Int))), .ref fa, .int (vd_I ((pl + 1 : Nat) : Int)), .int (vd_I ((vd_us pl : Nat) : Int))] [] (vd_mf M f') Q) ∧ (∀ i j, i < vd_us pl * w → j < vd_us pl * h → f' s (vd_ax pl (vd_us pl * x + i) (vd_us pl * y + j)) = vd_I (vd_vv R pw ph b pl (vd_us pl * x + i) (vd_us pl * y + j))) ∧ (∀ i j, vd_cu pl * x ≤ i → i < vd_cu pl * x + vd_cu pl * w → vd_cu pl * y ≤ j → j < vd_cu pl * y + vd_cu pl * h → f' 43 (2304 * pl + 48 * j + i) = vd_I 1) ∧ (∀ c q, ¬ (c = 54 ∧ 8 ≤ q) → c ≠ 58 → c ≠ 59 → (c = s → ∀ i j, i < vd_us pl * w → j < vd_us pl * h → q ≠ vd_ax pl (vd_us pl * x + i) (vd_us pl * y + j)) → (c = 43 → ∀ i j, vd_cu pl * x ≤ i → i < vd_cu pl * x + vd_cu pl * w → vd_cu pl * y ≤ j → j < vd_cu pl * y + vd_cu pl * h → q ≠ 2304 * pl + 48 * j + i) → f' c q = f c q) := by
  have hpar := vd_par4 hM
  obtain ⟨⟨hk7, hrs⟩, ⟨hks, hls⟩, hp1, hp2, hp3⟩ := id hp
  obtain ⟨⟨b0, b1, b2, b3⟩, ⟨x24, y24, w8, h8⟩, _, _⟩ := id bb
  obtain ⟨⟨b90, b91⟩, b10, bv, b160, b161⟩ := id ib
  have v12 := bv 12 (by decide) (by decide)
  have v13 := bv 13 (by decide) (by decide)
  have v14 := bv 14 (by decide) (by decide)
  have v15 := bv 15 (by decide) (by decide)
  have pdw : 0 ≤ vd_pd pl pw := by unfold vd_pd; split <;> omega
  have pdh : 0 ≤ vd_pd pl ph := by unfold vd_pd; split <;> omega
  have hus := vd_cu_v pl
  have f0 : f fa (18 * nb) = vd_I (x : Int) := by have := hf 0 (by decide); rw [b0] at this; exact this
  have f1 : f fa (18 * nb + 1) = vd_I (y : Int) := by have := hf 1 (by decide); rw [b1] at this; exact this
  have f2 : f fa (18 * nb + 2) = vd_I (w : Int) := by have := hf 2 (by decide); rw [b2] at this; exact this
  have f3 : f fa (18 * nb + 3) = vd_I (h : Int) := by have := hf 3 (by decide); rw [b3] at this; exact this
  have f9 := hf 9 (by decide)
  have f10 := hf 10 (by decide)
  have f16 := hf 16 (by decide)
  have n0 : (18 * (nb : Int) + 0).toNat = 18 * nb := by omega
  have n1 : (18 * (nb : Int) + 1).toNat = 18 * nb + 1 := by omega
  have n2 : (18 * (nb : Int) + 2).toNat = 18 * nb + 2 := by omega
  have n3 : (18 * (nb : Int) + 3).toNat = 18 * nb + 3 := by omega
  have n9 : (18 * (nb : Int) + 9).toNat = 18 * nb + 9 := by omega
  have n10 : (18 * (nb : Int) + 10).toNat = 18 * nb + 10 := by omega
  have n16 : (18 * (nb : Int) + 16).toNat = 18 * nb + 16 := by omega
  have hux : vd_us pl * x + vd_us pl * w ≤ vd_sd pl ∧ vd_us pl * y + vd_us pl * h ≤ vd_sd pl ∧ vd_us pl * w ≤ 64 ∧ vd_us pl * h ≤ 64 := by
    rcases hus with ⟨e, _, e2⟩ | ⟨e, _, e2⟩ <;> rw [e, e2] <;> omega
  -- the plane is set
  generalize hf1 : vd_up (vd_up (vd_up (vd_up (vd_up f 54 8 (vd_I (pl : Int))) 54 9 (vd_I ((vd_us pl * x : Nat) : Int))) 54 10 (vd_I ((vd_us pl * y : Nat) : Int))) 54 11 (vd_I ((vd_us pl * w : Nat) : Int))) 54 12 (vd_I ((vd_us pl * h : Nat) : Int)) = fa1
  have F1 : ∀ c q, ¬ (c = 54 ∧ 8 ≤ q) → fa1 c q = f c q := fun c q a => by rw [← hf1, vd_up_ne (by omega), vd_up_ne (by omega), vd_up_ne (by omega), vd_up_ne (by omega), vd_up_ne (by omega)]
  have P1 : fa1 54 8 = vd_I (pl : Int) ∧ fa1 54 9 = vd_I ((vd_us pl * x : Nat) : Int) ∧ fa1 54 10 = vd_I ((vd_us pl * y : Nat) : Int) ∧ fa1 54 11 = vd_I ((vd_us pl * w : Nat) : Int) ∧ fa1 54 12 = vd_I ((vd_us pl * h : Nat) : Int) := by
    rw [← hf1]
    exact ⟨by rw [vd_up_ne (by omega), vd_up_ne (by omega), vd_up_ne (by omega), vd_up_ne (by omega), vd_up_eq], by rw [vd_up_ne (by omega), vd_up_ne (by omega), vd_up_ne (by omega), vd_up_eq], by rw [vd_up_ne (by omega), vd_up_ne (by omega), vd_up_eq], by rw [vd_up_ne (by omega), vd_up_eq], by rw [vd_up_eq]⟩
  have ux : ((vd_us pl : Nat) : Int) * (x : Int) = ((vd_us pl * x : Nat) : Int) := (Int.natCast_mul _ _).symm
  have uy : ((vd_us pl : Nat) : Int) * (y : Int) = ((vd_us pl * y : Nat) : Int) := (Int.natCast_mul _ _).symm
  have uw : ((vd_us pl : Nat) : Int) * (w : Int) = ((vd_us pl * w : Nat) : Int) := (Int.natCast_mul _ _).symm
  have uh : ((vd_us pl : Nat) : Int) * (h : Int) = ((vd_us pl * h : Nat) : Int) := (Int.natCast_mul _ _).symm
  have up54 : ∀ (f : Nat → Nat → Int32) (i : Nat) (v : Int32) (k : Nat), vd_up f 54 i v fa k = f fa k := fun f i v k => vd_up_ne (by omega)
  have start : ∀ d Q, vd_wp (d + 3) 104 11 [.ref 54, .ref p, .int (vd_I (18 * (nb : Int))), .ref fa, .int (vd_I (pl : Int)), a5] [] (vd_mf M f) Q = vd_wp (d + 3) 104 91 [.ref 54, .ref p, .int (vd_I (18 * (nb : Int))), .ref fa, .int (vd_I (pl : Int)), .int (vd_I ((vd_us pl : Nat) : Int))] [.int (vd_I (18 * (nb : Int) + 9)), .ref fa, .ref p, .ref 54] (vd_mf M fa1) Q := fun d Q => by
    have c3 : (pl : Int) < 3 := by omega
    by_cases c : pl = 0
    · have e8 : ((vd_us pl : Nat) : Int) = 8 := by unfold vd_us; rw [if_pos c]; rfl
      have c' : ((pl : Nat) : Int) = 0 := by omega
      rw [e8] at ux uy uw uh
      rw [e8, ← hf1, vd_S104_11 hM]
      simp (disch := first | assumption | omega) only [vd_S104_17 hM, vd_S104_22 hM, vd_S104_28 hM, vd_S104_43 hM, vd_S104_55 hM, vd_S104_67 hM, vd_S104_79 hM, vd_I_toInt, c3, c', eq_self, if_true, vd_I_add, vd_I_mul, n0, n1, n2, n3, up54, f0, f1, f2, f3, ux, uy, uw, uh, show (0 : Int) < 3 by decide]
    · have e8 : ((vd_us pl : Nat) : Int) = 4 := by unfold vd_us; rw [if_neg c]; rfl
      have c' : ¬ (((pl : Nat) : Int) = 0) := by omega
      rw [e8] at ux uy uw uh
      rw [e8, ← hf1, vd_S104_11 hM]
      simp (disch := first | assumption | omega) only [vd_S104_17 hM, vd_S104_27 hM, vd_S104_28 hM, vd_S104_43 hM, vd_S104_55 hM, vd_S104_67 hM, vd_S104_79 hM, vd_I_toInt, c3, c', if_true, if_false, vd_I_add, vd_I_mul, n0, n1, n2, n3, up54, f0, f1, f2, f3, ux, uy, uw, uh]
  -- the first picture
  obtain ⟨pr, sr, ⟨r1, r2, r3⟩, ⟨r4, r5⟩, r6⟩ := hR (b 9).toNat (by omega)
  have e9 : (((b 9).toNat : Nat) : Int) = b 9 := Int.toNat_of_nonneg b90
  have e16 : (((b 16).toNat : Nat) : Int) = b 16 := Int.toNat_of_nonneg b160
  have pr197 := r2.2.2.1
  have sr197 := r2.2.2.2.1
  have T1 : vd_TB fa1 := fun k t i a b c => by rw [F1 _ _ (by omega)]; exact hT k t i a b c
  obtain ⟨fb, s1, s2, s3⟩ := vd_P105 (pl := pl) (f := fa1) (P := R (b 9).toNat pl) (Ov := fun _ _ => 0) (wd := (vd_pd pl pw).toNat) (hd := (vd_pd pl ph).toNat) (kern := (b 16).toNat) (vi := 18 * nb + 12) (r := (b 9).toNat) (dx := b 12) (dy := b 13) (mix := 0) hM hp r2 r1 (by omega) hpl hux.2.2.1 hux.2.2.2 hux.1 hux.2.1 (by rw [F1 _ _ (by omega)]; exact r4) p0 (by rw [F1 _ _ (by omega)]; exact r5) q0 (Int.toNat_of_nonneg pdw) (Int.toNat_of_nonneg pdh) (fun a c => hRb _ _ _ _) (fun a c ha hc => by rw [F1 _ _ (by omega)]; exact r6 pl a c hpl (by omega) (by omega)) T1 (by omega) (by omega) (by rw [F1 _ _ (by omega)]; exact hf 12 (by decide)) (by rw [F1 _ _ (by omega)]; exact hf 13 (by decide)) v12 v13 (Or.inl rfl) (fun _ _ => ⟨Int.le_refl 0, by decide⟩) (fun _ _ e => absurd e (by decide)) P1
  have ev12 : ((18 * nb + 12 : Nat) : Int) = 18 * (nb : Int) + 12 := by omega
  rw [ev12, e9, e16] at s1
  have S2 : ∀ i j, i < vd_us pl * w → j < vd_us pl * h → fb s (vd_ax pl (vd_us pl * x + i) (vd_us pl * y + j)) = vd_I (vd_mq R pw ph b pl (b 9).toNat (b 12) (b 13) (vd_us pl * x + i) (vd_us pl * y + j)) := fun i j hi hj => s2 i j hi hj
  have NE : ∀ c q, c ≠ 58 → c ≠ 59 → c ≠ s → fb c q = fa1 c q := fun c q a1 a2 a3 => s3 c q a1 a2 (fun e => absurd e a3)
  have Pb : fb 54 8 = vd_I (pl : Int) ∧ fb 54 9 = vd_I ((vd_us pl * x : Nat) : Int) ∧ fb 54 10 = vd_I ((vd_us pl * y : Nat) : Int) ∧ fb 54 11 = vd_I ((vd_us pl * w : Nat) : Int) ∧ fb 54 12 = vd_I ((vd_us pl * h : Nat) : Int) := by
    rw [NE _ _ (by omega) (by omega) (by omega), NE _ _ (by omega) (by omega) (by omega), NE _ _ (by omega) (by omega) (by omega), NE _ _ (by omega) (by omega) (by omega), NE _ _ (by omega) (by omega) (by omega)]
    exact P1
  have B10 : fb fa (18 * nb + 10) = vd_I (b 10) := by rw [NE _ _ (by omega) (by omega) (by omega), F1 _ _ (by omega)]; exact f10
  have B16 : fb fa (18 * nb + 16) = vd_I (b 16) := by rw [NE _ _ (by omega) (by omega) (by omega), F1 _ _ (by omega)]; exact f16
  have A9 : fa1 fa (18 * nb + 9) = vd_I (b 9) := by rw [F1 _ _ (by omega)]; exact f9
  have A16 : fa1 fa (18 * nb + 16) = vd_I (b 16) := by rw [F1 _ _ (by omega)]; exact f16
  have mid : ∀ d Q, vd_wp (d + 3) 104 11 [.ref 54, .ref p, .int (vd_I (18 * (nb : Int))), .ref fa, .int (vd_I (pl : Int)), a5] [] (vd_mf M f) Q = vd_wp (d + 3) 104 106 [.ref 54, .ref p, .int (vd_I (18 * (nb : Int))), .ref fa, .int (vd_I (pl : Int)), .int (vd_I ((vd_us pl : Nat) : Int))] [] (vd_mf M fb) Q := fun d Q => by
    rw [start]
    simp (disch := first | assumption | omega) only [vd_S104_91 hM, vd_S104_101 hM, vd_S104_103 hM, vd_I_add, n9, n16, A9, A16, s1, vd_rs_v, vd_rs_n]
  -- the second picture, if there is one; then the marks
  have fin : ∃ (fc : Nat → Nat → Int32), (∀ d Q, vd_wp (d + 3) 104 106 [.ref 54, .ref p, .int (vd_I (18 * (nb : Int))), .ref fa, .int (vd_I (pl : Int)), .int (vd_I ((vd_us pl : Nat) : Int))] [] (vd_mf M fb) Q = vd_wp (d + 3) 104 139 [.ref 54, .ref p, .int (vd_I (18 * (nb : Int))), .ref fa, .int (vd_I (pl : Int)), .int (vd_I ((vd_us pl : Nat) : Int))] [] (vd_mf M fc) Q) ∧ (∀ i j, i < vd_us pl * w → j < vd_us pl * h → fc s (vd_ax pl (vd_us pl * x + i) (vd_us pl * y + j)) = vd_I (vd_vv R pw ph b pl (vd_us pl * x + i) (vd_us pl * y + j))) ∧ (∀ c q, c ≠ 58 → c ≠ 59 → (c = s → ∀ i j, i < vd_us pl * w → j < vd_us pl * h → q ≠ vd_ax pl (vd_us pl * x + i) (vd_us pl * y + j)) → fc c q = fa1 c q) := by
    rcases b10 with c10 | c10
    · have c10' : b 10 < 0 := by omega
      refine ⟨fb, fun d Q => ?_, fun i j hi hj => ?_, s3⟩
      · simp (disch := first | assumption | omega) only [vd_S104_106 hM, vd_S104_111 hM, vd_I_add, n10, B10, vd_I_toInt, c10', if_true]
      · unfold vd_vv
        rw [if_pos c10']
        exact S2 i j hi hj
    · have c10' : ¬ (b 10 < 0) := by omega
      obtain ⟨pr2, sr2, ⟨t1, t2, t3⟩, ⟨t4, t5⟩, t6⟩ := hR (b 10).toNat (by omega)
      have e10 : (((b 10).toNat : Nat) : Int) = b 10 := Int.toNat_of_nonneg (by omega)
      have p2a := t2.2.2.1
      have p2b := t2.2.2.2.1
      have nps : pr2 ≠ s := fun e => by
        have h1 := t2.1.1
        rw [e] at h1
        omega
      obtain ⟨fc, u1, u2, u3⟩ := vd_P105 (pl := pl) (f := fb) (P := R (b 10).toNat pl) (Ov := fun i j => vd_mq R pw ph b pl (b 9).toNat (b 12) (b 13) (vd_us pl * x + i) (vd_us pl * y + j)) (wd := (vd_pd pl pw).toNat) (hd := (vd_pd pl ph).toNat) (kern := (b 16).toNat) (vi := 18 * nb + 14) (r := (b 10).toNat) (dx := b 14) (dy := b 15) (mix := 1) hM hp t2 t1 (by omega) hpl hux.2.2.1 hux.2.2.2 hux.1 hux.2.1 (by rw [NE _ _ (by omega) (by omega) nps, F1 _ _ (by omega)]; exact t4) p0 (by rw [NE _ _ (by omega) (by omega) nps, F1 _ _ (by omega)]; exact t5) q0 (Int.toNat_of_nonneg pdw) (Int.toNat_of_nonneg pdh) (fun a c => hRb _ _ _ _) (fun a c ha hc => by rw [NE _ _ (by omega) (by omega) t3, F1 _ _ (by omega)]; exact t6 pl a c hpl (by omega) (by omega)) (fun k t i a b c => by rw [NE _ _ (by omega) (by omega) (by omega)]; exact T1 k t i a b c) (by omega) (by omega) (by rw [NE _ _ (by omega) (by omega) (by omega), F1 _ _ (by omega)]; exact hf 14 (by decide)) (by rw [NE _ _ (by omega) (by omega) (by omega), F1 _ _ (by omega)]; exact hf 15 (by decide)) v14 v15 (Or.inr rfl) (fun i j => vd_mq_b _ _ _ _ _ _ _ _ _ _) (fun i j _ hi hj => S2 i j hi hj) Pb
      have ev14 : ((18 * nb + 14 : Nat) : Int) = 18 * (nb : Int) + 12 + 2 := by omega
      rw [ev14, e10, e16] at u1
      refine ⟨fc, fun d Q => ?_, fun i j hi hj => ?_, fun c q a1 a2 a3 => by rw [u3 c q a1 a2 a3, s3 c q a1 a2 a3]⟩
      · simp (disch := first | assumption | omega) only [vd_S104_106 hM, vd_S104_111 hM, vd_S104_115 hM, vd_S104_122 hM, vd_S104_134 hM, vd_S104_136 hM, vd_I_add, n10, n16, B10, B16, vd_I_toInt, c10', if_false, u1, vd_rs_v, vd_rs_n]
      · rw [u2 i j hi hj]
        unfold vd_vv
        rw [if_neg c10']
        rfl
  obtain ⟨fc, m1, m2, m3⟩ := fin
  have Pc : fc 54 9 = vd_I ((vd_us pl * x : Nat) : Int) ∧ fc 54 10 = vd_I ((vd_us pl * y : Nat) : Int) ∧ fc 54 11 = vd_I ((vd_us pl * w : Nat) : Int) ∧ fc 54 12 = vd_I ((vd_us pl * h : Nat) : Int) := by
    have ne : ∀ q, fc 54 q = fa1 54 q := fun q => m3 54 q (by decide) (by decide) (fun e => absurd e (by omega))
    rw [ne, ne, ne, ne]
    exact P1.2
  obtain ⟨c9, c10, c11, c12⟩ := Pc
  have x4 : ((vd_us pl * x : Nat) : Int) = 4 * ((vd_cu pl * x : Nat) : Int) := by rcases hus with ⟨e, e2, _⟩ | ⟨e, e2, _⟩ <;> rw [e, e2] <;> omega
  have y4 : ((vd_us pl * y : Nat) : Int) = 4 * ((vd_cu pl * y : Nat) : Int) := by rcases hus with ⟨e, e2, _⟩ | ⟨e, e2, _⟩ <;> rw [e, e2] <;> omega
  have w4 : ((vd_us pl * w : Nat) : Int) = 4 * ((vd_cu pl * w : Nat) : Int) := by rcases hus with ⟨e, e2, _⟩ | ⟨e, e2, _⟩ <;> rw [e, e2] <;> omega
  have h4 : ((vd_us pl * h : Nat) : Int) = 4 * ((vd_cu pl * h : Nat) : Int) := by rcases hus with ⟨e, e2, _⟩ | ⟨e, e2, _⟩ <;> rw [e, e2] <;> omega
  have cx : vd_cu pl * x + vd_cu pl * w ≤ 48 ∧ vd_cu pl * y + vd_cu pl * h ≤ 48 := by rcases hus with ⟨_, e2, _⟩ | ⟨_, e2, _⟩ <;> rw [e2] <;> omega
  obtain ⟨fd, o1, o2, o3⟩ := vd_P111 (pl := pl) (cx := vd_cu pl * x) (cy := vd_cu pl * y) (cw := vd_cu pl * w) (ch := vd_cu pl * h) (nm := 0) (f := fc) hM hpl cx.1 cx.2 (Or.inl rfl)
  rw [← x4, ← y4, ← w4, ← h4] at o1
  have e1 : (pl : Int) + 1 = ((pl + 1 : Nat) : Int) := by omega
  refine ⟨fd, fun d Q => ?_, fun i j hi hj => ?_, fun i j a1 a2 a3 a4 => o2 i j a1 a2 a3 a4, fun c q a1 a2 a3 a4 a5 => ?_⟩
  · rw [mid, m1]
    simp (disch := first | assumption | omega) only [vd_S104_139 hM, vd_S104_162 hM, vd_S104_165 hM, c9, c10, c11, c12, o1, vd_I_add, e1, vd_rs_v, vd_rs_n]
  · rw [o3 _ _ (fun e => by omega)]
    exact m2 i j hi hj
  · rw [o3 c q a5, m3 c q a2 a3 a4, F1 c q a1]
end VDPC
