/-! ===== the reference writes samples; predictOther ===== -/
def vd_us (pl : Nat) : Nat := if pl = 0 then 8 else 4
theorem vd_us_v (pl : Nat) : vd_us pl = 8 ∨ vd_us pl = 4 := by
  unfold vd_us
  split
  · exact Or.inl rfl
  · exact Or.inr rfl
theorem vd_b8n : ∀ n : Nat, n < 256 → (vd_I (n : Int)).toInt8.toInt32.toInt8.toInt32 &&& vd_I 255 = vd_I (n : Int) := by decide +kernel
theorem vd_b8 {v : Int} (h0 : 0 ≤ v) (h1 : v ≤ 255) : (vd_I v).toInt8.toInt32.toInt8.toInt32 &&& vd_I 255 = vd_I v := by
  obtain ⟨n, rfl⟩ := Int.eq_ofNat_of_zero_le h0
  exact vd_b8n n (by omega)
/-- what a block that is predicted from others has -/
def vd_IB (b : Nat → Int) : Prop := (0 ≤ b 9 ∧ b 9 ≤ 2) ∧ (b 10 = -1 ∨ b 10 = 2) ∧ (∀ q, 12 ≤ q → q < 16 → -10000 ≤ b q ∧ b q ≤ 10000) ∧ (0 ≤ b 16 ∧ b 16 ≤ 1)
def vd_mq (R : Nat → Nat → Nat → Nat → Int) (pw ph : Int) (b : Nat → Int) (pl r : Nat) (dx dy : Int) (x y : Nat) : Int := vd_mp (R r pl) (vd_pd pl pw).toNat (vd_pd pl ph).toNat (b 16).toNat (16 * (x : Int) + vd_sc pl * dx) (16 * (y : Int) + vd_sc pl * dy)
/-- a sample of such a block -/
def vd_vv (R : Nat → Nat → Nat → Nat → Int) (pw ph : Int) (b : Nat → Int) (pl x y : Nat) : Int := if b 10 < 0 then vd_mq R pw ph b pl (b 9).toNat (b 12) (b 13) x y else (vd_mq R pw ph b pl (b 9).toNat (b 12) (b 13) x y + vd_mq R pw ph b pl (b 10).toNat (b 14) (b 15) x y + 1) / 2
theorem vd_mq_b (R : Nat → Nat → Nat → Nat → Int) (pw ph : Int) (b : Nat → Int) (pl r : Nat) (dx dy : Int) (x y : Nat) : 0 ≤ vd_mq R pw ph b pl r dx dy x y ∧ vd_mq R pw ph b pl r dx dy x y ≤ 255 := vd_mp_b _ _ _ _ _ _
theorem vd_vv_b (R : Nat → Nat → Nat → Nat → Int) (pw ph : Int) (b : Nat → Int) (pl x y : Nat) : 0 ≤ vd_vv R pw ph b pl x y ∧ vd_vv R pw ph b pl x y ≤ 255 := by
  have h1 := vd_mq_b R pw ph b pl (b 9).toNat (b 12) (b 13) x y
  have h2 := vd_mq_b R pw ph b pl (b 10).toNat (b 14) (b 15) x y
  unfold vd_vv
  split <;> omega
/-- the pictures that the reference predicts from -/
def vd_RR (N : vd_M) (q : Nat) (pw ph : Int) (R : Nat → Nat → Nat → Nat → Int) (g : Nat → Nat → Int32) : Prop := ∀ r, r < 3 → ∃ qr, (vd_r N 83 r = some qr ∧ vd_PD N qr ∧ qr ≠ q) ∧ (g qr 0 = vd_I pw ∧ g qr 1 = vd_I ph) ∧ ∀ pl a b : Nat, pl < 3 → (a : Int) < vd_pd pl pw → (b : Int) < vd_pd pl ph → g (qr + 2 + pl) (b * vd_ws pl pw + a) &&& vd_I 255 = vd_I (R r pl a b)
def vd_tpR (g : Nat → Nat → Int32) : Prop := ∀ n, n < 72 → g 7 n = vd_I (vd_tapL.getD n 0)
theorem vd_RR.keep {N : vd_M} {q : Nat} {pw ph : Int} {R : Nat → Nat → Nat → Nat → Int} {g g' : Nat → Nat → Int32} (hq : vd_PD N q) (k : vd_RR N q pw ph R g) (h : ∀ c i, 129 ≤ c → c ≠ q + 2 → c ≠ q + 3 → c ≠ q + 4 → g' c i = g c i) : vd_RR N q pw ph R g' := fun r hr => by
  obtain ⟨qr, ⟨a1, a2, a3⟩, ⟨b1, b2⟩, c⟩ := k r hr
  have h1 := hq.2.2.2
  have h2 := a2.2.2.2
  refine ⟨qr, ⟨a1, a2, a3⟩, ⟨?_, ?_⟩, fun pl a b hp ha hb => ?_⟩
  · rw [h _ _ (by omega) (by omega) (by omega) (by omega)]; exact b1
  · rw [h _ _ (by omega) (by omega) (by omega) (by omega)]; exact b2
  · rw [h _ _ (by omega) (by omega) (by omega) (by omega)]; exact c pl a b hp ha hb
def vd_MR (N : vd_M) (q : Nat) (pw ph : Int) (R : Nat → Nat → Nat → Nat → Int) (b : Nat → Int) (g : Nat → Nat → Int32) : Prop := g q 0 = vd_I pw ∧ vd_nb b g ∧ vd_tpR g ∧ vd_RR N q pw ph R g
section VDPO
variable {N : vd_M} {g : Nat → Nat → Int32} {d : Nat} {Q : vd_M → (Option Value ⊕ Nat) → Prop} {q pl : Nat} {w h pw ph : Int}
theorem vd_MR.keep {R : Nat → Nat → Nat → Nat → Int} {b : Nat → Int} {g g' : Nat → Nat → Int32} (hq : vd_PD N q) (k : vd_MR N q pw ph R b g) (h : ∀ c i, ¬ (106 ≤ c ∧ c ≤ 108) → c ≠ q + 2 → c ≠ q + 3 → c ≠ q + 4 → g' c i = g c i) : vd_MR N q pw ph R b g' := by
  obtain ⟨k1, k2, k3, k4⟩ := k
  have h1 := hq.2.2.2
  refine ⟨?_, ?_, fun n hn => ?_, k4.keep hq fun c i a1 a2 a3 a4 => h c i (by omega) a2 a3 a4⟩
  · rw [h _ _ (by omega) (by omega) (by omega) (by omega)]; exact k1
  · obtain ⟨⟨a1, a2, a3, a4, a5, a6⟩, ⟨b1, b2, b3, b4⟩, ⟨c1, c2, c3⟩, ⟨d1, d2, d3, d4⟩, e1, e2⟩ := k2
    refine ⟨⟨?_, ?_, ?_, ?_, ?_, ?_⟩, ⟨?_, ?_, ?_, ?_⟩, ⟨?_, ?_, ?_⟩, ⟨?_, ?_, ?_, ?_⟩, ?_, ?_⟩
    all_goals rw [h _ _ (by omega) (by omega) (by omega) (by omega)]; assumption
  · rw [h _ _ (by omega) (by omega) (by omega) (by omega)]; exact k3 n hn
theorem vd_P234 (hN : vd_SR N) (hq : vd_PD N q) {x y : Nat} {v : Int} (hw : g q 0 = vd_I w) (w0 : 1 ≤ w) (w1 : w ≤ 192) (hpl : pl < 3) (hx : x < vd_ws pl w) (hy : y < vd_sd pl) : vd_wp (d + 1) 234 0 [.ref q, .int (vd_I (pl : Int)), .int (vd_I (x : Int)), .int (vd_I (y : Int)), .int (vd_I v)] [] (vd_mf N g) Q = Q (vd_mf N (vd_up g (q + 2 + pl) (y * vd_ws pl w + x) (vd_I v).toInt8.toInt32.toInt8.toInt32)) (.inl none) := by
  obtain ⟨⟨hk, hr⟩, ⟨hk1, hl1⟩, ha, hq1, hq2, hq3⟩ := hq
  obtain ⟨hr3, hk3, hl3⟩ := ha pl hpl
  have hi := vd_rx w0 w1 hx hy
  have hrm : vd_rm pl ≤ 36864 := by unfold vd_rm; split <;> omega
  have P230 := fun (d : Nat) (Q : vd_M → (Option Value ⊕ Nat) → Prop) => vd_P230 (pl := pl) (d := d) (Q := Q) hN hk hw w0 w1 hpl
  have hcs : ∀ a, vd_cs [.int a, .ref (q + 2 + pl)] ≤ 8 := fun _ => of_decide_eq_true rfl
  have np : ((pl : Nat) : Int).toNat = pl := Int.toNat_natCast pl
  have ei : (y : Int) * ((vd_ws pl w : Nat) : Int) + (x : Int) = ((y * vd_ws pl w + x : Nat) : Int) := by rw [Int.natCast_add, Int.natCast_mul]
  simp (disch := first | assumption | omega | exact hcs _) only [vd_S234_0 hN, vd_S234_5 hN, vd_S234_9 hN, vd_S234_12 hN, vd_S234_18 hN, hr, vd_vr_some, np, hr3, P230, vd_I_mul, vd_I_add, ei, Int.toNat_natCast, vd_rs_v, vd_rs_n]
theorem vd_WR (hN : vd_SR N) (hpl : pl < 3) : vd_r N 105 pl = some (106 + pl) ∧ vd_k N (106 + pl) = 34 ∧ vd_l N (106 + pl) = vd_rm pl := by
  have : pl = 0 ∨ pl = 1 ∨ pl = 2 := by omega
  rcases this with rfl | rfl | rfl
  · exact ⟨hN.r105_0, hN.k106, hN.l106⟩
  · exact ⟨hN.r105_1, hN.k107, hN.l107⟩
  · exact ⟨hN.r105_2, hN.k108, hN.l108⟩
/-- a sample written, and that it is -/
def vd_wr1 (g : Nat → Nat → Int32) (q pl k : Nat) (v : Int) : Nat → Nat → Int32 := vd_up (vd_up g (q + 2 + pl) k (vd_I v).toInt8.toInt32.toInt8.toInt32) (106 + pl) k (vd_I 1)
theorem vd_P233 (hN : vd_SR N) (hq : vd_PD N q) (hn : vd_r N 63 23 = some q) {x y : Nat} {v : Int} (hw : g q 0 = vd_I w) (w0 : 1 ≤ w) (w1 : w ≤ 192) (hpl : pl < 3) (hx : x < vd_ws pl w) (hy : y < vd_sd pl) : vd_wp (d + 2) 233 0 [.ref 63, .int (vd_I (pl : Int)), .int (vd_I (x : Int)), .int (vd_I (y : Int)), .int (vd_I v)] [] (vd_mf N g) Q = Q (vd_mf N (vd_wr1 g q pl (y * vd_ws pl w + x) v)) (.inl none) := by
  obtain ⟨hr3, hk3, hl3⟩ := vd_WR hN hpl
  have hk := hq.1.1
  have hq1 := hq.2.2.2
  have hi := vd_rx w0 w1 hx hy
  have hrm : vd_rm pl ≤ 36864 := by unfold vd_rm; split <;> omega
  have P234 := fun (d : Nat) (Q : vd_M → (Option Value ⊕ Nat) → Prop) => vd_P234 (v := v) (d := d) (Q := Q) hN hq hw w0 w1 hpl hx hy
  have P230 := fun (d : Nat) (Q : vd_M → (Option Value ⊕ Nat) → Prop) => vd_P230 (g := vd_up g (q + 2 + pl) (y * vd_ws pl w + x) (vd_I v).toInt8.toInt32.toInt8.toInt32) (pl := pl) (d := d) (Q := Q) hN hk (by rw [vd_up_ne (by omega)]; exact hw) w0 w1 hpl
  have hcs : ∀ a, vd_cs [.int a, .ref (106 + pl)] ≤ 8 := fun _ => of_decide_eq_true rfl
  have np : ((pl : Nat) : Int).toNat = pl := Int.toNat_natCast pl
  have e1 : vd_I 1 &&& 1 = vd_I 1 := by decide
  have ei : (y : Int) * ((vd_ws pl w : Nat) : Int) + (x : Int) = ((y * vd_ws pl w + x : Nat) : Int) := by rw [Int.natCast_add, Int.natCast_mul]
  simp (disch := first | assumption | omega | exact hcs _) only [vd_S233_0 hN, vd_S233_9 hN, vd_S233_12 hN, vd_S233_17 hN, vd_S233_24 hN, vd_S233_27 hN, vd_S233_31b hN, hn, vd_vr_some, np, hr3, P234, P230, vd_I_mul, vd_I_add, ei, Int.toNat_natCast, e1, vd_wr1, vd_rs_v, vd_rs_n]
theorem vd_L222x (hN : vd_SR N) (hq : vd_PD N q) (hnow : vd_r N 63 23 = some q) {R : Nat → Nat → Nat → Nat → Int} {b : Nat → Int} {w px y : Nat} (hpl : pl < 3) (hRb : ∀ r pl a b, 0 ≤ R r pl a b ∧ R r pl a b ≤ 255) (p0 : 1 ≤ pw ∧ pw ≤ 192) (q0 : 1 ≤ ph ∧ ph ≤ 192) (hb : vd_IB b) (hw : b 2 = (w : Int)) (w8 : w ≤ 8) (hx : px + vd_us pl * w ≤ vd_ws pl pw) (hy : y < vd_sd pl) (x4 : Int32) : ∀ (m i : Nat) (g : Nat → Nat → Int32) (a7 : Value), i + m = vd_us pl * w → vd_MR N q pw ph R b g → ∃ (g' : Nat → Nat → Int32) (b7 : Value), (∀ d Q, vd_wp (d + 4) 222 51 [.ref 63, .int (vd_I (pl : Int)), .int (vd_I (vd_us pl : Int)), .int (vd_I (px : Int)), .int x4, .int (vd_I (y : Int)), .int (vd_I ((px + i : Nat) : Int)), a7] [] (vd_mf N g) Q = vd_wp (d + 4) 222 168 [.ref 63, .int (vd_I (pl : Int)), .int (vd_I (vd_us pl : Int)), .int (vd_I (px : Int)), .int x4, .int (vd_I (y : Int)), .int (vd_I ((px + vd_us pl * w : Nat) : Int)), b7] [] (vd_mf N g') Q) ∧ (∀ c, i ≤ c → c < vd_us pl * w → g' (q + 2 + pl) (y * vd_ws pl pw + (px + c)) &&& vd_I 255 = vd_I (vd_vv R pw ph b pl (px + c) y) ∧ g' (106 + pl) (y * vd_ws pl pw + (px + c)) = vd_I 1) ∧ (∀ c k, ¬ ((c = q + 2 + pl ∨ c = 106 + pl) ∧ y * vd_ws pl pw + (px + i) ≤ k ∧ k < y * vd_ws pl pw + (px + vd_us pl * w)) → g' c k = g c k) := by
  have hsd : vd_sd pl ≤ 192 := by unfold vd_sd; split <;> omega
  have hwb := (vd_ws_b (pl := pl) p0.1 p0.2).1
  obtain ⟨⟨b90, b91⟩, b10, bv, b160, b161⟩ := id hb
  have v12 := bv 12 (by decide) (by decide)
  have v13 := bv 13 (by decide) (by decide)
  have v14 := bv 14 (by decide) (by decide)
  have v15 := bv 15 (by decide) (by decide)
  have hq1 := hq.2.2.2
  have pdw : 0 ≤ vd_pd pl pw := by unfold vd_pd; split <;> omega
  have pdh : 0 ≤ vd_pd pl ph := by unfold vd_pd; split <;> omega
  have hus := vd_us_v pl
  intro m
  induction m with
  | zero =>
    intro i g a7 hi k
    refine ⟨g, a7, fun d Q => ?_, fun c a b => by omega, fun _ _ _ => rfl⟩
    have e : i = vd_us pl * w := by omega
    subst e
    have h97 : g 63 97 = vd_I (8 * (w : Int)) := by rw [← hw]; exact k.2.1.1.2.2.1
    have c : ¬ (((px + vd_us pl * w : Nat) : Int) < (px : Int) + 8 * (w : Int) / 8 * (vd_us pl : Int)) := by
      rcases hus with e | e <;> rw [e] <;> omega
    have bd : -2147483648 ≤ (px : Int) + 8 * (w : Int) / 8 * (vd_us pl : Int) ∧ (px : Int) + 8 * (w : Int) / 8 * (vd_us pl : Int) < 2147483648 := by
      rcases hus with e | e <;> rw [e] <;> omega
    rw [vd_S222_51 hN, h97]
    simp (disch := omega) only [vd_I_div, vd_I_mul, vd_I_add, vd_I_toInt, c, if_false]
  | succ m ih =>
    intro i g a7 hi k
    obtain ⟨k1, k2, k3, k4⟩ := id k
    have h97 : g 63 97 = vd_I (8 * (w : Int)) := by rw [← hw]; exact k2.1.2.2.1
    have c : ((px + i : Nat) : Int) < (px : Int) + 8 * (w : Int) / 8 * (vd_us pl : Int) := by
      rcases hus with e | e <;> rw [e] at hi ⊢ <;> omega
    have bd : -2147483648 ≤ (px : Int) + 8 * (w : Int) / 8 * (vd_us pl : Int) ∧ (px : Int) + 8 * (w : Int) / 8 * (vd_us pl : Int) < 2147483648 := by
      rcases hus with e | e <;> rw [e] <;> omega
    have hxi : px + i < vd_ws pl pw := by omega
    have g10 := k2.2.2.1.2.1
    have g90 := k2.2.2.1.1
    obtain ⟨g12, g13, g14, g15⟩ := k2.2.2.2.1
    have g109 : g 63 109 = vd_I (((b 16).toNat : Nat) : Int) := by rw [Int.toNat_of_nonneg b160]; exact k2.2.2.2.2.1
    have i0 : (0 : Int).toNat = 0 := rfl
    have i1 : (1 : Int).toNat = 1 := rfl
    have e1 : ((px + i : Nat) : Int) + 1 = ((px + (i + 1) : Nat) : Int) := by omega
    obtain ⟨qr, ⟨r1, r2, r3⟩, ⟨r4, r5⟩, r6⟩ := k4 (b 9).toNat (by omega)
    have PA := fun (d : Nat) (Q : vd_M → (Option Value ⊕ Nat) → Prop) => vd_P224 (g := g) (P := R (b 9).toNat pl) (wd := (vd_pd pl pw).toNat) (hd := (vd_pd pl ph).toNat) (kern := (b 16).toNat) (x := px + i) (y := y) (dx := b 12) (dy := b 13) hN r2 hpl r4 p0.1 p0.2 r5 q0.1 q0.2 (Int.toNat_of_nonneg pdw) (Int.toNat_of_nonneg pdh) g109 (by omega) k3 (fun a c ha hc => r6 pl a c hpl (by omega) (by omega)) (fun a c => hRb _ _ _ _) (by omega) (by omega) v12 v13 d Q
    have PA : ∀ (d : Nat) (Q : vd_M → (Option Value ⊕ Nat) → Prop), vd_wp (d + 3) 224 0 [.ref 63, .ref qr, .int (vd_I (pl : Int)), .int (vd_I ((px + i : Nat) : Int)), .int (vd_I (y : Int)), .int (vd_I (b 12)), .int (vd_I (b 13)), vd_U, vd_U, vd_U, vd_U, vd_U, vd_U, vd_U] [] (vd_mf N g) Q = Q (vd_mf N g) (.inl (some (.int (vd_I (vd_mq R pw ph b pl (b 9).toNat (b 12) (b 13) (px + i) y))))) := PA
    have mb := vd_mq_b R pw ph b pl (b 9).toNat (b 12) (b 13) (px + i) y
    have vb := vd_vv_b R pw ph b pl (px + i) y
    have PW := fun (v : Int) (d : Nat) (Q : vd_M → (Option Value ⊕ Nat) → Prop) => vd_P233 (g := g) (v := v) (x := px + i) (y := y) (d := d) (Q := Q) hN hq hnow k1 p0.1 p0.2 hpl hxi hy
    obtain ⟨g2, b7, s1, s2, s3⟩ := ih (i + 1) (vd_wr1 g q pl (y * vd_ws pl pw + (px + i)) (vd_vv R pw ph b pl (px + i) y)) (.int (vd_I (vd_vv R pw ph b pl (px + i) y))) (by omega) (k.keep hq fun c i a1 a2 a3 a4 => by
      unfold vd_wr1
      rw [vd_up_ne (by omega), vd_up_ne (by omega)])
    refine ⟨g2, b7, fun d Q => ?_, fun t a b => ?_, fun t kk ht => ?_⟩
    · rw [← s1 d Q, vd_S222_51 hN, h97]
      rcases b10 with c10 | c10
      · have ev : vd_vv R pw ph b pl (px + i) y = vd_mq R pw ph b pl (b 9).toNat (b 12) (b 13) (px + i) y := by unfold vd_vv; rw [if_pos (by omega)]
        have c10' : b 10 < 0 := by omega
        rw [ev]
        simp (disch := first | assumption | omega) only [vd_I_div, vd_I_mul, vd_I_add, vd_I_toInt, c, if_true, vd_S222_67 hN, vd_S222_77 hN, vd_S222_78 hN, vd_S222_89 hN, vd_S222_95 hN, vd_S222_96 hN, vd_S222_99 hN, vd_S222_106 hN, vd_S222_151 hN, vd_S222_159 hN, vd_S222_162 hN, i0, i1, g90, g10, g12, g13, r1, vd_vr_some, PA, PW, c10', e1, vd_rs_v, vd_rs_n]
      · obtain ⟨qs, ⟨t1, t2, t3⟩, ⟨t4, t5⟩, t6⟩ := k4 (b 10).toNat (by omega)
        have PB := fun (d : Nat) (Q : vd_M → (Option Value ⊕ Nat) → Prop) => vd_P224 (g := g) (P := R (b 10).toNat pl) (wd := (vd_pd pl pw).toNat) (hd := (vd_pd pl ph).toNat) (kern := (b 16).toNat) (x := px + i) (y := y) (dx := b 14) (dy := b 15) hN t2 hpl t4 p0.1 p0.2 t5 q0.1 q0.2 (Int.toNat_of_nonneg pdw) (Int.toNat_of_nonneg pdh) g109 (by omega) k3 (fun a c ha hc => t6 pl a c hpl (by omega) (by omega)) (fun a c => hRb _ _ _ _) (by omega) (by omega) v14 v15 d Q
        have PB : ∀ (d : Nat) (Q : vd_M → (Option Value ⊕ Nat) → Prop), vd_wp (d + 3) 224 0 [.ref 63, .ref qs, .int (vd_I (pl : Int)), .int (vd_I ((px + i : Nat) : Int)), .int (vd_I (y : Int)), .int (vd_I (b 14)), .int (vd_I (b 15)), vd_U, vd_U, vd_U, vd_U, vd_U, vd_U, vd_U] [] (vd_mf N g) Q = Q (vd_mf N g) (.inl (some (.int (vd_I (vd_mq R pw ph b pl (b 10).toNat (b 14) (b 15) (px + i) y))))) := PB
        have mb2 := vd_mq_b R pw ph b pl (b 10).toNat (b 14) (b 15) (px + i) y
        have ev : vd_vv R pw ph b pl (px + i) y = (vd_mq R pw ph b pl (b 9).toNat (b 12) (b 13) (px + i) y + vd_mq R pw ph b pl (b 10).toNat (b 14) (b 15) (px + i) y + 1) / 2 := by unfold vd_vv; rw [if_neg (by omega)]
        have c10' : ¬ (b 10 < 0) := by omega
        have RR := vd_r1 hN (v := vd_mq R pw ph b pl (b 9).toNat (b 12) (b 13) (px + i) y + vd_mq R pw ph b pl (b 10).toNat (b 14) (b 15) (px + i) y) (by omega) (by omega) g
        rw [ev]
        generalize vd_mq R pw ph b pl (b 9).toNat (b 12) (b 13) (px + i) y = ma at *
        generalize vd_mq R pw ph b pl (b 10).toNat (b 14) (b 15) (px + i) y = mc at *
        simp (disch := first | assumption | omega) only [vd_I_div, vd_I_mul, vd_I_add, vd_I_toInt, c, if_true, vd_S222_67 hN, vd_S222_77 hN, vd_S222_78 hN, vd_S222_89 hN, vd_S222_95 hN, vd_S222_96 hN, vd_S222_99 hN, vd_S222_106 hN, vd_S222_110 hN, vd_S222_122 hN, vd_S222_123 hN, vd_S222_134 hN, vd_S222_140 hN, vd_S222_141 hN, vd_S222_144 hN, vd_S222_146 hN, vd_S222_149 hN, vd_S222_151 hN, vd_S222_159 hN, vd_S222_162 hN, i0, i1, g90, g10, g12, g13, g14, g15, r1, t1, vd_vr_some, PA, PB, PW, RR, c10', if_false, e1, vd_rs_v, vd_rs_n]
    · by_cases ct : t = i
      · subst ct
        rw [s3 _ _ (by omega), s3 _ _ (by omega)]
        unfold vd_wr1
        rw [vd_up_ne (by omega), vd_up_eq, vd_up_eq]
        exact ⟨vd_b8 vb.1 vb.2, rfl⟩
      · exact s2 t (by omega) b
    · rw [s3 t kk (by omega)]
      unfold vd_wr1
      rw [vd_up_ne (by omega), vd_up_ne (by omega)]
theorem vd_rowi {ws y y' t t' : Nat} (ht : t < ws) (ht' : t' < ws) (e : y * ws + t = y' * ws + t') : y = y' ∧ t = t' := by
  have := vd_ixi (W := ws) (i := t) (j := y) (i' := t') (j' := y') ht ht' (by rw [Nat.mul_comm ws, Nat.mul_comm ws]; exact e)
  exact ⟨this.2, this.1⟩
theorem vd_L222y (hN : vd_SR N) (hq : vd_PD N q) (hnow : vd_r N 63 23 = some q) {R : Nat → Nat → Nat → Nat → Int} {b : Nat → Int} {w h px py : Nat} (hpl : pl < 3) (hRb : ∀ r pl a b, 0 ≤ R r pl a b ∧ R r pl a b ≤ 255) (p0 : 1 ≤ pw ∧ pw ≤ 192) (q0 : 1 ≤ ph ∧ ph ≤ 192) (hb : vd_IB b) (hw : b 2 = (w : Int)) (hh : b 3 = (h : Int)) (w8 : w ≤ 8) (h8 : h ≤ 8) (hx : px + vd_us pl * w ≤ vd_ws pl pw) (hy : py + vd_us pl * h ≤ vd_sd pl) : ∀ (m j : Nat) (g : Nat → Nat → Int32) (a6 a7 : Value), j + m = vd_us pl * h → vd_MR N q pw ph R b g → ∃ (g' : Nat → Nat → Int32), (∀ d Q, vd_wp (d + 4) 222 31 [.ref 63, .int (vd_I (pl : Int)), .int (vd_I (vd_us pl : Int)), .int (vd_I (px : Int)), .int (vd_I (py : Int)), .int (vd_I ((py + j : Nat) : Int)), a6, a7] [] (vd_mf N g) Q = Q (vd_mf N g') (.inl none)) ∧ (∀ i j', i < vd_us pl * w → j ≤ j' → j' < vd_us pl * h → g' (q + 2 + pl) ((py + j') * vd_ws pl pw + (px + i)) &&& vd_I 255 = vd_I (vd_vv R pw ph b pl (px + i) (py + j')) ∧ g' (106 + pl) ((py + j') * vd_ws pl pw + (px + i)) = vd_I 1) ∧ (∀ c k, (c = q + 2 + pl ∨ c = 106 + pl → ∀ i j', i < vd_us pl * w → j ≤ j' → j' < vd_us pl * h → k ≠ (py + j') * vd_ws pl pw + (px + i)) → g' c k = g c k) := by
  have hsd : vd_sd pl ≤ 192 := by unfold vd_sd; split <;> omega
  have hwb := (vd_ws_b (pl := pl) p0.1 p0.2).1
  have hq1 := hq.2.2.2
  have hus := vd_us_v pl
  intro m
  induction m with
  | zero =>
    intro j g a6 a7 hj k
    refine ⟨g, fun d Q => ?_, fun i j' a b c => by omega, fun _ _ _ => rfl⟩
    have e : j = vd_us pl * h := by omega
    subst e
    have h98 : g 63 98 = vd_I (8 * (h : Int)) := by rw [← hh]; exact k.2.1.1.2.2.2.1
    have c : ¬ (((py + vd_us pl * h : Nat) : Int) < (py : Int) + 8 * (h : Int) / 8 * (vd_us pl : Int)) := by
      rcases hus with e | e <;> rw [e] <;> omega
    have bd : -2147483648 ≤ (py : Int) + 8 * (h : Int) / 8 * (vd_us pl : Int) ∧ (py : Int) + 8 * (h : Int) / 8 * (vd_us pl : Int) < 2147483648 := by
      rcases hus with e | e <;> rw [e] <;> omega
    rw [vd_S222_31 hN, h98]
    simp (disch := omega) only [vd_I_div, vd_I_mul, vd_I_add, vd_I_toInt, c, if_false, vd_S222_174 hN]
  | succ m ih =>
    intro j g a6 a7 hj k
    have h98 : g 63 98 = vd_I (8 * (h : Int)) := by rw [← hh]; exact k.2.1.1.2.2.2.1
    have c : ((py + j : Nat) : Int) < (py : Int) + 8 * (h : Int) / 8 * (vd_us pl : Int) := by
      rcases hus with e | e <;> rw [e] at hj ⊢ <;> omega
    have bd : -2147483648 ≤ (py : Int) + 8 * (h : Int) / 8 * (vd_us pl : Int) ∧ (py : Int) + 8 * (h : Int) / 8 * (vd_us pl : Int) < 2147483648 := by
      rcases hus with e | e <;> rw [e] <;> omega
    have e1 : ((py + j : Nat) : Int) + 1 = ((py + (j + 1) : Nat) : Int) := by omega
    obtain ⟨g1, b7, s1, s2, s3⟩ := vd_L222x (y := py + j) (px := px) hN hq hnow hpl hRb p0 q0 hb hw w8 hx (by omega) (vd_I (py : Int)) (vd_us pl * w) 0 g a7 (by omega) k
    rw [Nat.add_zero] at s1
    have ne : ∀ c k, c ≠ q + 2 + pl → c ≠ 106 + pl → g1 c k = g c k := fun c k a b => s3 c k (by omega)
    have nes : ∀ c i j', i < vd_us pl * w → j' ≠ j → g1 c ((py + j') * vd_ws pl pw + (px + i)) = g c ((py + j') * vd_ws pl pw + (px + i)) := fun c i j' hi hj' => s3 _ _ (by
      intro ⟨_, a, b⟩
      have := vd_rowi (ws := vd_ws pl pw) (y := py + j') (y' := py + j) (t := px + i) (t' := (py + j') * vd_ws pl pw + (px + i) - (py + j) * vd_ws pl pw) (by omega) (by omega) (by omega)
      omega)
    obtain ⟨g2, t1, t2, t3⟩ := ih (j + 1) g1 (.int (vd_I ((px + vd_us pl * w : Nat) : Int))) b7 (by omega) (k.keep hq fun c i a1 a2 a3 a4 => ne c i (by omega) (by omega))
    refine ⟨g2, fun d Q => ?_, fun i j' hi a b => ?_, fun t kk ht => ?_⟩
    · rw [← t1 d Q, vd_S222_31 hN, h98]
      simp (disch := omega) only [vd_I_div, vd_I_mul, vd_I_add, vd_I_toInt, c, if_true, vd_S222_48 hN, s1, vd_S222_168 hN, e1]
    · by_cases cj : j' = j
      · subst cj
        have no : ∀ i2 j2, i2 < vd_us pl * w → j' + 1 ≤ j2 → j2 < vd_us pl * h → (py + j') * vd_ws pl pw + (px + i) ≠ (py + j2) * vd_ws pl pw + (px + i2) := fun i2 j2 a2 b2 _ e => by
          have := vd_rowi (ws := vd_ws pl pw) (y := py + j') (y' := py + j2) (t := px + i) (t' := px + i2) (by omega) (by omega) e
          omega
        rw [t3 _ _ (fun _ => no), t3 _ _ (fun _ => no)]
        exact s2 i (Nat.zero_le _) hi
      · exact t2 i j' hi (by omega) b
    · rw [t3 t kk (fun e i j' hi a b => ht e i j' hi (by omega) b), s3 t kk (fun ⟨e, a, b⟩ => ht e (kk - ((py + j) * vd_ws pl pw + px)) j (by omega) (Nat.le_refl _) (by omega) (by omega))]
theorem vd_P222 (hN : vd_SR N) (hq : vd_PD N q) (hnow : vd_r N 63 23 = some q) {R : Nat → Nat → Nat → Nat → Int} {b : Nat → Int} {x y w h : Nat} {g : Nat → Nat → Int32} (hpl : pl < 3) (hRb : ∀ r pl a b, 0 ≤ R r pl a b ∧ R r pl a b ≤ 255) (p0 : 1 ≤ pw ∧ pw ≤ 192) (q0 : 1 ≤ ph ∧ ph ≤ 192) (hb : vd_IB b) (hw : b 2 = (w : Int)) (hh : b 3 = (h : Int)) (w8 : w ≤ 8) (h8 : h ≤ 8) (hx : vd_us pl * x + vd_us pl * w ≤ vd_ws pl pw) (hy : vd_us pl * y + vd_us pl * h ≤ vd_sd pl) (h95 : g 63 95 = vd_I (8 * (x : Int))) (h96 : g 63 96 = vd_I (8 * (y : Int))) (k : vd_MR N q pw ph R b g) : ∃ (g' : Nat → Nat → Int32), (∀ d Q, vd_wp (d + 4) 222 0 [.ref 63, .int (vd_I (pl : Int)), vd_U, vd_U, vd_U, vd_U, vd_U, vd_U] [] (vd_mf N g) Q = Q (vd_mf N g') (.inl none)) ∧ (∀ i j, i < vd_us pl * w → j < vd_us pl * h → g' (q + 2 + pl) ((vd_us pl * y + j) * vd_ws pl pw + (vd_us pl * x + i)) &&& vd_I 255 = vd_I (vd_vv R pw ph b pl (vd_us pl * x + i) (vd_us pl * y + j)) ∧ g' (106 + pl) ((vd_us pl * y + j) * vd_ws pl pw + (vd_us pl * x + i)) = vd_I 1) ∧ (∀ c k, (c = q + 2 + pl ∨ c = 106 + pl → ∀ i j, i < vd_us pl * w → j < vd_us pl * h → k ≠ (vd_us pl * y + j) * vd_ws pl pw + (vd_us pl * x + i)) → g' c k = g c k) := by
  have hsd : vd_sd pl ≤ 192 := by unfold vd_sd; split <;> omega
  have hwb := (vd_ws_b (pl := pl) p0.1 p0.2).1
  have hus := vd_us_v pl
  obtain ⟨g', s1, s2, s3⟩ := vd_L222y (px := vd_us pl * x) (py := vd_us pl * y) hN hq hnow hpl hRb p0 q0 hb hw hh w8 h8 hx hy (vd_us pl * h) 0 g vd_U vd_U (by omega) k
  rw [Nat.add_zero] at s1
  refine ⟨g', fun d Q => ?_, fun i j a b => s2 i j a (Nat.zero_le _) b, fun c k hk => s3 c k fun e i j a _ b => hk e i j a b⟩
  have eu : (if pl = 0 then (8 : Int) else 4) = ((vd_us pl : Nat) : Int) := by unfold vd_us; split <;> rfl
  have P223 := fun (d : Nat) (Q : vd_M → (Option Value ⊕ Nat) → Prop) => vd_P223 (g := g) (d := d) (Q := Q) hN hpl
  rw [eu] at P223
  have ex : 8 * (x : Int) / 8 * ((vd_us pl : Nat) : Int) = ((vd_us pl * x : Nat) : Int) := by
    rcases hus with e | e <;> rw [e] <;> omega
  have ey : 8 * (y : Int) / 8 * ((vd_us pl : Nat) : Int) = ((vd_us pl * y : Nat) : Int) := by
    rcases hus with e | e <;> rw [e] <;> omega
  have x24 : x ≤ 192 ∧ y ≤ 192 := by
    rcases hus with e | e <;> rw [e] at hx hy <;> omega
  simp (disch := omega) only [vd_S222_0 hN, vd_S222_2 hN, P223, vd_S222_5 hN, h95, h96, vd_I_div, vd_I_mul, ex, ey, s1, vd_rs_v, vd_rs_n]
end VDPO
