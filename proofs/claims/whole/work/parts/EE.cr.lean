/-! ===== the filter: one cell of four samples, the reference ===== -/
section VDCR
variable {N : vd_M} {W H pl X4 Y4 : Nat} {O : Nat → Nat → Option Nat} {B X : Nat → Nat → Int} {vt : Int} {g : Nat → Nat → Int32}
theorem vd_G265 (hN : vd_SR N) (gb : vd_GB W H O B g) (w1 : W ≤ 24) (w2 : H ≤ 24) (hpl : pl < 3) (hvt : vt = 0 ∨ vt = 1) (hx : X4 < vd_cu pl * W) (hy : Y4 < vd_cu pl * H) {k : Nat} (hO : O (X4 / vd_cu pl) (Y4 / vd_cu pl) = some k) (bV : vd_BV (B k)) {w h sz : Nat} (b2 : B k 2 = (w : Int)) (b3 : B k 3 = (h : Int)) (hw : w = 1 ∨ w = 2 ∨ w = 4 ∨ w = 8) (hh : h = 1 ∨ h = 2 ∨ h = 4 ∨ h = 8) (ez : vd_szP (B k) w h pl = (sz : Int)) (hs : sz < 4) : ∃ x9 : Int32, ∀ d Q, vd_wp (d + 2) 265 0 [.ref 63, .int (vd_I (pl : Int)), .int (vd_I (4 * (X4 : Int))), .int (vd_I (4 * (Y4 : Int))), .int (vd_I vt), vd_U, vd_U, vd_U, vd_U, vd_U, vd_U, vd_U, vd_U] [] (vd_mf N g) Q = if vd_isE (B k) (4 * (if vt = 1 then (Y4 : Int) else (X4 : Int))) ((vd_sn sz : Nat) : Int) ((vd_us pl : Nat) : Int) vt = 0 then Q (vd_mf N g) (.inl none) else vd_wp (d + 2) 265 148 [.ref 63, .int (vd_I (pl : Int)), .int (vd_I (4 * (X4 : Int))), .int (vd_I (4 * (Y4 : Int))), .int (vd_I vt), .int (vd_I ((vd_us pl : Nat) : Int)), .int (vd_I ((W * (Y4 / vd_cu pl) + X4 / vd_cu pl : Nat) : Int)), .int (vd_I (4 * (if vt = 1 then (Y4 : Int) else (X4 : Int)))), .int (vd_I (sz : Int)), .int x9, vd_U, vd_U, vd_U] [] (vd_mf N g) Q := by
  have nbz := vd_nnb hs
  have cuv := vd_cu_v pl
  have usv : ((vd_us pl : Nat) : Int) = 4 ∨ ((vd_us pl : Nat) : Int) = 8 := by omega
  have uI : ((vd_us pl : Nat) : Int) = 4 * ((vd_cu pl : Nat) : Int) := by omega
  have xb : X4 < 48 ∧ Y4 < 48 := by
    rcases cuv with ⟨_, e, _⟩ | ⟨_, e, _⟩ <;> rw [e] at hx hy <;> omega
  have ub : X4 / vd_cu pl < W ∧ Y4 / vd_cu pl < H := by
    rcases cuv with ⟨_, e, _⟩ | ⟨_, e, _⟩ <;> rw [e] at hx hy ⊢ <;> omega
  have dX : 4 * (X4 : Int) / ((vd_us pl : Nat) : Int) = ((X4 / vd_cu pl : Nat) : Int) := by
    rcases cuv with ⟨e1, e2, _⟩ | ⟨e1, e2, _⟩ <;> rw [e1, e2] <;> omega
  have dY : 4 * (Y4 : Int) / ((vd_us pl : Nat) : Int) = ((Y4 / vd_cu pl : Nat) : Int) := by
    rcases cuv with ⟨e1, e2, _⟩ | ⟨e1, e2, _⟩ <;> rw [e1, e2] <;> omega
  obtain ⟨⟨g26, g27⟩, _, k3⟩ := id gb
  obtain ⟨⟨g92, g93, g94, g95, g96, g89⟩, ⟨g97, g98, g99, g90⟩, _⟩ := k3 _ _ k ub.1 ub.2 hO
  have ix := vd_ix ub.1 ub.2
  have WH : W * H ≤ 576 := Nat.mul_le_mul w1 w2
  generalize X4 / vd_cu pl = ux at *
  generalize Y4 / vd_cu pl = uy at *
  have eu : ((uy : Nat) : Int) * (W : Int) + ((ux : Nat) : Int) = ((W * uy + ux : Nat) : Int) := by rw [Int.natCast_add, Int.natCast_mul, Int.mul_comm]
  have nu : ((W * uy + ux : Nat) : Int).toNat = W * uy + ux := Int.toNat_natCast _
  generalize W * uy + ux = u at *
  rw [b2] at g94
  rw [b3] at g95
  have usI : (if pl = 0 then (8 : Int) else 4) = ((vd_us pl : Nat) : Int) := by
    unfold vd_us
    by_cases c : pl = 0
    · rw [if_pos c, if_pos c]; rfl
    · rw [if_neg c, if_neg c]; rfl
  have P223 := fun (d : Nat) (Q : vd_M → (Option Value ⊕ Nat) → Prop) => vd_P223 (g := g) (d := d) (Q := Q) hN hpl
  rw [usI] at P223
  have P236 := vd_P236 (g := g) hN bV hw hh hpl
  rw [ez] at P236
  have P289 := fun (a c : Int) (h1 : -1000 ≤ a ∧ a ≤ 1000) (h2 : -1000 ≤ c ∧ c ≤ 1000) (d : Nat) (Q : vd_M → (Option Value ⊕ Nat) → Prop) => vd_P289 (M := N) (f := g) (d := d) (Q := Q) (a := a) (b := c) (by omega) (by omega) (by omega) (by omega)
  have sh := vd_sh4 hs
  have hb1 := bV.1
  have hb2 := bV.2.1
  obtain ⟨pos, hpos⟩ : ∃ pos : Int, pos = 4 * (if vt = 1 then (Y4 : Int) else (X4 : Int)) := ⟨_, rfl⟩
  have pb : 0 ≤ pos ∧ pos ≤ 192 := by rw [hpos]; split <;> omega
  have h67 : ∀ d Q, vd_wp (d + 2) 265 0 [.ref 63, .int (vd_I (pl : Int)), .int (vd_I (4 * (X4 : Int))), .int (vd_I (4 * (Y4 : Int))), .int (vd_I vt), vd_U, vd_U, vd_U, vd_U, vd_U, vd_U, vd_U, vd_U] [] (vd_mf N g) Q = vd_wp (d + 2) 265 67 [.ref 63, .int (vd_I (pl : Int)), .int (vd_I (4 * (X4 : Int))), .int (vd_I (4 * (Y4 : Int))), .int (vd_I vt), .int (vd_I ((vd_us pl : Nat) : Int)), .int (vd_I (u : Int)), .int (vd_I pos), vd_U, vd_U, vd_U, vd_U, vd_U] [.int (vd_I (sz : Int))] (vd_mf N g) Q := by
    intro d Q
    rcases hvt with rfl | rfl
    · rw [if_neg (show ¬ ((0 : Int) = 1) by decide)] at hpos
      rw [hpos]
      simp (disch := omega) only [vd_S265_0 hN, vd_S265_2 hN, P223, vd_S265_5 hN, vd_S265_10 hN, vd_I_div, dY, g26, vd_I_mul, vd_S265_19 hN, dX, vd_I_add, eu, vd_I_toInt, if_true, vd_S265_32 hN, vd_S265_33 hN, vd_S265_43 hN, nu, g97, vd_S265_52 hN, g94, vd_S265_59 hN, g95, vd_S265_60 hN, P289, vd_S265_63 hN, vd_S265_64 hN, P236, vd_rs_v, vd_rs_n]
    · rw [if_pos (show (1 : Int) = 1 from rfl)] at hpos
      rw [hpos]
      simp (disch := omega) only [vd_S265_0 hN, vd_S265_2 hN, P223, vd_S265_5 hN, vd_S265_10 hN, vd_I_div, dY, g26, vd_I_mul, vd_S265_19 hN, dX, vd_I_add, eu, vd_I_toInt, show ¬ ((1 : Int) = 0) by decide, if_false, vd_S265_28 hN, vd_S265_33 hN, vd_S265_43 hN, nu, g97, vd_S265_52 hN, g94, vd_S265_59 hN, g95, vd_S265_60 hN, P289, vd_S265_63 hN, vd_S265_64 hN, P236, vd_rs_v, vd_rs_n]
  rw [← hpos]
  have hn4 : ((vd_sn sz : Nat) : Int) = 4 ∨ ((vd_sn sz : Nat) : Int) = 8 ∨ ((vd_sn sz : Nat) : Int) = 16 ∨ ((vd_sn sz : Nat) : Int) = 32 := by rcases vd_nn_v hs with ⟨_, e⟩ | ⟨_, e⟩ | ⟨_, e⟩ | ⟨_, e⟩ <;> rw [e] <;> decide
  generalize ((vd_sn sz : Nat) : Int) = n at *
  clear hpos
  have er : pos - pos / n * n = pos % n := by
    have := Int.emod_def pos n
    rw [Int.mul_comm n] at this
    omega
  have mb : (0 ≤ pos / n ∧ pos / n ≤ 192) ∧ 0 ≤ pos / n * n ∧ pos / n * n ≤ 192 := by rcases hn4 with rfl | rfl | rfl | rfl <;> omega
  have rb : 0 ≤ pos % n ∧ pos % n < 32 := by rcases hn4 with rfl | rfl | rfl | rfl <;> omega
  by_cases cz : pos = 0
  · have ei : vd_isE (B k) pos n ((vd_us pl : Nat) : Int) vt = 0 := if_pos (Or.inl cz)
    refine ⟨0, fun d Q => ?_⟩
    rw [h67, if_pos ei]
    simp (disch := omega) only [vd_S265_67 hN, vd_I_toInt, cz, if_true, vd_S265_84 hN]
  by_cases cr : pos % n = 0
  · obtain ⟨bq, hbq⟩ : ∃ bq : Int, bq = (if vt = 1 then B k 1 else B k 0) := ⟨_, rfl⟩
    have bqb : 0 ≤ bq ∧ bq < 24 := by rw [hbq]; split <;> omega
    have h109 : ∀ d Q, vd_wp (d + 2) 265 0 [.ref 63, .int (vd_I (pl : Int)), .int (vd_I (4 * (X4 : Int))), .int (vd_I (4 * (Y4 : Int))), .int (vd_I vt), vd_U, vd_U, vd_U, vd_U, vd_U, vd_U, vd_U, vd_U] [] (vd_mf N g) Q = vd_wp (d + 2) 265 109 [.ref 63, .int (vd_I (pl : Int)), .int (vd_I (4 * (X4 : Int))), .int (vd_I (4 * (Y4 : Int))), .int (vd_I vt), .int (vd_I ((vd_us pl : Nat) : Int)), .int (vd_I (u : Int)), .int (vd_I pos), .int (vd_I (sz : Int)), vd_U, vd_U, vd_U, vd_U] [.int (vd_I bq), .int (vd_I pos)] (vd_mf N g) Q := by
      intro d Q
      rw [h67, vd_S265_67 hN, vd_I_toInt (by omega) (by omega), if_neg cz, vd_S265_74 hN, sh]
      simp (disch := omega) only [vd_S265_80 hN, vd_I_div, vd_I_mul, vd_I_sub, er, vd_I_toInt, cr, if_true]
      rcases hvt with rfl | rfl
      · rw [if_neg (show ¬ ((0 : Int) = 1) by decide)] at hbq
        simp (disch := omega) only [vd_S265_85 hN, vd_I_toInt, if_true, vd_S265_102 hN, vd_S265_108 hN, nu, g92, hbq]
      · rw [if_pos (show (1 : Int) = 1 from rfl)] at hbq
        simp (disch := omega) only [vd_S265_85 hN, vd_I_toInt, show ¬ ((1 : Int) = 0) by decide, if_false, vd_S265_92 hN, vd_S265_98 hN, nu, g93, hbq]
    have ub2 : 0 ≤ bq * ((vd_us pl : Nat) : Int) ∧ bq * ((vd_us pl : Nat) : Int) ≤ 192 := by rcases usv with e | e <;> rw [e] <;> omega
    have eE : vd_isE (B k) pos n ((vd_us pl : Nat) : Int) vt = if (B k 5 = 1 ∧ B k 7 < 0) ∧ pos ≠ bq * ((vd_us pl : Nat) : Int) then 0 else 1 := by
      unfold vd_isE
      rw [if_neg (by omega), ← hbq, Int.mul_comm]
    by_cases ce : pos = bq * ((vd_us pl : Nat) : Int)
    · have ei : ¬ (vd_isE (B k) pos n ((vd_us pl : Nat) : Int) vt = 0) := by rw [eE, if_neg (fun h => h.2 ce)]; decide
      refine ⟨vd_I 1, fun d Q => ?_⟩
      rw [h109, if_neg ei]
      simp (disch := omega) only [vd_S265_109 hN, vd_I_mul, vd_I_toInt, eq_true ce, if_true, vd_S265_115 hN, vd_S265_120 hN, show ¬ ((1 : Int) = 0) by decide, if_false]
    · by_cases c5 : B k 5 = 1
      · by_cases c7 : B k 7 < 0
        · have ei : vd_isE (B k) pos n ((vd_us pl : Nat) : Int) vt = 0 := by rw [eE, if_pos ⟨⟨c5, c7⟩, ce⟩]
          rw [c5] at g89
          rw [if_pos c7] at g90
          refine ⟨0, fun d Q => ?_⟩
          rw [h109, if_pos ei]
          simp (disch := omega) only [vd_S265_109 hN, vd_I_mul, vd_I_toInt, ce, if_false, vd_S265_119 hN, vd_S265_120 hN, if_true, vd_S265_127 hN, vd_S265_133 hN, nu, g89, show ¬ ((1 : Int) = 0) by decide, vd_S265_137 hN, vd_S265_143 hN, g90, vd_S265_147 hN]
        · have ei : ¬ (vd_isE (B k) pos n ((vd_us pl : Nat) : Int) vt = 0) := by rw [eE, if_neg (fun h => c7 h.1.2)]; decide
          rw [c5] at g89
          rw [if_neg c7] at g90
          refine ⟨vd_I 0, fun d Q => ?_⟩
          rw [h109, if_neg ei]
          simp (disch := omega) only [vd_S265_109 hN, vd_I_mul, vd_I_toInt, ce, if_false, vd_S265_119 hN, vd_S265_120 hN, if_true, vd_S265_127 hN, vd_S265_133 hN, nu, g89, show ¬ ((1 : Int) = 0) by decide, vd_S265_137 hN, vd_S265_143 hN, g90]
      · have ei : ¬ (vd_isE (B k) pos n ((vd_us pl : Nat) : Int) vt = 0) := by rw [eE, if_neg (fun h => c5 h.1.1)]; decide
        have c50 : B k 5 = 0 := by omega
        rw [c50] at g89
        refine ⟨vd_I 0, fun d Q => ?_⟩
        rw [h109, if_neg ei]
        simp (disch := omega) only [vd_S265_109 hN, vd_I_mul, vd_I_toInt, ce, if_false, vd_S265_119 hN, vd_S265_120 hN, if_true, vd_S265_127 hN, vd_S265_133 hN, nu, g89]
  · have ei : vd_isE (B k) pos n ((vd_us pl : Nat) : Int) vt = 0 := if_pos (Or.inr cr)
    refine ⟨0, fun d Q => ?_⟩
    rw [h67, if_pos ei, vd_S265_67 hN, vd_I_toInt (by omega) (by omega), if_neg cz, vd_S265_74 hN, sh]
    simp (disch := omega) only [vd_S265_80 hN, vd_I_div, vd_I_mul, vd_I_sub, er, vd_I_toInt, cr, if_false, vd_S265_84 hN]
end VDCR
