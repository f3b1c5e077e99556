/-! ===== the filter: one cell of four samples, the class ===== -/
theorem vd_isE_v (b : Nat → Int) (pos n un vt : Int) : vd_isE b pos n un vt = 0 ∨ vd_isE b pos n un vt = 1 := by
  unfold vd_isE
  by_cases c : pos = 0 ∨ pos % n ≠ 0
  · rw [if_pos c]
    exact Or.inl rfl
  · rw [if_neg c]
    by_cases c2 : (b 5 = 1 ∧ b 7 < 0) ∧ pos ≠ un * (if vt = 1 then b 1 else b 0)
    · rw [if_pos c2]
      exact Or.inl rfl
    · rw [if_neg c2]
      exact Or.inr rfl
section VDCE
variable {M N : vd_M} {ow fa lo lf W H nb p s q pl X4 Y4 : Nat} {O : Nat → Nat → Option Nat} {B X : Nat → Nat → Int} {pw ph vt : Int} {f g : Nat → Nat → Int32}
/-- what the filter reads -/
def vd_FC (ow fa W H nb : Nat) (O : Nat → Nat → Option Nat) (B X : Nat → Nat → Int) (f g : Nat → Nat → Int32) : Prop := vd_GA ow fa W H nb O B f ∧ vd_GB W H O B g ∧ (vd_CA X f ∧ vd_CB X g) ∧ (∀ k, k < nb → f 61 k = vd_I (vd_lv X (B k)))
theorem vd_FC.keep (hM : vd_SC M ow fa lo lf) (hp : vd_PC M p s) (hq : vd_PD N q) (k : vd_FC ow fa W H nb O B X f g) {f' g' : Nat → Nat → Int32} (hf : vd_fFl s f f') (hg : vd_gFl q g g') : vd_FC ow fa W H nb O B X f' g' := by
  have hpar := vd_par4 hM
  have hp' := hp.2.2
  have hq' := hq.2.2.2
  obtain ⟨ga, gb, ⟨ca, cb⟩, lv⟩ := k
  refine ⟨ga.keep fun c i a => hf c i (by omega) (by omega) (by omega), gb.keep fun c i a => hg c i (by omega) (by omega) (by omega), ⟨ca.keep fun c i a1 a2 => hf c i (by omega) (by omega) (by omega), cb.keep fun c i a => by unfold vd_inB at a; exact hg c i (by omega) (by omega) (by omega)⟩, fun k hk => ?_⟩
  rw [hf _ _ (by omega) (by omega) (by omega)]
  exact lv k hk
/-- the class, up to the limits -/
theorem vd_G138 (hM : vd_SC M ow fa lo lf) (hX : vd_XV X) (fc : vd_FC ow fa W H nb O B X f g) (hpl : pl < 3) (hvt : vt = 0 ∨ vt = 1) (hx : X4 < vd_cu pl * W) (hy : Y4 < vd_cu pl * H) {k : Nat} (hO : O (X4 / vd_cu pl) (Y4 / vd_cu pl) = some k) {w h sz : Nat} (b2 : B k 2 = (w : Int)) (b3 : B k 3 = (h : Int)) (ez : vd_szP (B k) w h pl = (sz : Int)) (hs : sz < 4) (st ot : Int32) (a8 a9 a10 a11 : Value) (d : Nat) (Q : vd_M → (Option Value ⊕ Nat) → Prop) : vd_wp (d + 2) 138 72 [.ref 60, .int (vd_I (pl : Int)), .int (vd_I (1 - vt)), .int (vd_I ((vd_cu pl : Nat) : Int)), .int st, .int ot, .int (vd_I (Y4 : Int)), .int (vd_I (X4 : Int)), a8, a9, a10, a11] [] (vd_mf M f) Q = if vd_isE (B k) (4 * (if vt = 1 then (Y4 : Int) else (X4 : Int))) ((vd_sn sz : Nat) : Int) ((vd_us pl : Nat) : Int) vt = 0 then vd_wp (d + 2) 138 201 [.ref 60, .int (vd_I (pl : Int)), .int (vd_I (1 - vt)), .int (vd_I ((vd_cu pl : Nat) : Int)), .int st, .int ot, .int (vd_I (Y4 : Int)), .int (vd_I (X4 : Int)), .int (vd_I (18 * (k : Int))), .int (vd_I ((vd_sn sz : Nat) : Int)), a10, a11] [] (vd_mf M f) Q else vd_wp (d + 2) 138 146 [.ref 60, .int (vd_I (pl : Int)), .int (vd_I (1 - vt)), .int (vd_I ((vd_cu pl : Nat) : Int)), .int st, .int ot, .int (vd_I (Y4 : Int)), .int (vd_I (X4 : Int)), .int (vd_I (18 * (k : Int))), .int (vd_I ((vd_sn sz : Nat) : Int)), a10, a11] [.int (vd_I (vd_lv X (B k))), .ref 60] (vd_mf M f) Q := by
  obtain ⟨ga, gb, ⟨ca, cb⟩, lv⟩ := id fc
  obtain ⟨⟨f2, f3⟩, ⟨W1, W2, H1, H2, nb1⟩, _, k2, k3, k4⟩ := id ga
  have hk : k < nb := k2 _ _ _ hO
  have bV := k4 k hk
  have nbz := vd_nnb hs
  have hn4 : ((vd_sn sz : Nat) : Int) = 4 ∨ ((vd_sn sz : Nat) : Int) = 8 ∨ ((vd_sn sz : Nat) : Int) = 16 ∨ ((vd_sn sz : Nat) : Int) = 32 := by rcases vd_nn_v hs with ⟨_, e⟩ | ⟨_, e⟩ | ⟨_, e⟩ | ⟨_, e⟩ <;> rw [e] <;> decide
  have cuv := vd_cu_v pl
  have cI : ((vd_cu pl : Nat) : Int) = 1 ∨ ((vd_cu pl : Nat) : Int) = 2 := by omega
  have uI : ((vd_us pl : Nat) : Int) = 4 * ((vd_cu pl : Nat) : Int) := by omega
  have xb : X4 < 48 ∧ Y4 < 48 := by
    rcases cuv with ⟨_, e, _⟩ | ⟨_, e, _⟩ <;> rw [e] at hx hy <;> omega
  have ub : X4 / vd_cu pl < W ∧ Y4 / vd_cu pl < H := by
    rcases cuv with ⟨_, e, _⟩ | ⟨_, e, _⟩ <;> rw [e] at hx hy ⊢ <;> omega
  have dI : (X4 : Int) / ((vd_cu pl : Nat) : Int) = ((X4 / vd_cu pl : Nat) : Int) ∧ (Y4 : Int) / ((vd_cu pl : Nat) : Int) = ((Y4 / vd_cu pl : Nat) : Int) := ⟨by rw [Int.natCast_ediv], by rw [Int.natCast_ediv]⟩
  generalize X4 / vd_cu pl = ux at *
  generalize Y4 / vd_cu pl = uy at *
  have eat : vd_at W H O ((ux : Nat) : Int) ((uy : Nat) : Int) = some k := by
    unfold vd_at
    rw [if_pos (by omega), Int.toNat_natCast, Int.toNat_natCast]
    exact hO
  have P68 := fun (d : Nat) (Q : vd_M → (Option Value ⊕ Nat) → Prop) => vd_P68 (d := d) (Q := Q) (a := ((ux : Nat) : Int)) (b := ((uy : Nat) : Int)) hM ga (by omega) (by omega) (by omega) (by omega)
  rw [eat] at P68
  have P113 := vd_P113 (nb := k) (b := B k) (w := w) (h := h) hM (by omega) bV (fun j hj => k3 k j hk hj) b2 b3 hpl
  rw [ez] at P113
  have sh := vd_sh4 hs
  have P140 := fun cell c0 => vd_P140 (k := k) (b := B k) (cell := cell) (n := ((vd_sn sz : Nat) : Int)) (cu := ((vd_cu pl : Nat) : Int)) (vt := vt) hM (by omega) (fun j hj => k3 k j hk hj) bV c0 hn4 cI hvt
  have d18 : 18 * (k : Int) / 18 = (k : Int) := by omega
  have nk : ((k : Nat) : Int).toNat = k := Int.toNat_natCast k
  have lk := lv k hk
  have head : vd_wp (d + 2) 138 72 [.ref 60, .int (vd_I (pl : Int)), .int (vd_I (1 - vt)), .int (vd_I ((vd_cu pl : Nat) : Int)), .int st, .int ot, .int (vd_I (Y4 : Int)), .int (vd_I (X4 : Int)), a8, a9, a10, a11] [] (vd_mf M f) Q = vd_wp (d + 2) 138 132 [.ref 60, .int (vd_I (pl : Int)), .int (vd_I (1 - vt)), .int (vd_I ((vd_cu pl : Nat) : Int)), .int st, .int ot, .int (vd_I (Y4 : Int)), .int (vd_I (X4 : Int)), .int (vd_I (18 * (k : Int))), .int (vd_I ((vd_sn sz : Nat) : Int)), a10, a11] [.int (vd_I (vd_isE (B k) (4 * (if vt = 1 then (Y4 : Int) else (X4 : Int))) ((vd_sn sz : Nat) : Int) ((vd_us pl : Nat) : Int) vt))] (vd_mf M f) Q := by
    rw [uI]
    rcases hvt with rfl | rfl
    · have P := P140 (X4 : Int) (by omega)
      rw [if_neg (show ¬ ((0 : Int) = 1) by decide)]
      simp (disch := omega) only [vd_S138_72 hM, vd_S138_79 hM, vd_I_div, dI.1, vd_S138_83 hM, dI.2, vd_S138_84 hM, P68, vd_pl, vd_S138_87 hM, vd_S138_97 hM, P113, vd_S138_100 hM, sh, vd_I_toInt, show ¬ ((1 - 0 : Int) = 0) by decide, if_false, vd_S138_110 hM, vd_S138_117 hM, vd_S138_121 hM, vd_S138_126 hM, vd_S138_129 hM, P, vd_rs_v, vd_rs_n]
    · have P := P140 (Y4 : Int) (by omega)
      rw [if_pos (show (1 : Int) = 1 from rfl)]
      simp (disch := omega) only [vd_S138_72 hM, vd_S138_79 hM, vd_I_div, dI.1, vd_S138_83 hM, dI.2, vd_S138_84 hM, P68, vd_pl, vd_S138_87 hM, vd_S138_97 hM, P113, vd_S138_100 hM, sh, vd_I_toInt, show ((1 - 1 : Int) = 0) from rfl, if_true, vd_S138_115 hM, vd_S138_117 hM, vd_S138_125 hM, vd_S138_126 hM, vd_S138_129 hM, P, vd_rs_v, vd_rs_n]
  have ev := vd_isE_v (B k) (4 * (if vt = 1 then (Y4 : Int) else (X4 : Int))) ((vd_sn sz : Nat) : Int) ((vd_us pl : Nat) : Int) vt
  rw [head, vd_S138_132 hM, vd_I_toInt (by omega) (by omega)]
  by_cases c : vd_isE (B k) (4 * (if vt = 1 then (Y4 : Int) else (X4 : Int))) ((vd_sn sz : Nat) : Int) ((vd_us pl : Nat) : Int) vt = 0
  · rw [if_pos c, if_pos c]
  · rw [if_neg c, if_neg c]
    simp (disch := omega) only [vd_S138_135 hM, vd_I_div, d18, vd_S138_145 hM, nk, lk]
end VDCE
