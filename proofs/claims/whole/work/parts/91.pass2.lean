/-! ===== both passes of the class ===== -/
section VDPT
variable {M N : vd_M} {ow fa lo lf W H nb : Nat} {O : Nat → Nat → Option Nat} {B : Nat → Nat → Int} {S : Nat → Int} {mo : Int} {L : Nat → Nat → Nat → Int} {r sm ps : Int} {x y w h : Nat}
/-- where the facts of the frame before begin -/
def vd_lp (lf : Nat) (mo : Int) (L : Nat → Nat → Nat → Int) (x y : Nat) (p : Int) (f : Nat → Nat → Int32) : Prop := (mo = 0 ∧ p = -1) ∨ (mo = 1 ∧ ∃ k : Nat, k < 576 ∧ p = 18 * (k : Int) ∧ ∀ q, 9 ≤ q → q < 16 → f lf (18 * k + q) = vd_I (L x y q))
theorem vd_B90 (hM : vd_SC M ow fa lo lf) {f : Nat → Nat → Int32} {s : vd_FT} {p : Int} (k : vd_QA ow fa lo lf W H nb O B S mo L x y w h f) (hL : vd_LV W H mo L) (hp : vd_lp lf mo L x y p f) (hSv : ∀ j, j < 3 → S j = 0 ∨ S j = 1) (hv : vd_FV s) (hs : vd_FSA s f) (hn : nb < 576) (hx : x < W) (hy : y < H) (hw : w ≤ 8) (hh : h ≤ 8) (r0 : 0 ≤ r) (r1 : r ≤ 2) (hps : (ps = 0 ∧ sm = 1) ∨ (ps = 1 ∧ sm = 0)) (a7 a8 : Value) : ∃ f' a7' a8', (∀ d Q, vd_wp (d + 2) 90 53 [.ref 54, .int (vd_I (18 * (nb : Int))), .int (vd_I r), .int (vd_I (x : Int)), .int (vd_I (y : Int)), .int (vd_I p), .int (vd_I ps), a7, a8] [] (vd_mf M f) Q = vd_wp (d + 2) 90 53 [.ref 54, .int (vd_I (18 * (nb : Int))), .int (vd_I r), .int (vd_I (x : Int)), .int (vd_I (y : Int)), .int (vd_I p), .int (vd_I (ps + 1)), a7', a8'] [] (vd_mf M f') Q) ∧ vd_FSA (vd_pas W H O B mo L S r sm x y w h s) f' ∧ vd_fF f f' := by
  have hW := k.1.2.1
  obtain ⟨f1, a7', a8', p1, p2, p3⟩ := vd_L90 hM hSv hn (by omega) (by omega) hw hh r0 r1 hps (vd_I p) 8 0 f s a8 rfl k hv hs
  have hV := vd_pfl_V (W := W) (H := H) (S := S) (r := r) (sm := sm) (x := x) (y := y) (w := w) (h := h) (fun i j kk hO => (k.1.2.2.2.2.2 kk (k.1.2.2.2.1 i j kk hO)).ov) 8 0 hv
  have hpar : (38 ≤ lf ∧ lf ≤ 41) := by
    have := hM.par
    omega
  have c2 : ps < 2 := by omega
  have i0 : ((0 : Nat) : Int) = 0 := rfl
  have head : ∀ d Q, vd_wp (d + 2) 90 53 [.ref 54, .int (vd_I (18 * (nb : Int))), .int (vd_I r), .int (vd_I (x : Int)), .int (vd_I (y : Int)), .int (vd_I p), .int (vd_I ps), a7, a8] [] (vd_mf M f) Q = vd_wp (d + 2) 90 156 [.ref 54, .int (vd_I (18 * (nb : Int))), .int (vd_I r), .int (vd_I (x : Int)), .int (vd_I (y : Int)), .int (vd_I p), .int (vd_I ps), .int a7', a8'] [.int (vd_I sm), .int (vd_I r), .int (vd_I p), .ref lf, .ref 54] (vd_mf M f1) Q := fun d Q => by
    rw [i0] at p1
    rw [vd_S90_53 hM]
    rcases hps with ⟨rfl, rfl⟩ | ⟨rfl, rfl⟩
    · simp (disch := omega) only [vd_S90_59 hM, p1, vd_S90_135 hM, vd_S90_151 hM, vd_I_toInt, c2, if_true, eq_self]
    · simp (disch := omega) only [vd_S90_59 hM, p1, vd_S90_135 hM, vd_S90_155 hM, vd_I_toInt, c2, if_true, if_false, show ¬ ((1 : Int) = 0) by decide]
  rcases hp with ⟨c, rfl⟩ | ⟨c, kk, k1, rfl, k3⟩
  · refine ⟨f1, .int a7', a8', fun d Q => ?_, ?_, p3⟩
    · rw [head]
      simp only [vd_S90_156 hM, vd_S90_159 hM, vd_P94n hM, vd_rs_v, vd_rs_n, vd_I_add]
    · unfold vd_pas vd_lst
      rw [if_neg (by omega)]
      exact p2
  · obtain ⟨f2, t1, t2, t3⟩ := vd_P94 (P := 18 * kk) (b := L x y) (o1 := lf) (sm := sm) (f := f1) hM (by omega) hM.klf hM.llf (k.keep hM p3).2.1 hSv (fun q q1 q2 => by rw [p3 _ _ (by omega) (by omega)]; exact k3 q q1 q2) (hL.2 c x y hx hy) hV p2 (by omega) r0 r1 (by omega)
    have eP : ((18 * kk : Nat) : Int) = 18 * (kk : Int) := by omega
    rw [eP] at t1
    refine ⟨f2, .int a7', a8', fun d Q => ?_, ?_, p3.trans t3⟩
    · rw [head]
      simp only [vd_S90_156 hM, vd_S90_159 hM, t1, vd_rs_v, vd_rs_n, vd_I_add]
    · unfold vd_pas vd_lst
      rw [if_pos c]
      exact t2
/-- what is found, before it is made even and held -/
def vd_fnd (W H : Nat) (O : Nat → Nat → Option Nat) (B : Nat → Nat → Int) (mo : Int) (L : Nat → Nat → Nat → Int) (S : Nat → Int) (r : Int) (x y w h : Nat) : vd_FT := vd_pas W H O B mo L S r 0 x y w h (vd_pas W H O B mo L S r 1 x y w h (0, (0, 0), (0, 0)))
theorem vd_FV0 : vd_FV (0, (0, 0), (0, 0)) := ⟨Or.inl rfl, by decide, by decide, fun _ => rfl, fun _ => rfl⟩
theorem vd_fnd_V (hV : ∀ i j k, O i j = some k → vd_OV (B k)) (hL : vd_LV W H mo L) (hx : x < W) (hy : y < H) : vd_FV (vd_fnd W H O B mo L S r x y w h) := vd_pas_V hV hL hx hy (vd_pas_V hV hL hx hy vd_FV0)
theorem vd_A90 (hM : vd_SC M ow fa lo lf) {f : Nat → Nat → Int32} (k : vd_QA ow fa lo lf W H nb O B S mo L x y w h f) (hL : vd_LV W H mo L) (hSv : ∀ j, j < 3 → S j = 0 ∨ S j = 1) (hn : nb < 576) (hx : x < W) (hy : y < H) (hw : w ≤ 8) (hh : h ≤ 8) (r0 : 0 ≤ r) (r1 : r ≤ 2) : ∃ (f' : Nat → Nat → Int32) (p : Int32) (a7 a8 : Value), (∀ d Q, vd_wp (d + 2) 90 0 [.ref 54, .int (vd_I (18 * (nb : Int))), .int (vd_I r), vd_U, vd_U, vd_U, vd_U, vd_U, vd_U] [] (vd_mf M f) Q = vd_wp (d + 2) 90 168 [.ref 54, .int (vd_I (18 * (nb : Int))), .int (vd_I r), .int (vd_I (x : Int)), .int (vd_I (y : Int)), .int p, .int (vd_I 0), a7, a8] [] (vd_mf M f') Q) ∧ vd_FSA (vd_fnd W H O B mo L S r x y w h) f' ∧ vd_fF f f' := by
  have hpar : (38 ≤ lf ∧ lf ≤ 41) := by
    have := hM.par
    omega
  have F0 : vd_fF f (vd_uf (vd_up f 54 4 (vd_I 0)) 56 0 4 (vd_I 0)) := fun c i q1 q2 => by rw [vd_uf_ne (by omega), vd_up_ne (by omega)]
  have S0 : vd_FSA (0, (0, 0), (0, 0)) (vd_uf (vd_up f 54 4 (vd_I 0)) 56 0 4 (vd_I 0)) := ⟨by rw [vd_uf_ne (by omega), vd_up_eq], vd_uf_in (by decide) (by decide), vd_uf_in (by decide) (by decide), vd_uf_in (by decide) (by decide), vd_uf_in (by decide) (by decide)⟩
  have P286 := fun {d : Nat} {Q : vd_M → (Option Value ⊕ Nat) → Prop} => vd_F286 (o := 56) (len := 4) (x := vd_I 0) (M := M) (f := vd_up f 54 4 (vd_I 0)) (d := d) (Q := Q) (by decide) hM.k56 hM.l56 (by decide)
  generalize vd_uf (vd_up f 54 4 (vd_I 0)) 56 0 4 (vd_I 0) = f0 at *
  have k0 := k.keep hM F0
  obtain ⟨b1, b2, b3, b4⟩ := k0.2.2.1
  obtain ⟨p, P91, hp⟩ := vd_P91 hM k0.1 k0.2.2.2 hL.1 hx hy
  have e0 : (18 * (nb : Int) + 0).toNat = 18 * nb := by omega
  have e1 : (18 * (nb : Int) + 1).toNat = 18 * nb + 1 := by omega
  obtain ⟨f1, a7, a8, p1, p2, p3⟩ := vd_B90 (ps := 0) (sm := 1) hM k0 hL hp hSv vd_FV0 S0 hn hx hy hw hh r0 r1 (Or.inl ⟨rfl, rfl⟩) vd_U vd_U
  have hp' : vd_lp lf mo L x y p f1 := by
    rcases hp with c | ⟨c, kk, k1, k2, k3⟩
    · exact Or.inl c
    · exact Or.inr ⟨c, kk, k1, k2, fun q q1 q2 => by rw [p3 _ _ (by omega) (by omega)]; exact k3 q q1 q2⟩
  have hV1 := vd_pas_V (W := W) (H := H) (S := S) (r := r) (sm := 1) (w := w) (h := h) (fun i j kk hO => (k.1.2.2.2.2.2 kk (k.1.2.2.2.1 i j kk hO)).ov) hL hx hy vd_FV0
  obtain ⟨f2, a7', a8', t1, t2, t3⟩ := vd_B90 (ps := 0 + 1) (sm := 0) hM (k0.keep hM p3) hL hp' hSv hV1 p2 hn hx hy hw hh r0 r1 (Or.inr ⟨rfl, rfl⟩) a7 a8
  refine ⟨f2, vd_I p, a7', a8', fun d Q => ?_, t2, (F0.trans p3).trans t3⟩
  simp (disch := omega) only [vd_S90_0 hM, vd_S90_10 hM, vd_S90_13 hM, vd_S90_23 hM, vd_S90_35 hM, vd_S90_45 hM, vd_S90_48 hM, P286, P91, vd_rs_v, vd_rs_n, vd_I_add, e0, e1, b1, b2]
  refine (p1 d Q).trans ((t1 d Q).trans ?_)
  rw [vd_S90_53 hM]
  simp (disch := omega) only [vd_S90_165 hM, vd_I_toInt, show (0 + 1 + 1 : Int) = 2 by decide, Int.lt_irrefl, if_false]
end VDPT
