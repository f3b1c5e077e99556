/-! ===== looking round for vectors: one pass, as an abstract fold ===== -/
def vd_sp1 (W H : Nat) (O : Nat → Nat → Option Nat) (B : Nat → Nat → Int) (S : Nat → Int) (r sm : Int) (x y w h i : Nat) (s : vd_FT) : vd_FT := match vd_at W H O ((x : Int) + vd_dx w i) ((y : Int) + vd_dy h i) with
  | none => s
  | some k => vd_off S r sm (B k) s
def vd_pfl (W H : Nat) (O : Nat → Nat → Option Nat) (B : Nat → Nat → Int) (S : Nat → Int) (r sm : Int) (x y w h : Nat) : Nat → Nat → vd_FT → vd_FT
  | 0, _, s => s
  | m + 1, i, s => vd_pfl W H O B S r sm x y w h m (i + 1) (vd_sp1 W H O B S r sm x y w h i s)
def vd_lst (mo : Int) (L : Nat → Nat → Nat → Int) (S : Nat → Int) (r sm : Int) (x y : Nat) (s : vd_FT) : vd_FT := if mo = 1 then vd_off S r sm (L x y) s else s
def vd_pas (W H : Nat) (O : Nat → Nat → Option Nat) (B : Nat → Nat → Int) (mo : Int) (L : Nat → Nat → Nat → Int) (S : Nat → Int) (r sm : Int) (x y w h : Nat) (s : vd_FT) : vd_FT := vd_lst mo L S r sm x y (vd_pfl W H O B S r sm x y w h 8 0 s)
theorem vd_addv_2 {s : vd_FT} {x y : Int} (h : s.1 = 2) : vd_addv s x y = s := by
  unfold vd_addv
  rw [if_neg (by omega), if_neg (by omega)]
theorem vd_off_2 {S : Nat → Int} {r sm : Int} {b : Nat → Int} {s : vd_FT} (h : s.1 = 2) : vd_off S r sm b s = s := by
  have e : ∀ its x y, vd_of1 S r sm its x y s = s := fun its x y => by
    unfold vd_of1
    split
    · exact vd_addv_2 h
    · rfl
  unfold vd_off
  rw [e, e]
theorem vd_off_n {S : Nat → Int} {r sm : Int} {b : Nat → Int} {s : vd_FT} (h9 : b 9 = -1) (h10 : b 10 = -1) : vd_off S r sm b s = s := by
  unfold vd_off vd_of1
  rw [h9, h10]
  rfl
section VDPS
variable {M N : vd_M} {ow fa lo lf W H nb : Nat} {O : Nat → Nat → Option Nat} {B : Nat → Nat → Int} {S : Nat → Int} {mo : Int} {L : Nat → Nat → Nat → Int} {r sm ps : Int} {x y w h : Nat}
theorem vd_BV.ov {b : Nat → Int} (h : vd_BV b) : vd_OV b := by
  obtain ⟨_, _, h3, h4, _⟩ := h
  refine ⟨⟨by omega, by omega, by omega, by omega⟩, fun q q1 q2 => ?_⟩
  have := h4 q q1 q2
  omega
theorem vd_sp1_2 {i : Nat} {s : vd_FT} (h2 : s.1 = 2) : vd_sp1 W H O B S r sm x y w h i s = s := by
  unfold vd_sp1
  split
  · rfl
  · exact vd_off_2 h2
theorem vd_pfl_2 : ∀ (m i : Nat) {s : vd_FT}, s.1 = 2 → vd_pfl W H O B S r sm x y w h m i s = s := by
  intro m
  induction m with
  | zero => intro i s _; rfl
  | succ m ih =>
    intro i s h2
    show vd_pfl W H O B S r sm x y w h m (i + 1) (vd_sp1 W H O B S r sm x y w h i s) = s
    rw [vd_sp1_2 h2]
    exact ih (i + 1) h2
/-- what the class's search rests on -/
def vd_QA (ow fa lo lf W H nb : Nat) (O : Nat → Nat → Option Nat) (B : Nat → Nat → Int) (S : Nat → Int) (mo : Int) (L : Nat → Nat → Nat → Int) (x y w h : Nat) (f : Nat → Nat → Int32) : Prop := vd_GA ow fa W H nb O B f ∧ (∀ j, j < 3 → f 19 j = vd_I (S j)) ∧ vd_bx f fa nb x y w h ∧ vd_LA lo lf W H mo L f
theorem vd_QA.keep {f f' : Nat → Nat → Int32} (hM : vd_SC M ow fa lo lf) (k : vd_QA ow fa lo lf W H nb O B S mo L x y w h f) (hf : vd_fF f f') : vd_QA ow fa lo lf W H nb O B S mo L x y w h f' := by
  obtain ⟨k1, k2, ⟨b1, b2, b3, b4⟩, k4⟩ := k
  have hp : (38 ≤ ow ∧ ow ≤ 41 ∧ 38 ≤ fa ∧ fa ≤ 41) ∧ (38 ≤ lo ∧ lo ≤ 41 ∧ 38 ≤ lf ∧ lf ≤ 41) := by
    have := hM.par
    omega
  obtain ⟨⟨p1, p2, p3, p4⟩, p5, p6, p7, p8⟩ := hp
  refine ⟨k1.keep fun c i q => hf c i (by omega) (by omega), fun j hj => by rw [hf _ _ (by omega) (by omega)]; exact k2 j hj, ⟨?_, ?_, ?_, ?_⟩, k4.keep fun c i q => hf c i (by omega) (by omega)⟩ <;> rw [hf _ _ (by omega) (by omega)] <;> assumption
/-- one place -/
theorem vd_T90 (hM : vd_SC M ow fa lo lf) {f : Nat → Nat → Int32} {s : vd_FT} (k : vd_QA ow fa lo lf W H nb O B S mo L x y w h f) (hSv : ∀ j, j < 3 → S j = 0 ∨ S j = 1) (hv : vd_FV s) (hs : vd_FSA s f) (hn : nb < 576) (hx : x < 24) (hy : y < 24) (hw : w ≤ 8) (hh : h ≤ 8) (r0 : 0 ≤ r) (r1 : r ≤ 2) (hps : (ps = 0 ∧ sm = 1) ∨ (ps = 1 ∧ sm = 0)) {i : Nat} (hi : i < 8) (h2 : s.1 < 2) (p : Int32) (a8 : Value) : ∃ f' a8', (∀ d Q, vd_wp (d + 2) 90 62 [.ref 54, .int (vd_I (18 * (nb : Int))), .int (vd_I r), .int (vd_I (x : Int)), .int (vd_I (y : Int)), .int p, .int (vd_I ps), .int (vd_I (i : Int)), a8] [] (vd_mf M f) Q = vd_wp (d + 2) 90 62 [.ref 54, .int (vd_I (18 * (nb : Int))), .int (vd_I r), .int (vd_I (x : Int)), .int (vd_I (y : Int)), .int p, .int (vd_I ps), .int (vd_I ((i + 1 : Nat) : Int)), a8'] [] (vd_mf M f') Q) ∧ vd_FSA (vd_sp1 W H O B S r sm x y w h i s) f' ∧ vd_fF f f' := by
  have ci : (i : Int) < 8 := by omega
  have hdx : -2 ≤ vd_dx w i ∧ vd_dx w i ≤ 8 := by unfold vd_dx; repeat' split <;> omega
  have hdy : -2 ≤ vd_dy h i ∧ vd_dy h i ≤ 8 := by unfold vd_dy; repeat' split <;> omega
  have P92 := fun {d : Nat} {Q : vd_M → (Option Value ⊕ Nat) → Prop} => vd_P92 (d := d) (Q := Q) hM k.2.2.1.2.2.1 hn hi
  have P93 := fun {d : Nat} {Q : vd_M → (Option Value ⊕ Nat) → Prop} => vd_P93 (d := d) (Q := Q) hM k.2.2.1.2.2.2 hn hi
  have P68 := fun {d : Nat} {Q : vd_M → (Option Value ⊕ Nat) → Prop} => vd_P68 (d := d) (Q := Q) (a := (x : Int) + vd_dx w i) (b := (y : Int) + vd_dy h i) hM k.1 (by omega) (by omega) (by omega) (by omega)
  have hf2 : f 54 4 = vd_I s.1 := hs.1
  have hv1 := hv.1
  have mid : ∀ d Q, vd_wp (d + 2) 90 62 [.ref 54, .int (vd_I (18 * (nb : Int))), .int (vd_I r), .int (vd_I (x : Int)), .int (vd_I (y : Int)), .int p, .int (vd_I ps), .int (vd_I (i : Int)), a8] [] (vd_mf M f) Q = vd_wp (d + 2) 90 126 [.ref 54, .int (vd_I (18 * (nb : Int))), .int (vd_I r), .int (vd_I (x : Int)), .int (vd_I (y : Int)), .int p, .int (vd_I ps), .int (vd_I (i : Int)), .int (vd_I (vd_pl (vd_at W H O ((x : Int) + vd_dx w i) ((y : Int) + vd_dy h i))))] [.int (vd_I sm), .int (vd_I r), .int (vd_I (vd_pl (vd_at W H O ((x : Int) + vd_dx w i) ((y : Int) + vd_dy h i)))), .ref fa, .ref 54] (vd_mf M f) Q := fun d Q => by
    rw [vd_S90_62 hM]
    rcases hps with ⟨rfl, rfl⟩ | ⟨rfl, rfl⟩
    · simp (disch := omega) only [vd_S90_69 hM, vd_S90_77 hM, vd_S90_86 hM, vd_S90_89 hM, vd_S90_96 hM, vd_S90_99 hM, vd_S90_100 hM, vd_S90_103 hM, vd_S90_121 hM, P92, P93, P68, vd_rs_v, vd_rs_n, vd_I_add, vd_I_toInt, hf2, h2, ci, if_true, eq_self]
    · simp (disch := omega) only [vd_S90_69 hM, vd_S90_77 hM, vd_S90_86 hM, vd_S90_89 hM, vd_S90_96 hM, vd_S90_99 hM, vd_S90_100 hM, vd_S90_103 hM, vd_S90_125 hM, P92, P93, P68, vd_rs_v, vd_rs_n, vd_I_add, vd_I_toInt, hf2, h2, ci, if_true, if_false, show ¬ ((1 : Int) = 0) by decide]
  have ei : (i : Int) + 1 = ((i + 1 : Nat) : Int) := by omega
  cases e : vd_at W H O ((x : Int) + vd_dx w i) ((y : Int) + vd_dy h i) with
  | none =>
    refine ⟨f, .int (vd_I (-1)), fun d Q => ?_, ?_, fun _ _ _ _ => rfl⟩
    · rw [mid, e]
      simp only [vd_S90_126 hM, vd_S90_129 hM, vd_pl, vd_P94n hM, vd_rs_v, vd_rs_n, vd_I_add, ei]
    · unfold vd_sp1
      rw [e]
      exact hs
  | some kk =>
    obtain ⟨a', b', ea, eb, ha', hb', hO⟩ := vd_at_some e
    have hkk := k.1.2.2.2.1 a' b' kk hO
    have hnb := k.1.2.1.2.2.2.2
    obtain ⟨f', p1, p2, p3⟩ := vd_P94 (P := 18 * kk) (b := B kk) (o1 := fa) (sm := sm) hM (by have := hM.par; omega) hM.kfa hM.lfa k.2.1 hSv (fun q q1 q2 => k.1.2.2.2.2.1 kk q hkk (by omega)) (k.1.2.2.2.2.2 kk hkk).ov hv hs (by omega) r0 r1 (by omega)
    have eP : ((18 * kk : Nat) : Int) = 18 * (kk : Int) := by omega
    rw [eP] at p1
    refine ⟨f', .int (vd_I (18 * (kk : Int))), fun d Q => ?_, ?_, p3⟩
    · rw [mid, e]
      simp only [vd_S90_126 hM, vd_S90_129 hM, vd_pl, p1, vd_rs_v, vd_rs_n, vd_I_add, ei]
    · unfold vd_sp1
      rw [e]
      exact p2
theorem vd_sp1_V {s : vd_FT} {i : Nat} (hV : ∀ i j k, O i j = some k → vd_OV (B k)) (hv : vd_FV s) : vd_FV (vd_sp1 W H O B S r sm x y w h i s) := by
  unfold vd_sp1
  split
  · exact hv
  · rename_i k e
    obtain ⟨a', b', _, _, _, _, hO⟩ := vd_at_some e
    exact vd_off_V hv (hV _ _ _ hO)
theorem vd_pfl_V (hV : ∀ i j k, O i j = some k → vd_OV (B k)) : ∀ (m i : Nat) {s : vd_FT}, vd_FV s → vd_FV (vd_pfl W H O B S r sm x y w h m i s) := by
  intro m
  induction m with
  | zero => intro i s hv; exact hv
  | succ m ih => intro i s hv; exact ih (i + 1) (vd_sp1_V hV hv)
theorem vd_pas_V {s : vd_FT} (hV : ∀ i j k, O i j = some k → vd_OV (B k)) (hL : vd_LV W H mo L) (hx : x < W) (hy : y < H) (hv : vd_FV s) : vd_FV (vd_pas W H O B mo L S r sm x y w h s) := by
  unfold vd_pas vd_lst
  split
  · rename_i c
    exact vd_off_V (vd_pfl_V hV 8 0 hv) (hL.2 c x y hx hy)
  · exact vd_pfl_V hV 8 0 hv
/-- the places one after the other -/
theorem vd_L90 (hM : vd_SC M ow fa lo lf) (hSv : ∀ j, j < 3 → S j = 0 ∨ S j = 1) (hn : nb < 576) (hx : x < 24) (hy : y < 24) (hw : w ≤ 8) (hh : h ≤ 8) (r0 : 0 ≤ r) (r1 : r ≤ 2) (hps : (ps = 0 ∧ sm = 1) ∨ (ps = 1 ∧ sm = 0)) (p : Int32) : ∀ (m i : Nat) (f : Nat → Nat → Int32) (s : vd_FT) (a8 : Value), i + m = 8 → vd_QA ow fa lo lf W H nb O B S mo L x y w h f → vd_FV s → vd_FSA s f → ∃ (f' : Nat → Nat → Int32) (a7 : Int32) (a8' : Value), (∀ d Q, vd_wp (d + 2) 90 62 [.ref 54, .int (vd_I (18 * (nb : Int))), .int (vd_I r), .int (vd_I (x : Int)), .int (vd_I (y : Int)), .int p, .int (vd_I ps), .int (vd_I (i : Int)), a8] [] (vd_mf M f) Q = vd_wp (d + 2) 90 135 [.ref 54, .int (vd_I (18 * (nb : Int))), .int (vd_I r), .int (vd_I (x : Int)), .int (vd_I (y : Int)), .int p, .int (vd_I ps), .int a7, a8'] [] (vd_mf M f') Q) ∧ vd_FSA (vd_pfl W H O B S r sm x y w h m i s) f' ∧ vd_fF f f' := by
  intro m
  induction m with
  | zero =>
    intro i f s a8 hi k hv hs
    have ei : (i : Int) = 8 := by omega
    refine ⟨f, vd_I 8, a8, fun d Q => ?_, hs, fun _ _ _ _ => rfl⟩
    rw [vd_S90_62 hM, ei]
    simp (disch := omega) only [vd_I_toInt, Int.lt_irrefl, if_false]
  | succ m ih =>
    intro i f s a8 hi k hv hs
    by_cases c : s.1 < 2
    · obtain ⟨f1, a8', p1, p2, p3⟩ := vd_T90 hM k hSv hv hs hn hx hy hw hh r0 r1 hps (i := i) (by omega) c p a8
      have hV : vd_FV (vd_sp1 W H O B S r sm x y w h i s) := vd_sp1_V (fun i j kk hO => (k.1.2.2.2.2.2 kk (k.1.2.2.2.1 i j kk hO)).ov) hv
      obtain ⟨f2, a7, a8'', t1, t2, t3⟩ := ih (i + 1) f1 _ a8' (by omega) (k.keep hM p3) hV p2
      exact ⟨f2, a7, a8'', fun d Q => (p1 d Q).trans (t1 d Q), t2, p3.trans t3⟩
    · have c2 : s.1 = 2 := by have := hv.1; omega
      refine ⟨f, vd_I (i : Int), a8, fun d Q => ?_, by rw [vd_pfl_2 (m + 1) i c2]; exact hs, fun _ _ _ _ => rfl⟩
      have ci : (i : Int) < 8 := by omega
      rw [vd_S90_62 hM]
      simp (disch := omega) only [vd_S90_69 hM, hs.1, c2, ci, vd_I_toInt, Int.lt_irrefl, if_true, if_false]
end VDPS
