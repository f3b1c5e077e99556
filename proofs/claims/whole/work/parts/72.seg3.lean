/-! ===== readSegment, both ===== -/
section VDSG3
variable {M N : vd_M} {ow fa lo lf W H nb : Nat} {O : Nat → Nat → Option Nat} {B : Nat → Nat → Int} {X : Nat → Nat → Int} {mp : Nat → Nat → Int} {x y w h n : Nat} {f g : Nat → Nat → Int32}
/-- a neighbour's fact counted by both, where the reference has a flag for it -/
theorem vd_cnt2 (hN : vd_SR N) (k : vd_BK ow fa W H nb O B X mp x y w h n f g) (hc : vd_BC W H nb X mp x y w h) {o q : Nat} {v : Int} (hk : vd_k N o = 34) (hl : vd_l N o = 576) (hF : ∀ i j k, i < W → j < H → O i j = some k → g o (W * j + i) = vd_I (if B k q = v then 1 else 0)) (d : Nat) (Q : vd_M → (Option Value ⊕ Nat) → Prop) : vd_wp d 200 0 [.ref 63, .ref o] [] (vd_mf N g) Q = Q (vd_mf N g) (.inl (some (.int (vd_I (vd_eq1 B (vd_at W H O (x : Int) ((y : Int) - 1)) q v + vd_eq1 B (vd_at W H O ((x : Int) - 1) (y : Int)) q v))))) := by
  obtain ⟨_, _, _, _, _, _, _, _, ⟨u1, u2⟩⟩ := k
  obtain ⟨_, _, ⟨w1, w2, w3, w4⟩, _⟩ := hc
  have h01 : ∀ k : Nat, (if B k q = v then (1 : Int) else 0) = 0 ∨ (if B k q = v then (1 : Int) else 0) = 1 := fun k => by split <;> simp
  obtain ⟨a, ha⟩ := vd_nbflag (O := O) (g := g) (o := o) (F := fun k => if B k q = v then 1 else 0) w2 w4 (a := (x : Int)) (b := (y : Int) - 1) rfl rfl hF (fun k _ => h01 k)
  obtain ⟨b, hb⟩ := vd_nbflag (O := O) (g := g) (o := o) (F := fun k => if B k q = v then 1 else 0) w2 w4 (a := (x : Int) - 1) (b := (y : Int)) (v := (y : Int) * (W : Int) + (x : Int) - 1) rfl (by omega) hF (fun k _ => h01 k)
  have e := vd_P200 (d := d) (Q := Q) hN hk hl u1 u2 ha hb
  rw [e]
  unfold vd_eq1
  cases vd_at W H O (x : Int) ((y : Int) - 1) <;> cases vd_at W H O ((x : Int) - 1) (y : Int) <;> rfl
/-- the class's alike in the midst of a block -/
theorem vd_alk (hM : vd_SC M ow fa lo lf) (k : vd_BK ow fa W H nb O B X mp x y w h n f g) (hc : vd_BC W H nb X mp x y w h) {q : Nat} {v : Int} (hq : q < 18) (v0 : -100 ≤ v) (v1 : v ≤ 100) (d : Nat) (Q : vd_M → (Option Value ⊕ Nat) → Prop) : vd_wp d 73 0 [.ref 44, .int (vd_I (q : Int)), .int (vd_I v), vd_U] [] (vd_mf M f) Q = Q (vd_mf M f) (.inl (some (.int (vd_I (vd_eq1 B (vd_at W H O (x : Int) ((y : Int) - 1)) q v + vd_eq1 B (vd_at W H O ((x : Int) - 1) (y : Int)) q v))))) := by
  obtain ⟨_, ⟨_, ⟨_, _, _, _, nb1⟩, _, k2, k3, k4⟩, _, _, _, ⟨_, a2, a3⟩, _⟩ := k
  have hat : ∀ a b k, vd_at W H O a b = some k → k < nb := fun a b k e => by
    obtain ⟨i, j, _, _, _, _, e2⟩ := vd_at_some e
    exact k2 i j k e2
  refine vd_P73 hM a2 a3 (hat _ _) (hat _ _) nb1 k3 (fun k q hk hq => ?_) hq (by omega) (by omega)
  obtain ⟨b1, b2, b3, b4, b5, b6, b7⟩ := k4 k hk
  have b4 := fun (q1 : 12 ≤ q) (q2 : q < 16) => b4 q q1 q2
  rcases (show q = 0 ∨ q = 1 ∨ q = 2 ∨ q = 3 ∨ q = 4 ∨ q = 5 ∨ q = 6 ∨ q = 7 ∨ q = 8 ∨ q = 9 ∨ q = 10 ∨ q = 11 ∨ (12 ≤ q ∧ q < 16) ∨ q = 16 ∨ q = 17 by omega) with rfl | rfl | rfl | rfl | rfl | rfl | rfl | rfl | rfl | rfl | rfl | rfl | c | rfl | rfl
  case inr.inr.inr.inr.inr.inr.inr.inr.inr.inr.inr.inr.inl => have := b4 c.1 c.2; omega
  all_goals omega
def vd_SegPost (M N : vd_M) (ow fa W H nb : Nat) (O : Nat → Nat → Option Nat) (B : Nat → Nat → Int) (X : Nat → Nat → Int) (x y w h n : Nat) (f g : Nat → Nat → Int32) : Prop := ∃ (f' g' : Nat → Nat → Int32) (sg rt : Int) (mp' : Nat → Nat → Int), (∀ d Q, vd_wp (d + 3) 71 0 [.ref 44, vd_U, vd_U] [] (vd_mf M f) Q = Q (vd_mf M f') (.inl (some (.int (vd_I sg))))) ∧ (∀ d Q, vd_wp (d + 1) 199 0 [.ref 63, vd_U, vd_U, vd_U] [] (vd_mf N g) Q = Q (vd_mf N g') (.inl none)) ∧ vd_BK ow fa W H nb O B X mp' x y w h (n + 4) f' g' ∧ (∀ i j, 0 ≤ mp' i j ∧ mp' i j ≤ 7) ∧ ((0 ≤ sg ∧ sg ≤ 7) ∧ (rt = 0 ∨ rt = 1)) ∧ (f' fa (18 * nb + 17) = vd_I rt ∧ g' 63 103 = vd_I sg ∧ g' 63 112 = vd_I rt) ∧ (∀ q, q ≠ 17 → f' fa (18 * nb + q) = f fa (18 * nb + q)) ∧ (∀ i, 104 ≤ i → i ≠ 112 → g' 63 i = g 63 i) ∧ vd_fB fa f f' ∧ vd_gB g g'
theorem vd_segFin (hM : vd_SC M ow fa lo lf) (hN : vd_SR N) {f1 g1 : Nat → Nat → Int32} {sg rt : Int} {a1 a2 : Int32} {c2 a3 : Value} (k : vd_BK ow fa W H nb O B X mp x y w h (n + 4) f1 g1) (hc : vd_BC W H nb X mp x y w h) (hs : g1 63 103 = vd_I sg) (s0 : 0 ≤ sg) (s1 : sg ≤ 7) (r01 : rt = 0 ∨ rt = 1) (hr : g1 63 112 = vd_I rt) (h17 : f1 fa (18 * nb + 17) = vd_I rt) (hq : ∀ q, q ≠ 17 → f1 fa (18 * nb + q) = f fa (18 * nb + q)) (hi : ∀ i, 104 ≤ i → i ≠ 112 → g1 63 i = g 63 i) (hF : vd_fB fa f f1) (hG : vd_gB g g1) (eF : ∀ d Q, vd_wp (d + 3) 71 0 [.ref 44, vd_U, vd_U] [] (vd_mf M f) Q = vd_wp (d + 3) 71 105 [.ref 44, .int (vd_I sg), c2] [] (vd_mf M f1) Q) (eG : ∀ d Q, vd_wp (d + 1) 199 0 [.ref 63, vd_U, vd_U, vd_U] [] (vd_mf N g) Q = vd_wp (d + 1) 199 231 [.ref 63, .int a1, .int a2, a3] [] (vd_mf N g1) Q) : vd_SegPost M N ow fa W H nb O B X x y w h n f g := by
  have hw2 := hc.2.2.1.2.1
  have hm := hc.2.1
  have he := vd_segEnd hM hN k hc hs
  have hp := vd_par_ne hM
  have hfa : fa ≠ 42 := by omega
  clear hp
  refine ⟨_, _, sg, rt, vd_mps mp x (min W (x + w)) y (min H (y + h) - y) sg, fun d Q => (eF d Q).trans (he.1 _ d Q), fun d Q => (eG d Q).trans (he.2 _ _ _ d Q), vd_BK.map hM k hw2 (Nat.min_le_left _ _), fun i j => ?_, ⟨⟨s0, s1⟩, r01⟩, ⟨?_, ?_, ?_⟩, fun q hq' => ?_, fun i q1 q2 => ?_, ?_, ?_⟩
  · unfold vd_mps
    split
    · exact ⟨s0, s1⟩
    · exact hm i j
  · rw [vd_ur_ne hfa]; exact h17
  · rw [vd_ur_ne (by decide)]; exact hs
  · rw [vd_ur_ne (by decide)]; exact hr
  · rw [vd_ur_ne hfa]; exact hq q hq'
  · rw [vd_ur_ne (by decide)]; exact hi i q1 q2
  · exact hF.trans fun c i q1 q2 q3 q4 q5 q6 q7 => vd_ur_ne q4 _ _
  · exact hG.trans fun c i q1 q2 q3 q4 q5 => vd_ur_ne q2 _ _
theorem vd_readSeg (hM : vd_SC M ow fa lo lf) (hN : vd_SR N) (k : vd_BK ow fa W H nb O B X mp x y w h n f g) (hc : vd_BC W H nb X mp x y w h) (hn : n + 4 ≤ 8000000) (h17 : f fa (18 * nb + 17) = vd_I 0) : vd_SegPost M N ow fa W H nb O B X x y w h n f g := by
  have hwh : 1 ≤ w ∧ w ≤ 8 ∧ 1 ≤ h ∧ h ≤ 8 := by
    obtain ⟨_, _, _, _, _, hw, hh⟩ := hc
    omega
  have hc' := hc
  obtain ⟨hX, hm, ⟨w1, w2, w3, w4⟩, hnb, ⟨hx1, hy1⟩, _⟩ := hc'
  obtain ⟨hw1, hw2, hh1, hh2⟩ := hwh
  have hxl : x ≤ W := Nat.le_of_lt hx1
  have hyl : y ≤ H := Nat.le_of_lt hy1
  have hxp : 0 < min W (x + w) - x := by omega
  have hyp : ∃ m, min H (y + h) - y = m + 1 := ⟨min H (y + h) - y - 1, by omega⟩
  have hxe : x + (min W (x + w) - x) = min W (x + w) := by omega
  have hye : y + 0 + (min H (y + h) - y) = min H (y + h) := by omega
  have s5 := hX.1.2.2.2.2.2.1
  have kg1 : vd_BK ow fa W H nb O B X mp x y w h n f (vd_up (vd_up g 63 103 (vd_I 0)) 63 112 (vd_I 0)) := (k.note (Or.inl ⟨rfl, by decide⟩)).note (Or.inl ⟨rfl, by decide⟩)
  have hA := k.2.2.2.1.1
  have hB := k.2.2.2.1.2
  have a5 : f 20 6 = vd_I (X 0 5) := hA.2.2.1.1
  have a6 : f 20 7 = vd_I (X 0 6) := hA.2.2.1.2.1
  have a7 : f 20 8 = vd_I (X 0 7) := hA.2.2.1.2.2.1
  have b5 : g 63 36 = vd_I (X 0 5) := hB.2.1.1
  have b6 : g 63 37 = vd_I (X 0 6) := hB.2.1.2.1
  have b7 : g 63 38 = vd_I (X 0 7) := hB.2.1.2.2.1
  have b0 : g 63 33 = vd_I (X 0 0) := hB.1.1
  have here : f 44 8 = vd_I (18 * (nb : Int)) := k.2.2.2.2.2.1.1
  have by' := k.2.2.2.2.2.2.2.1
  have GU : vd_gB g (vd_up (vd_up g 63 103 (vd_I 0)) 63 112 (vd_I 0)) := ((vd_gB.refl g).up (by omega)).up (by omega)
  rcases s5 with s5 | s5
  · refine ⟨f, vd_up (vd_up g 63 103 (vd_I 0)) 63 112 (vd_I 0), 0, 0, mp, fun d Q => ?_, fun d Q => ?_, kg1.keepR (kg1.1.mono (by omega)) (fun _ _ _ => rfl) (fun _ _ _ => rfl), hm, ⟨by decide, Or.inl rfl⟩, ⟨h17, ?_, ?_⟩, fun _ _ => rfl, fun i q1 q2 => ?_, vd_fB.refl fa f, GU⟩
    · simp (disch := omega) only [vd_S71_0 hM, vd_S71_10 hM, a5, s5, vd_I_toInt, eq_self, if_true]
    · simp (disch := omega) only [vd_S199_0 hN, vd_S199_17 hN, b5, s5, vd_I_toInt, eq_self, if_true]
    · rw [vd_up_ne (by omega), vd_up_eq]
    · rw [vd_up_eq]
    · rw [vd_up_ne (by omega), vd_up_ne (by omega)]
  · -- the least of the map
    have hlm : vd_lm mp x (min W (x + w) - x) y (min H (y + h) - y) 8 = vd_lm mp x (min W (x + w) - x) y (min H (y + h) - y) 7 := by
      obtain ⟨m, hm'⟩ := hyp
      rw [hm']
      exact vd_lm_eq hm hxp m
    have hlb := vd_lm_b (x := x) (w := min W (x + w) - x) (y := y) hm (show (0 : Int) ≤ 7 by decide) (by decide) (min H (y + h) - y)
    have eL := fun d (Q : vd_M → (Option Value ⊕ Nat) → Prop) => vd_P72 (d := d) (Q := Q) hM (f := f) hm hnb k.2.2.2.2.2.2.1 k.2.1.1.1 k.2.1.1.2 w2 w4 hw2 hh2 hxl hyl k.2.2.2.2.1.1
    have eG := fun d (Q : vd_M → (Option Value ⊕ Nat) → Prop) => vd_G199L (d := d) (Q := Q) (g := vd_up (vd_up g 63 103 (vd_I 0)) 63 112 (vd_I 0)) hN (x1 := min W (x + w)) (y1 := min H (y + h)) rfl rfl kg1.2.2.2.2.2.2.2.1 kg1.2.2.1.1.1 kg1.2.2.1.1.2 w2 w4 hw2 hh2 hm kg1.2.2.2.2.1.2 hxl (min H (y + h) - y) 0 vd_U hye
    generalize hs0 : vd_lm mp x (min W (x + w) - x) y (min H (y + h) - y) 7 = sl at *
    simp only [Nat.add_zero, Nat.zero_add, hlm, vd_lm] at eG
    generalize (if min H (y + h) - y = 0 then vd_U else if min H (y + h) - y = 0 then vd_U else Value.int (vd_I ((min W (x + w) : Nat) : Int))) = a3 at eG
    -- the state behind the loops
    have gL : ∀ d Q, vd_wp (d + 1) 199 0 [.ref 63, vd_U, vd_U, vd_U] [] (vd_mf N g) Q = vd_wp (d + 1) 199 109 [.ref 63, .int (vd_I sl), .int (vd_I ((min H (y + h) : Nat) : Int)), a3] [] (vd_mf N (vd_up (vd_up g 63 103 (vd_I 0)) 63 112 (vd_I 0))) Q := fun d Q => by
      simp (disch := omega) only [vd_S199_0 hN, vd_S199_18 hN, vd_up_at, vd_ua_at, Nat.reduceEqDiff, Nat.reduceAdd, Nat.reduceMul, and_false, false_and, and_true, true_and, and_self, if_true, if_false, reduceIte, ne_eq, not_false_eq_true, not_true_eq_false, eq_self, b5, s5, vd_I_toInt, show ¬ ((1 : Int) = 0) by decide, if_false, by'.2.2.2]
      exact eG d Q
    have s6 := hX.1.2.2.2.2.2.2.1
    have fL : ∀ d Q, vd_wp (d + 3) 71 0 [.ref 44, vd_U, vd_U] [] (vd_mf M f) Q = if X 0 6 = 0 then vd_wp (d + 3) 71 105 [.ref 44, .int (vd_I sl), vd_U] [] (vd_mf M f) Q else vd_wp (d + 3) 71 34 [.ref 44, .int (vd_I sl), vd_U] [] (vd_mf M f) Q := fun d Q => by
      simp (disch := omega) only [vd_S71_0 hM, vd_S71_12 hM, vd_S71_20 hM, vd_S71_23 hM, a5, a6, s5, vd_I_toInt, show ¬ ((1 : Int) = 0) by decide, if_false, here, eL, vd_rs_v, vd_rs_n]
    have kg2 : vd_BK ow fa W H nb O B X mp x y w h n f (vd_up (vd_up (vd_up g 63 103 (vd_I 0)) 63 112 (vd_I 0)) 63 103 (vd_I sl)) := kg1.note (Or.inl ⟨rfl, by decide⟩)
    have GU2 : vd_gB g (vd_up (vd_up (vd_up g 63 103 (vd_I 0)) 63 112 (vd_I 0)) 63 103 (vd_I sl)) := GU.up (by omega)
    have sl0 : 0 ≤ sl := hlb.1
    have sl1 : sl ≤ 7 := hlb.2.1
    rcases s6 with s6 | s6
    · -- the map isn't told
      refine vd_segFin hM hN (c2 := vd_U) (a3 := a3) (a1 := vd_I sl) (a2 := vd_I ((min H (y + h) : Nat) : Int)) (kg2.keepR (kg2.1.mono (by omega)) (fun _ _ _ => rfl) (fun _ _ _ => rfl)) hc (sg := sl) (rt := 0) (vd_up_eq _ _ _ _) sl0 sl1 (Or.inl rfl) (by rw [vd_up_ne (by omega), vd_up_eq]) h17 (fun _ _ => rfl) (fun i q1 q2 => by rw [vd_up_ne (by omega), vd_up_ne (by omega), vd_up_ne (by omega)]) (vd_fB.refl fa f) GU2 (fun d Q => ?_) (fun d Q => ?_)
      · rw [fL, if_pos s6]
      · rw [gL]
        simp (disch := omega) only [vd_S199_109 hN, vd_S199_165 hN, vd_up_at, vd_ua_at, Nat.reduceEqDiff, Nat.reduceAdd, Nat.reduceMul, and_false, false_and, and_true, true_and, and_self, if_true, if_false, reduceIte, ne_eq, not_false_eq_true, not_true_eq_false, eq_self, b6, s6, vd_I_toInt]
    · have s6' : ¬ X 0 6 = 0 := by omega
      have s7 := hX.1.2.2.2.2.2.2.2.1
      have s0 := hX.1.1
      have tree : ∀ {n1 : Nat} {f1 g1 : Nat → Nat → Int32}, vd_BK ow fa W H nb O B X mp x y w h n1 f1 g1 → n1 ≤ n + 1 → g1 63 112 = vd_I 0 → f1 fa (18 * nb + 17) = vd_I 0 → (∀ q, q ≠ 17 → f1 fa (18 * nb + q) = f fa (18 * nb + q)) → (∀ i, 104 ≤ i → i ≠ 112 → g1 63 i = g 63 i) → vd_fB fa f f1 → vd_gB g g1 → (∀ d Q, vd_wp (d + 3) 71 0 [.ref 44, vd_U, vd_U] [] (vd_mf M f) Q = vd_wp (d + 3) 71 100 [.ref 44, .int (vd_I sl), .int (vd_I (if n1 = n then 0 else 1))] [] (vd_mf M f1) Q) → (∀ d Q, vd_wp (d + 1) 199 0 [.ref 63, vd_U, vd_U, vd_U] [] (vd_mf N g) Q = vd_wp (d + 1) 199 179 [.ref 63, .int (vd_I sl), .int (vd_I ((min H (y + h) : Nat) : Int)), a3] [] (vd_mf N g1) Q) → vd_SegPost M N ow fa W H nb O B X x y w h n f g := by
        intro n1 f1 g1 k1 hn1 h112 h171 hq hi hF hG eF eG
        obtain ⟨f2, g2, hi2, mi2, s, t1, t2, t3, t4, t5, t6⟩ := vd_tree hM hN k1.1 (by omega) hX s6 k1.2.2.2.1.1 k1.2.2.2.1.2
        have k2 := (k1.keepD hM t4 t5 t6).note (c := 63) (i := 103) (v := vd_I s) (Or.inl ⟨rfl, by decide⟩)
        refine vd_segFin hM hN (c2 := .int (vd_I (if n1 = n then 0 else 1))) (a1 := vd_I sl) (a2 := vd_I hi2) (a3 := .int (vd_I mi2)) (k2.keepR (k2.1.mono (by omega)) (fun _ _ _ => rfl) (fun _ _ _ => rfl)) hc (sg := s) (rt := 0) (vd_up_eq _ _ _ _) t3.1 t3.2 (Or.inl rfl) (by rw [vd_up_ne (by omega), t6.cur (by decide)]; exact h112) (by rw [t5.cur hM]; exact h171) (fun q hq' => by rw [t5.cur hM]; exact hq q hq') (fun i q1 q2 => by rw [vd_up_ne (by omega), t6.cur (by omega)]; exact hi i q1 q2) (hF.trans t5.toB) ((hG.trans t6.toB).up (by omega)) (fun d Q => ?_) (fun d Q => ?_)
        · rw [eF]
          simp (disch := omega) only [vd_S71_100 hM, vd_S71_101 hM, vd_S71_104 hM, t1, vd_rs_v, vd_rs_n]
        · rw [eG]
          exact t2 _ _ _ d Q
      by_cases cg : X 0 7 = 1 ∧ X 0 0 = 0
      · obtain ⟨cg1, cg2⟩ := cg
        have e1 := vd_eq1_b B (vd_at W H O (x : Int) ((y : Int) - 1)) 17 1
        have e2 := vd_eq1_b B (vd_at W H O ((x : Int) - 1) (y : Int)) 17 1
        have al : ∀ d Q, vd_wp d 73 0 [.ref 44, .int (vd_I 17), .int (vd_I 1), vd_U] [] (vd_mf M f) Q = Q (vd_mf M f) (.inl (some (.int (vd_I (vd_eq1 B (vd_at W H O (x : Int) ((y : Int) - 1)) 17 1 + vd_eq1 B (vd_at W H O ((x : Int) - 1) (y : Int)) 17 1))))) := fun d Q => vd_alk hM k hc (q := 17) (v := 1) (by decide) (by decide) (by decide) d Q
        have cn := fun d Q => vd_cnt2 hN kg2 hc (o := 91) (q := 17) (v := 1) hN.k91 hN.l91 (fun i j k' hi hj hk => by
          have q := (kg2.2.2.1.2.2 i j k' hi hj hk).2.2.2.2.2
          have hb := (kg2.2.1.2.2.2.2.2 k' (kg2.2.1.2.2.2.1 i j k' hk)).2.2.2.2.1
          rw [q]
          congr 1
          split <;> omega) d Q
        generalize hz : vd_eq1 B (vd_at W H O (x : Int) ((y : Int) - 1)) 17 1 + vd_eq1 B (vd_at W H O ((x : Int) - 1) (y : Int)) 17 1 = z at *
        obtain ⟨zz, rfl⟩ := Int.eq_ofNat_of_zero_le (show 0 ≤ z by omega)
        have zb : zz < 3 := by omega
        have tX := hX.2.2.2.2.1 zz zb
        have tA := hA.2.2.2.2.2.2.1 cg1 zz zb
        have tB := kg2.2.2.2.1.2.2.2.2.2.2.1 cg1 zz zb
        obtain ⟨f1, g1, b, p1, p2, p3, p4, p5, p6⟩ := vd_bitD hM hN (p := X 3 zz) kg2.1 (by omega) tX.1 tX.2
        have st := fun d Q => vd_P33 (d := d) (Q := Q) hM hX hA
        have eF0 : ∀ d Q, vd_wp (d + 3) 71 0 [.ref 44, vd_U, vd_U] [] (vd_mf M f) Q = if b = 1 then vd_wp (d + 3) 71 90 [.ref 44, .int (vd_I sl), .int (vd_I 1)] [] (vd_mf M f1) Q else vd_wp (d + 3) 71 100 [.ref 44, .int (vd_I sl), .int (vd_I 1)] [] (vd_mf M f1) Q := fun d Q => by
          rw [fL, if_neg s6']
          simp (disch := omega) only [vd_S71_34 hM, vd_S71_44 hM, vd_S71_48 hM, vd_S71_51 hM, vd_S71_54 hM, vd_S71_59 hM, vd_S71_64 hM, vd_S71_79 hM, vd_S71_82 hM, vd_S71_83 hM, vd_S71_86 hM, a7, cg1, cg2, st, vd_I_toInt, show ¬ ((1 : Int) = 0) by decide, if_false, eq_self, if_true, vd_rs_v, vd_rs_n, al, Int.toNat_natCast, tA, p1]
        have k3 := kg2.keepD hM p4 p5.toD p6.toD
        have eG0 : ∀ d Q, vd_wp (d + 1) 199 0 [.ref 63, vd_U, vd_U, vd_U] [] (vd_mf N g) Q = vd_wp (d + 1) 199 165 [.ref 63, .int (vd_I sl), .int (vd_I ((min H (y + h) : Nat) : Int)), a3] [] (vd_mf N (vd_up g1 63 112 (vd_I b))) Q := fun d Q => by
          rw [gL]
          rcases p3 with rfl | rfl
          · simp (disch := first | decide | omega) only [vd_S199_109 hN, vd_S199_121 hN, vd_S199_128 hN, vd_S199_135 hN, vd_S199_146 hN, vd_S199_149 hN, vd_S199_150 hN, vd_S199_153 hN, vd_S199_161 hN, vd_S199_162 hN, vd_up_at, vd_ua_at, Nat.reduceEqDiff, Nat.reduceAdd, Nat.reduceMul, and_false, false_and, and_true, true_and, and_self, if_true, if_false, reduceIte, ne_eq, not_false_eq_true, not_true_eq_false, eq_self, b0, b6, b7, s6', cg1, cg2, vd_I_toInt, show ¬ ((1 : Int) = 0) by decide, show ¬ ((0 : Int) = 1) by decide, cn, vd_rs_v, vd_rs_n, Int.toNat_natCast, tB, p2, vd_fok0]
          · simp (disch := first | decide | omega) only [vd_S199_109 hN, vd_S199_121 hN, vd_S199_128 hN, vd_S199_135 hN, vd_S199_146 hN, vd_S199_149 hN, vd_S199_150 hN, vd_S199_153 hN, vd_S199_157 hN, vd_S199_162 hN, vd_up_at, vd_ua_at, Nat.reduceEqDiff, Nat.reduceAdd, Nat.reduceMul, and_false, false_and, and_true, true_and, and_self, if_true, if_false, reduceIte, ne_eq, not_false_eq_true, not_true_eq_false, eq_self, b0, b6, b7, s6', cg1, cg2, vd_I_toInt, show ¬ ((1 : Int) = 0) by decide, cn, vd_rs_v, vd_rs_n, Int.toNat_natCast, tB, p2, vd_fok1]
        have g103 : g1 63 103 = vd_I sl := by rw [p6 63 103 (by omega), vd_up_eq]
        have gi : ∀ i, 104 ≤ i → i ≠ 112 → g1 63 i = g 63 i := fun i q1 q2 => by rw [p6 63 i (by omega), vd_up_ne (by omega), vd_up_ne (by omega), vd_up_ne (by omega)]
        rcases p3 with rfl | rfl
        · refine tree (n1 := n + 1) (k3.note (c := 63) (i := 112) (v := vd_I 0) (Or.inl ⟨rfl, by decide⟩)) (Nat.le_refl _) (vd_up_eq _ _ _ _) (by rw [p5.toD.cur hM]; exact h17) (fun q _ => p5.toD.cur hM _) (fun i q1 q2 => by rw [vd_up_ne (by omega)]; exact gi i q1 q2) p5.toD.toB ((GU2.trans p6.toD.toB).up (by omega)) (fun d Q => ?_) (fun d Q => ?_)
          · rw [eF0, if_neg (by decide), if_neg (by omega)]
          · rw [eG0]
            have h37 : g1 63 37 = vd_I (X 0 6) := k3.2.2.2.1.2.2.1.2.1
            simp (disch := omega) only [vd_S199_165 hN, vd_S199_172 hN, vd_up_at, vd_ua_at, Nat.reduceEqDiff, Nat.reduceAdd, Nat.reduceMul, and_false, false_and, and_true, true_and, and_self, if_true, if_false, reduceIte, ne_eq, not_false_eq_true, not_true_eq_false, eq_self, h37, s6, vd_I_toInt, show ¬ ((1 : Int) = 0) by decide]
        · have hp := vd_par_ne hM
          have P := fun d Q => vd_P74 (d := d) (Q := Q) (x := vd_I 1) hM (f := f1) (k := nb) (q := 17) k3.2.2.2.2.2.1.1 hnb (by decide)
          have P' : ∀ d Q, vd_wp d 74 0 [.ref 44, .int (vd_I 17), .int (vd_I 1)] [] (vd_mf M f1) Q = Q (vd_mf M (vd_up f1 fa (18 * nb + 17) (vd_I 1))) (.inl none) := P
          refine vd_segFin hM hN (c2 := .int (vd_I 1)) (a1 := vd_I sl) (a2 := vd_I ((min H (y + h) : Nat) : Int)) (a3 := a3) (f1 := vd_up f1 fa (18 * nb + 17) (vd_I 1)) (g1 := vd_up g1 63 112 (vd_I 1)) (((k3.put hM (q := 17) (v := vd_I 1) (by decide)).note (c := 63) (i := 112) (v := vd_I 1) (Or.inl ⟨rfl, by decide⟩)).keepR (((k3.put hM (q := 17) (v := vd_I 1) (by decide)).note (c := 63) (i := 112) (v := vd_I 1) (Or.inl ⟨rfl, by decide⟩)).1.mono (by omega)) (fun _ _ _ => rfl) (fun _ _ _ => rfl)) hc (sg := sl) (rt := 1) (by rw [vd_up_ne (by omega)]; exact g103) sl0 sl1 (Or.inr rfl) (vd_up_eq _ _ _ _) (vd_up_eq _ _ _ _) (fun q hq => by rw [vd_up_ne (by omega)]; exact p5.toD.cur hM _) (fun i q1 q2 => by rw [vd_up_ne (by omega)]; exact gi i q1 q2) (p5.toD.toB.up (Or.inr (Or.inr (Or.inl rfl)))) ((GU2.trans p6.toD.toB).up (by omega)) (fun d Q => ?_) (fun d Q => ?_)
          · rw [eF0, if_pos rfl]
            simp (disch := omega) only [vd_S71_90 hM, vd_S71_94 hM, vd_S71_97 hM, P', vd_rs_v, vd_rs_n]
          · rw [eG0]
            have h37 : g1 63 37 = vd_I (X 0 6) := k3.2.2.2.1.2.2.1.2.1
            simp (disch := omega) only [vd_S199_165 hN, vd_S199_172 hN, vd_up_at, vd_ua_at, Nat.reduceEqDiff, Nat.reduceAdd, Nat.reduceMul, and_false, false_and, and_true, true_and, and_self, if_true, if_false, reduceIte, ne_eq, not_false_eq_true, not_true_eq_false, eq_self, h37, s6, vd_I_toInt, show ¬ ((1 : Int) = 0) by decide]
      · have st := fun d Q => vd_P33 (d := d) (Q := Q) hM hX hA
        refine tree (n1 := n) kg2 (by omega) (by rw [vd_up_ne (by omega), vd_up_eq]) h17 (fun _ _ => rfl) (fun i q1 q2 => by rw [vd_up_ne (by omega), vd_up_ne (by omega), vd_up_ne (by omega)]) (vd_fB.refl fa f) GU2 (fun d Q => ?_) (fun d Q => ?_)
        · rw [fL, if_neg s6', if_pos rfl]
          rcases s7 with s7 | s7
          · simp (disch := omega) only [vd_S71_34 hM, vd_S71_58 hM, vd_S71_59 hM, a7, s7, vd_I_toInt, eq_self, if_true]
          · have c0 : ¬ X 0 0 = 0 := fun q => cg ⟨s7, q⟩
            simp (disch := omega) only [vd_S71_34 hM, vd_S71_44 hM, vd_S71_48 hM, vd_S71_51 hM, vd_S71_58 hM, vd_S71_59 hM, a7, s7, c0, st, vd_rs_v, vd_rs_n, vd_I_toInt, show ¬ ((1 : Int) = 0) by decide, if_false, eq_self, if_true]
        · rw [gL]
          rcases s0 with s0 | s0
          · have c7 : X 0 7 = 0 := by
              rcases s7 with s7 | s7
              · exact s7
              · exact absurd ⟨s7, s0⟩ cg
            simp (disch := omega) only [vd_S199_109 hN, vd_S199_121 hN, vd_S199_128 hN, vd_S199_165 hN, vd_S199_172 hN, vd_up_at, vd_ua_at, Nat.reduceEqDiff, Nat.reduceAdd, Nat.reduceMul, and_false, false_and, and_true, true_and, and_self, if_true, if_false, reduceIte, ne_eq, not_false_eq_true, not_true_eq_false, eq_self, b0, b6, b7, s6, s0, c7, vd_I_toInt, show ¬ ((1 : Int) = 0) by decide]
          · simp (disch := omega) only [vd_S199_109 hN, vd_S199_121 hN, vd_S199_165 hN, vd_S199_172 hN, vd_up_at, vd_ua_at, Nat.reduceEqDiff, Nat.reduceAdd, Nat.reduceMul, and_false, false_and, and_true, true_and, and_self, if_true, if_false, reduceIte, ne_eq, not_false_eq_true, not_true_eq_false, eq_self, b0, b6, b7, s6, s0, vd_I_toInt, show ¬ ((1 : Int) = 0) by decide]
end VDSG3
