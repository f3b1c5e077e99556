/-! ===== which pictures a block is predicted from ===== -/
section VDRG
variable {M N : vd_M} {ow fa lo lf W H nb : Nat} {O : Nat → Nat → Option Nat} {B : Nat → Nat → Int} {X : Nat → Nat → Int} {mp : Nat → Nat → Int} {x y w h n : Nat} {f g : Nat → Nat → Int32}
def vd_RefPost (M N : vd_M) (ow fa W H nb : Nat) (O : Nat → Nat → Option Nat) (B : Nat → Nat → Int) (X mp : Nat → Nat → Int) (x y w h n s : Nat) (f g : Nat → Nat → Int32) : Prop := ∃ (f' g' : Nat → Nat → Int32) (r0 r1 nn : Int) (a2 : Value), (∀ d Q, vd_wp (d + 2) 87 0 [.ref 44, .int (vd_I (s : Int)), vd_U, vd_U] [] (vd_mf M f) Q = Q (vd_mf M f') (.inl none)) ∧ (∀ d Q, vd_wp (d + 2) 206 0 [.ref 63, vd_U, vd_U, vd_U, vd_U] [] (vd_mf N g) Q = vd_wp (d + 2) 206 174 [.ref 63, .int (vd_I nn), a2, vd_U, vd_U] [] (vd_mf N g') Q) ∧ ((0 ≤ r0 ∧ r0 ≤ 2) ∧ (r1 = -1 ∨ r1 = 2)) ∧ vd_BK ow fa W H nb O B X mp x y w h (n + 3) f' g' ∧ (f' fa (18 * nb + 7) = vd_I (-1) ∧ f' fa (18 * nb + 8) = vd_I (-1) ∧ f' fa (18 * nb + 9) = vd_I r0 ∧ f' fa (18 * nb + 10) = vd_I r1) ∧ (g' 117 0 = vd_I r0 ∧ g' 117 1 = vd_I r1) ∧ (∀ q, (q < 7 ∨ 11 ≤ q) → f' fa (18 * nb + q) = f fa (18 * nb + q)) ∧ (∀ i, 103 ≤ i → g' 63 i = g 63 i) ∧ (∀ c i, 118 ≤ c → c ≤ 121 → g' c i = g c i) ∧ vd_fB fa f f' ∧ vd_gB g g'
theorem vd_refs (hM : vd_SC M ow fa lo lf) (hN : vd_SR N) (k : vd_BK ow fa W H nb O B X mp x y w h n f g) (hc : vd_BC W H nb X mp x y w h) (hn : n + 3 ≤ 8000000) {s : Nat} (hs : s < 8) (hg : g 63 103 = vd_I (s : Int)) (hft : vd_ft X s 2 = 1 → 1 ≤ X 5 (4 * s + 2)) (hr0 : g 117 0 = vd_I (-1)) (hr1 : g 117 1 = vd_I (-1)) : vd_RefPost M N ow fa W H nb O B X mp x y w h n s f g := by
  have hX := hc.1
  have hW := hc.2.2.1
  have hnb := hc.2.2.2.1
  have here := k.2.2.2.2.2.1.1
  have h44 : ∀ (f : Nat → Nat → Int32) i v, f 44 8 = vd_I (18 * (nb : Int)) → vd_up f fa i v 44 8 = vd_I (18 * (nb : Int)) := fun f i v hh => by
    have hp := vd_par_ne hM
    rw [vd_up_ne (by omega)]; exact hh
  have PT : ∀ (q : Nat) (hq : q < 18) (f : Nat → Nat → Int32) (v : Int32), f 44 8 = vd_I (18 * (nb : Int)) → ∀ d Q, vd_wp d 74 0 [.ref 44, .int (vd_I (q : Int)), .int v] [] (vd_mf M f) Q = Q (vd_mf M (vd_up f fa (18 * nb + q) v)) (.inl none) := fun q hq f v hh d Q => vd_P74 hM hh hnb hq
  -- the first three facts
  have P7 : ∀ d Q, vd_wp d 74 0 [.ref 44, .int (vd_I 7), .int (vd_I (-1))] [] (vd_mf M f) Q = _ := PT 7 (by decide) f (vd_I (-1)) here
  have P8 : ∀ d Q, vd_wp d 74 0 [.ref 44, .int (vd_I 8), .int (vd_I (-1))] [] (vd_mf M (vd_up f fa (18 * nb + 7) (vd_I (-1)))) Q = _ := PT 8 (by decide) _ (vd_I (-1)) (h44 _ _ _ here)
  have P10 : ∀ d Q, vd_wp d 74 0 [.ref 44, .int (vd_I 10), .int (vd_I (-1))] [] (vd_mf M (vd_up (vd_up f fa (18 * nb + 7) (vd_I (-1))) fa (18 * nb + 8) (vd_I (-1)))) Q = _ := PT 10 (by decide) _ (vd_I (-1)) (h44 _ _ _ (h44 _ _ _ here))
  have k0 := ((k.put hM (q := 7) (v := vd_I (-1)) (by decide)).put hM (q := 8) (v := vd_I (-1)) (by decide)).put hM (q := 10) (v := vd_I (-1)) (by decide)
  have z7 : vd_up (vd_up (vd_up f fa (18 * nb + 7) (vd_I (-1))) fa (18 * nb + 8) (vd_I (-1))) fa (18 * nb + 10) (vd_I (-1)) fa (18 * nb + 7) = vd_I (-1) := by rw [vd_up_ne (by omega), vd_up_ne (by omega), vd_up_eq]
  have z8 : vd_up (vd_up (vd_up f fa (18 * nb + 7) (vd_I (-1))) fa (18 * nb + 8) (vd_I (-1))) fa (18 * nb + 10) (vd_I (-1)) fa (18 * nb + 8) = vd_I (-1) := by rw [vd_up_ne (by omega), vd_up_eq]
  have z10 : vd_up (vd_up (vd_up f fa (18 * nb + 7) (vd_I (-1))) fa (18 * nb + 8) (vd_I (-1))) fa (18 * nb + 10) (vd_I (-1)) fa (18 * nb + 10) = vd_I (-1) := by rw [vd_up_eq]
  have zq : ∀ q, (q < 7 ∨ 11 ≤ q) → vd_up (vd_up (vd_up f fa (18 * nb + 7) (vd_I (-1))) fa (18 * nb + 8) (vd_I (-1))) fa (18 * nb + 10) (vd_I (-1)) fa (18 * nb + q) = f fa (18 * nb + q) := fun q hq => by rw [vd_up_ne (by omega), vd_up_ne (by omega), vd_up_ne (by omega)]
  have zB : vd_fB fa f (vd_up (vd_up (vd_up f fa (18 * nb + 7) (vd_I (-1))) fa (18 * nb + 8) (vd_I (-1))) fa (18 * nb + 10) (vd_I (-1))) := (((vd_fB.refl fa f).up (Or.inr (Or.inr (Or.inl rfl)))).up (Or.inr (Or.inr (Or.inl rfl)))).up (Or.inr (Or.inr (Or.inl rfl)))
  have e21 : ∀ d Q, vd_wp (d + 2) 87 0 [.ref 44, .int (vd_I (s : Int)), vd_U, vd_U] [] (vd_mf M f) Q = vd_wp (d + 2) 87 21 [.ref 44, .int (vd_I (s : Int)), vd_U, vd_U] [] (vd_mf M (vd_up (vd_up (vd_up f fa (18 * nb + 7) (vd_I (-1))) fa (18 * nb + 8) (vd_I (-1))) fa (18 * nb + 10) (vd_I (-1)))) Q := fun d Q => by
    simp (disch := omega) only [vd_S87_0 hM, vd_S87_4 hM, vd_S87_7 hM, vd_S87_11 hM, vd_S87_14 hM, vd_S87_18 hM, P7, P8, P10, vd_rs_v, vd_rs_n]
  generalize hf0 : vd_up (vd_up (vd_up f fa (18 * nb + 7) (vd_I (-1))) fa (18 * nb + 8) (vd_I (-1))) fa (18 * nb + 10) (vd_I (-1)) = f0 at *
  have hA := k0.2.2.2.1.1
  have hB := k0.2.2.2.1.2
  have here0 := k0.2.2.2.2.2.1.1
  have u1 := k0.2.2.2.2.2.2.2.2.1
  have u2 := k0.2.2.2.2.2.2.2.2.2
  have P2 : ∀ d Q, vd_wp d 78 0 [.ref 20, .int (vd_I (s : Int)), .int (vd_I 2)] [] (vd_mf M f0) Q = Q (vd_mf M f0) (.inl (some (.int (vd_I (vd_ft X s 2))))) := fun d Q => vd_P78 (q := 2) hM hX hA hs (by decide)
  have V2 : ∀ d Q, vd_wp d 81 0 [.ref 20, .int (vd_I (s : Int)), .int (vd_I 2)] [] (vd_mf M f0) Q = Q (vd_mf M f0) (.inl (some (.int (vd_I (X 5 (4 * s + 2)))))) := fun d Q => vd_P81 (q := 2) hM hA hs (by decide)
  have R2 : ∀ d Q, vd_wp d 201 0 [.ref 63, .int (vd_I 2)] [] (vd_mf N g) Q = Q (vd_mf N g) (.inl (some (.int (vd_I (vd_ft X s 2))))) := fun d Q => vd_P201 (q := 2) hN hX hB hg hs (by decide)
  have xv := hX.2.2.2.2.2.2.2.1 s hs
  have gf : g 75 (4 * s + 2) = vd_I (X 5 (4 * s + 2)) := hB.2.2.2.2.2.2.2.1 (4 * s + 2) (by omega) (by omega)
  have ei : (4 * (s : Int) + 2).toNat = 4 * s + 2 := by omega
  -- the count of first references
  have FA := fun d Q => vd_P207 (a := (x : Int)) (b := (y : Int) - 1) hN k0.2.1 k0.2.2.1 hW.2.1 hW.2.2.2 rfl d Q
  have FL := fun d Q => vd_P207 (a := (x : Int) - 1) (b := (y : Int)) (v := (y : Int) * (W : Int) + (x : Int) - 1) hN k0.2.1 k0.2.2.1 hW.2.1 hW.2.2.2 (by omega) d Q
  have al9 : ∀ d Q, vd_wp d 73 0 [.ref 44, .int (vd_I 9), .int (vd_I 0), vd_U] [] (vd_mf M f0) Q = Q (vd_mf M f0) (.inl (some (.int (vd_I (vd_eq1 B (vd_at W H O (x : Int) ((y : Int) - 1)) 9 0 + vd_eq1 B (vd_at W H O ((x : Int) - 1) (y : Int)) 9 0))))) := fun d Q => vd_alk hM k0 hc (q := 9) (v := 0) (by decide) (by decide) (by decide) d Q
  have e1 := vd_eq1_b B (vd_at W H O (x : Int) ((y : Int) - 1)) 9 0
  have e2 := vd_eq1_b B (vd_at W H O ((x : Int) - 1) (y : Int)) 9 0
  have g18 : ∀ d Q, vd_wp (d + 2) 206 0 [.ref 63, vd_U, vd_U, vd_U, vd_U] [] (vd_mf N g) Q = if vd_ft X s 2 = 0 then vd_wp (d + 2) 206 50 [.ref 63, .int (vd_I (vd_eq1 B (vd_at W H O (x : Int) ((y : Int) - 1)) 9 0 + vd_eq1 B (vd_at W H O ((x : Int) - 1) (y : Int)) 9 0)), vd_U, vd_U, vd_U] [] (vd_mf N g) Q else vd_wp (d + 2) 206 26 [.ref 63, .int (vd_I (vd_eq1 B (vd_at W H O (x : Int) ((y : Int) - 1)) 9 0 + vd_eq1 B (vd_at W H O ((x : Int) - 1) (y : Int)) 9 0)), vd_U, vd_U, vd_U] [] (vd_mf N g) Q := fun d Q => by
    have := vd_ft_b X s 2
    simp (disch := omega) only [vd_S206_0 hN, vd_S206_5 hN, vd_S206_8 hN, vd_S206_13 hN, vd_S206_16 hN, vd_S206_20 hN, vd_S206_23 hN, u1, u2, FA, FL, R2, vd_rs_v, vd_rs_n, vd_I_add, vd_I_toInt]
  generalize hnn : vd_eq1 B (vd_at W H O (x : Int) ((y : Int) - 1)) 9 0 + vd_eq1 B (vd_at W H O ((x : Int) - 1) (y : Int)) 9 0 = nn at *
  have n0 : 0 ≤ nn := by omega
  have n2 : nn ≤ 2 := by omega
  have i0 : (0 : Int).toNat = 0 := rfl
  have i1 : (1 : Int).toNat = 1 := rfl
  rcases vd_ft_b X s 2 with c | c
  · have fin : ∀ {n1 : Nat} {f1 g1 : Nat → Nat → Int32} {two : Int}, vd_BK ow fa W H nb O B X mp x y w h n1 f1 g1 → n1 ≤ n + 1 → (two = 0 ∨ two = 1) → vd_fD f0 f1 → vd_gD g g1 → (∀ d Q, vd_wp (d + 2) 87 0 [.ref 44, .int (vd_I (s : Int)), vd_U, vd_U] [] (vd_mf M f) Q = vd_wp (d + 2) 87 97 [.ref 44, .int (vd_I (s : Int)), .int (vd_I two), vd_U] [] (vd_mf M f1) Q) → (∀ d Q, vd_wp (d + 2) 206 0 [.ref 63, vd_U, vd_U, vd_U, vd_U] [] (vd_mf N g) Q = vd_wp (d + 2) 206 100 [.ref 63, .int (vd_I nn), vd_U, vd_U, vd_U] [.int (vd_I two)] (vd_mf N g1) Q) → vd_RefPost M N ow fa W H nb O B X mp x y w h n s f g := by
      intro n1 f1 g1 two kk hn1 t01 hF hG eF eG
      have a9 : ∀ d Q, vd_wp d 73 0 [.ref 44, .int (vd_I 9), .int (vd_I 0), vd_U] [] (vd_mf M f1) Q = Q (vd_mf M f1) (.inl (some (.int (vd_I nn)))) := fun d Q => by rw [← hnn]; exact vd_alk hM kk hc (q := 9) (v := 0) (by decide) (by decide) (by decide) d Q
      have r117 : ∀ i, g1 117 i = g 117 i := fun i => hG 117 i (by omega) (by decide) (by decide)
      rcases t01 with rfl | rfl
      · obtain ⟨f2, g2, g3, b, c2, p1, p2, p3, p4, p5, p6, p7⟩ := vd_lad2 hM hN (z := 1110 + 2 * nn) (by omega) (by omega) (show n1 + 2 ≤ 8000000 by omega) kk.1
        have k2 := kk.keepD hM p4 p5 p6
        have P9 : ∀ d Q, vd_wp d 74 0 [.ref 44, .int (vd_I 9), .int (vd_I (b + c2))] [] (vd_mf M f2) Q = _ := PT 9 (by decide) f2 (vd_I (b + c2)) k2.2.2.2.2.2.1.1
        have k3 := (k2.put hM (q := 9) (v := vd_I (b + c2)) (by decide)).note (c := 117) (i := 0) (v := vd_I (b + c2)) (Or.inr (by decide))
        refine ⟨vd_up f2 fa (18 * nb + 9) (vd_I (b + c2)), vd_up g3 117 0 (vd_I (b + c2)), b + c2, -1, nn, .int (vd_I 0), fun d Q => ?_, fun d Q => ?_, ⟨by omega, Or.inl rfl⟩, k3.keepR (k3.1.mono (by omega)) (fun _ _ _ => rfl) (fun _ _ _ => rfl), ⟨?_, ?_, ?_, ?_⟩, ⟨vd_up_eq _ _ _ _, ?_⟩, fun q hq => ?_, fun i hi => ?_, fun c' i c1 c2 => ?_, ((zB.trans hF.toB).trans p5.toB).up (Or.inr (Or.inr (Or.inl rfl))), (hG.toB.trans p6.toB).up (by omega)⟩
        · rw [eF]
          simp (disch := omega) only [vd_S87_97 hM, vd_S87_101 hM, vd_S87_104 hM, vd_S87_137 hM, vd_S87_152 hM, vd_S87_155 hM, vd_S87_158 hM, a9, vd_rs_v, vd_rs_n, vd_I_toInt, eq_self, if_true, vd_I_mul, vd_I_add, p1, P9]
        · rw [eG]
          rcases p3 with ⟨rfl, rfl, rfl⟩ | ⟨rfl, q1, q2⟩
          · simp (disch := omega) only [vd_S206_100 hN, vd_S206_130 hN, vd_S206_138 hN, vd_S206_141 hN, vd_S206_167 hN, vd_S206_173 hN, vd_rs_v, vd_rs_n, vd_I_toInt, eq_self, if_true, vd_I_mul, vd_I_add, p2, show ¬ ((0 : Int) = 1) by decide, if_false, i0, Int.add_zero]
          · have q2' : ∀ d Q, vd_wp (d + 1) 202 0 [.ref 63, .int (vd_I (1111 + 2 * nn)), vd_U] [] (vd_mf N g2) Q = Q (vd_mf N g3) (.inl (some (.int (vd_I c2)))) := fun d Q => by rw [show 1111 + 2 * nn = 1110 + 2 * nn + 1 by omega]; exact q2 d Q
            simp (disch := omega) only [vd_S206_100 hN, vd_S206_130 hN, vd_S206_138 hN, vd_S206_141 hN, vd_S206_145 hN, vd_S206_159 hN, vd_S206_162 hN, vd_S206_163 hN, vd_rs_v, vd_rs_n, vd_I_toInt, eq_self, if_true, vd_I_mul, vd_I_add, p2, q2', i0]
        · rw [vd_up_ne (by omega), p5.cur hM, hF.cur hM]; exact z7
        · rw [vd_up_ne (by omega), p5.cur hM, hF.cur hM]; exact z8
        · rw [vd_up_eq]
        · rw [vd_up_ne (by omega), p5.cur hM, hF.cur hM]; exact z10
        · rw [vd_up_ne (by omega), p6 117 1 (by omega) (by decide) (by decide), r117]; exact hr1
        · rw [vd_up_ne (by omega), p5.cur hM, hF.cur hM]; exact zq q hq
        · rw [vd_up_ne (by omega), p6.cur (by omega), hG.cur (by omega)]
        · rw [vd_up_ne (by omega), p6 c' i (by omega) (by omega) (by omega), hG c' i (by omega) (by omega) (by omega)]
      · obtain ⟨f2, g2, b, p1, p2, p3, p4, p5, p6⟩ := vd_read hM hN (z := 1107 + nn) kk.1 (by omega) (by omega) (by omega)
        have k2 := kk.keepD hM p4 p5 p6
        have P9 : ∀ d Q, vd_wp d 74 0 [.ref 44, .int (vd_I 9), .int (vd_I b)] [] (vd_mf M f2) Q = _ := PT 9 (by decide) f2 (vd_I b) k2.2.2.2.2.2.1.1
        have P10' : ∀ d Q, vd_wp d 74 0 [.ref 44, .int (vd_I 10), .int (vd_I 2)] [] (vd_mf M (vd_up f2 fa (18 * nb + 9) (vd_I b))) Q = _ := PT 10 (by decide) _ (vd_I 2) (h44 _ _ _ k2.2.2.2.2.2.1.1)
        have k3 := (((k2.put hM (q := 9) (v := vd_I b) (by decide)).put hM (q := 10) (v := vd_I 2) (by decide)).note (c := 117) (i := 0) (v := vd_I b) (Or.inr (by decide))).note (c := 117) (i := 1) (v := vd_I 2) (Or.inr (by decide))
        refine ⟨vd_up (vd_up f2 fa (18 * nb + 9) (vd_I b)) fa (18 * nb + 10) (vd_I 2), vd_up (vd_up g2 117 0 (vd_I b)) 117 1 (vd_I 2), b, 2, nn, .int (vd_I 1), fun d Q => ?_, fun d Q => ?_, ⟨by omega, Or.inr rfl⟩, k3.keepR (k3.1.mono (by omega)) (fun _ _ _ => rfl) (fun _ _ _ => rfl), ⟨?_, ?_, ?_, ?_⟩, ⟨?_, vd_up_eq _ _ _ _⟩, fun q hq => ?_, fun i hi => ?_, fun c' i c1 c2 => ?_, (((zB.trans hF.toB).trans p5.toB).up (Or.inr (Or.inr (Or.inl rfl)))).up (Or.inr (Or.inr (Or.inl rfl))), ((hG.toB.trans p6.toB).up (by omega)).up (by omega)⟩
        · rw [eF]
          simp (disch := omega) only [vd_S87_97 hM, vd_S87_101 hM, vd_S87_104 hM, vd_S87_109 hM, vd_S87_121 hM, vd_S87_124 hM, vd_S87_127 hM, vd_S87_131 hM, vd_S87_134 hM, vd_S87_158 hM, a9, vd_rs_v, vd_rs_n, vd_I_toInt, show ¬ ((1 : Int) = 0) by decide, if_false, vd_I_add, p1, P9, P10']
        · rw [eG]
          simp (disch := omega) only [vd_S206_100 hN, vd_S206_105 hN, vd_S206_116 hN, vd_S206_119 hN, vd_S206_126 hN, vd_rs_v, vd_rs_n, vd_I_toInt, show ¬ ((1 : Int) = 0) by decide, if_false, vd_I_add, p2, i0, i1]
        · rw [vd_up_ne (by omega), vd_up_ne (by omega), p5.cur hM, hF.cur hM]; exact z7
        · rw [vd_up_ne (by omega), vd_up_ne (by omega), p5.cur hM, hF.cur hM]; exact z8
        · rw [vd_up_ne (by omega), vd_up_eq]
        · rw [vd_up_eq]
        · rw [vd_up_ne (by omega), vd_up_eq]
        · rw [vd_up_ne (by omega), vd_up_ne (by omega), p5.cur hM, hF.cur hM]; exact zq q hq
        · rw [vd_up_ne (by omega), vd_up_ne (by omega), p6.cur (by omega), hG.cur (by omega)]
        · rw [vd_up_ne (by omega), vd_up_ne (by omega), p6 c' i (by omega) (by omega) (by omega), hG c' i (by omega) (by omega) (by omega)]
    have a18 : f0 17 18 = vd_I (if X 0 2 = 0 then 0 else 1) := hA.2.1.2.1
    have a19 : f0 17 19 = vd_I (if X 0 2 = 2 then 1 else 0) := hA.2.1.2.2.1
    have b45 : g 63 45 = vd_I (X 0 2) := hB.1.2.2.1
    have xd := hX.1.2.2.1
    rcases (show X 0 2 = 0 ∨ X 0 2 = 1 ∨ X 0 2 = 2 by omega) with q | q | q
    · rw [q] at a18 a19 b45
      rw [if_pos rfl] at a18
      rw [if_neg (by decide)] at a19
      refine fin (two := 0) k0 (by omega) (Or.inl rfl) (vd_fD.refl f0) (vd_gD.refl g) (fun d Q => ?_) (fun d Q => ?_)
      · rw [e21]
        simp (disch := omega) only [vd_S87_21 hM, vd_S87_27 hM, vd_S87_30 hM, vd_S87_51 hM, P2, c, a18, a19, vd_rs_v, vd_rs_n, vd_I_toInt, eq_self, if_true]
      · rw [g18, if_pos c]
        simp (disch := omega) only [vd_S206_50 hN, vd_S206_58 hN, vd_S206_99 hN, b45, vd_I_toInt, show ¬ ((0 : Int) = 1) by decide, show ¬ ((0 : Int) = 2) by decide, if_false]
    · rw [q] at a18 a19 b45
      rw [if_neg (by decide)] at a18
      rw [if_neg (by decide)] at a19
      refine fin (two := 1) k0 (by omega) (Or.inr rfl) (vd_fD.refl f0) (vd_gD.refl g) (fun d Q => ?_) (fun d Q => ?_)
      · rw [e21]
        simp (disch := omega) only [vd_S87_21 hM, vd_S87_27 hM, vd_S87_30 hM, vd_S87_51 hM, P2, c, a18, a19, vd_rs_v, vd_rs_n, vd_I_toInt, eq_self, if_true]
      · rw [g18, if_pos c]
        simp (disch := omega) only [vd_S206_50 hN, vd_S206_95 hN, b45, vd_I_toInt, eq_self, if_true]
    · rw [q] at a18 a19 b45
      rw [if_neg (by decide)] at a18
      rw [if_pos rfl] at a19
      have DA := fun d Q => vd_P208 (a := (x : Int)) (b := (y : Int) - 1) hN k0.2.1 k0.2.2.1 hW.2.1 hW.2.2.2 rfl d Q
      have DL := fun d Q => vd_P208 (a := (x : Int) - 1) (b := (y : Int)) (v := (y : Int) * (W : Int) + (x : Int) - 1) hN k0.2.1 k0.2.2.1 hW.2.1 hW.2.2.2 (by omega) d Q
      have a10 : ∀ d Q, vd_wp d 73 0 [.ref 44, .int (vd_I 10), .int (vd_I 2), vd_U] [] (vd_mf M f0) Q = Q (vd_mf M f0) (.inl (some (.int (vd_I (vd_eq1 B (vd_at W H O (x : Int) ((y : Int) - 1)) 10 2 + vd_eq1 B (vd_at W H O ((x : Int) - 1) (y : Int)) 10 2))))) := fun d Q => vd_alk hM k0 hc (q := 10) (v := 2) (by decide) (by decide) (by decide) d Q
      have d1 := vd_eq1_b B (vd_at W H O (x : Int) ((y : Int) - 1)) 10 2
      have d2 := vd_eq1_b B (vd_at W H O ((x : Int) - 1) (y : Int)) 10 2
      obtain ⟨f1, g1, b, p1, p2, p3, p4, p5, p6⟩ := vd_read hM hN (z := 1104 + (vd_eq1 B (vd_at W H O (x : Int) ((y : Int) - 1)) 10 2 + vd_eq1 B (vd_at W H O ((x : Int) - 1) (y : Int)) 10 2)) k0.1 (by omega) (by omega) (by omega)
      have p2' : ∀ d Q, vd_wp (d + 1) 202 0 [.ref 63, .int (vd_I (1104 + vd_eq1 B (vd_at W H O (x : Int) ((y : Int) - 1)) 10 2 + vd_eq1 B (vd_at W H O ((x : Int) - 1) (y : Int)) 10 2)), vd_U] [] (vd_mf N g) Q = Q (vd_mf N g1) (.inl (some (.int (vd_I b)))) := fun d Q => by rw [Int.add_assoc]; exact p2 d Q
      refine fin (two := b) (k0.keepD hM p4 p5 p6) (Nat.le_refl _) p3 p5 p6 (fun d Q => ?_) (fun d Q => ?_)
      · rw [e21]
        rcases p3 with rfl | rfl
        · simp (disch := omega) only [vd_S87_21 hM, vd_S87_27 hM, vd_S87_30 hM, vd_S87_51 hM, vd_S87_69 hM, vd_S87_80 hM, vd_S87_83 hM, vd_S87_84 hM, vd_S87_87 hM, vd_S87_95 hM, vd_S87_96 hM, P2, c, a18, a19, a10, vd_rs_v, vd_rs_n, vd_I_toInt, vd_I_add, eq_self, if_true, if_false, show ¬ ((1 : Int) = 0) by decide, show ¬ ((0 : Int) = 1) by decide, p1]
        · simp (disch := omega) only [vd_S87_21 hM, vd_S87_27 hM, vd_S87_30 hM, vd_S87_51 hM, vd_S87_69 hM, vd_S87_80 hM, vd_S87_83 hM, vd_S87_84 hM, vd_S87_87 hM, vd_S87_91 hM, vd_S87_96 hM, P2, c, a18, a19, a10, vd_rs_v, vd_rs_n, vd_I_toInt, vd_I_add, eq_self, if_true, if_false, show ¬ ((1 : Int) = 0) by decide, p1]
      · rw [g18, if_pos c]
        rcases p3 with rfl | rfl
        · simp (disch := omega) only [vd_S206_50 hN, vd_S206_58 hN, vd_S206_66 hN, vd_S206_75 hN, vd_S206_78 hN, vd_S206_84 hN, vd_S206_87 hN, vd_S206_88 hN, vd_S206_91 hN, vd_S206_99 hN, b45, u1, u2, DA, DL, vd_rs_v, vd_rs_n, vd_I_toInt, vd_I_add, eq_self, if_true, if_false, show ¬ ((2 : Int) = 1) by decide, show ¬ ((0 : Int) = 1) by decide, p2']
        · simp (disch := omega) only [vd_S206_50 hN, vd_S206_58 hN, vd_S206_66 hN, vd_S206_75 hN, vd_S206_78 hN, vd_S206_84 hN, vd_S206_87 hN, vd_S206_88 hN, vd_S206_91 hN, vd_S206_95 hN, b45, u1, u2, DA, DL, vd_rs_v, vd_rs_n, vd_I_toInt, vd_I_add, eq_self, if_true, if_false, show ¬ ((2 : Int) = 1) by decide, p2']
  · have hx5 := hft c
    have P9 : ∀ d Q, vd_wp d 74 0 [.ref 44, .int (vd_I 9), .int (vd_I (X 5 (4 * s + 2) - 1))] [] (vd_mf M f0) Q = _ := PT 9 (by decide) f0 (vd_I (X 5 (4 * s + 2) - 1)) here0
    have k1 := (k0.put hM (q := 9) (v := vd_I (X 5 (4 * s + 2) - 1)) (by decide)).note (c := 117) (i := 0) (v := vd_I (X 5 (4 * s + 2) - 1)) (Or.inr (by decide))
    refine ⟨vd_up f0 fa (18 * nb + 9) (vd_I (X 5 (4 * s + 2) - 1)), vd_up g 117 0 (vd_I (X 5 (4 * s + 2) - 1)), X 5 (4 * s + 2) - 1, -1, nn, vd_U, fun d Q => ?_, fun d Q => ?_, ⟨by omega, Or.inl rfl⟩, k1.keepR (k1.1.mono (by omega)) (fun _ _ _ => rfl) (fun _ _ _ => rfl), ⟨?_, ?_, ?_, ?_⟩, ⟨vd_up_eq _ _ _ _, ?_⟩, fun q hq => ?_, fun i hi => ?_, fun c' i c1 c2 => ?_, zB.up (Or.inr (Or.inr (Or.inl rfl))), (vd_gB.refl g).up (by omega)⟩
    · rw [e21]
      simp (disch := omega) only [vd_S87_21 hM, vd_S87_27 hM, vd_S87_30 hM, vd_S87_33 hM, vd_S87_42 hM, vd_S87_45 hM, vd_S87_47 hM, vd_S87_50 hM, P2, V2, c, vd_rs_v, vd_rs_n, vd_I_toInt, show ¬ ((1 : Int) = 0) by decide, if_false, vd_I_sub, P9]
    · rw [g18, if_neg (by omega)]
      simp (disch := omega) only [vd_S206_26 hN, vd_S206_43 hN, vd_S206_46 hN, hg, vd_I_mul, vd_I_add, ei, gf, vd_I_sub, show (0 : Int).toNat = 0 from rfl]
    · rw [vd_up_ne (by omega)]; exact z7
    · rw [vd_up_ne (by omega)]; exact z8
    · rw [vd_up_eq]
    · rw [vd_up_ne (by omega)]; exact z10
    · rw [vd_up_ne (by omega)]; exact hr1
    · rw [vd_up_ne (by omega)]; exact zq q hq
    · rw [vd_up_ne (by omega)]
    · rw [vd_up_ne (by omega)]
end VDRG
