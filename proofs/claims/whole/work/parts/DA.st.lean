/-! ===== a square is predicted from what stands round it, both ===== -/
theorem vd_mk_o {K : Nat → Nat → Nat → Int} {pl x y n : Nat} {v : Int} (hx4 : x % 4 = 0) (hy4 : y % 4 = 0) {X Y : Int} (h : X < (x : Int) ∨ Y < (y : Int)) : vd_mk (vd_rect K pl (x / 4) (y / 4) (n / 4) (n / 4) fun _ _ => v) pl X Y = vd_mk K pl X Y := by
  unfold vd_mk
  split
  · exact vd_rect_out (by omega)
  · rfl
theorem vd_aO {P K : Nat → Nat → Nat → Int} {pl x y n : Nat} {v : Int} (hx4 : x % 4 = 0) (hy4 : y % 4 = 0) : vd_ka (vd_rect K pl (x / 4) (y / 4) (n / 4) (n / 4) fun _ _ => v) pl x y n = vd_ka K pl x y n ∧ vd_kb (vd_rect K pl (x / 4) (y / 4) (n / 4) (n / 4) fun _ _ => v) pl x y n = vd_kb K pl x y n ∧ vd_aA P (vd_rect K pl (x / 4) (y / 4) (n / 4) (n / 4) fun _ _ => v) pl x y n = vd_aA P K pl x y n ∧ vd_aL P (vd_rect K pl (x / 4) (y / 4) (n / 4) (n / 4) fun _ _ => v) pl x y n = vd_aL P K pl x y n ∧ vd_aC P (vd_rect K pl (x / 4) (y / 4) (n / 4) (n / 4) fun _ _ => v) pl x y n = vd_aC P K pl x y n := by
  have a : vd_Fa (vd_rect K pl (x / 4) (y / 4) (n / 4) (n / 4) fun _ _ => v) pl x y = vd_Fa K pl x y := funext fun t => vd_mk_o hx4 hy4 (by omega)
  have b : vd_Fl (vd_rect K pl (x / 4) (y / 4) (n / 4) (n / 4) fun _ _ => v) pl x y = vd_Fl K pl x y := funext fun t => vd_mk_o hx4 hy4 (by omega)
  have ka : vd_ka (vd_rect K pl (x / 4) (y / 4) (n / 4) (n / 4) fun _ _ => v) pl x y n = vd_ka K pl x y n := by unfold vd_ka; rw [a]
  have kb : vd_kb (vd_rect K pl (x / 4) (y / 4) (n / 4) (n / 4) fun _ _ => v) pl x y n = vd_kb K pl x y n := by unfold vd_kb; rw [b]
  refine ⟨ka, kb, ?_, ?_, ?_⟩
  · unfold vd_aA; rw [ka]
  · unfold vd_aL; rw [kb]
  · unfold vd_aC; rw [ka, vd_mk_o hx4 hy4 (by omega)]
section VDST
variable {M N : vd_M} {ow fa lo lf W H : Nat} {p s q pl n x y : Nat} {pw ph : Int} {O : Nat → Nat → Option Nat} {P K : Nat → Nat → Nat → Int}
def vd_fZ (s : Nat) (f f' : Nat → Nat → Int32) : Prop := ∀ c i, c ≠ 52 → c ≠ 53 → c ≠ s → f' c i = f c i
def vd_gZ (q : Nat) (g g' : Nat → Nat → Int32) : Prop := ∀ c i, c ≠ 126 → c ≠ 127 → ¬ (c = 63 ∧ 126 ≤ i ∧ i ≤ 128) → ¬ (106 ≤ c ∧ c ≤ 108) → ¬ (q + 2 ≤ c ∧ c ≤ q + 4) → g' c i = g c i
def vd_StPost (M N : vd_M) (p s q pl n x y : Nat) (pw ph md : Int) (K1 : Nat → Nat → Nat → Int) (f g : Nat → Nat → Int32) : Prop := ∃ (f1 f' g' : Nat → Nat → Int32) (P' : Nat → Nat → Nat → Int), (∀ d Q, vd_wp (d + 2) 123 0 [.ref 52, .ref p, .int (vd_I (pl : Int)), .int (vd_I (x : Int)), .int (vd_I (y : Int)), .int (vd_I (n : Int))] [] (vd_mf M f) Q = Q (vd_mf M f1) (.inl none)) ∧ (∀ d Q, vd_wp (d + 2) 126 0 [.ref 52, .ref p, .int (vd_I md), vd_U, vd_U, vd_U, vd_U] [] (vd_mf M f1) Q = Q (vd_mf M f') (.inl none)) ∧ (∀ d Q, vd_wp (d + 5) 246 0 [.ref 63, .int (vd_I (pl : Int)), .int (vd_I (x : Int)), .int (vd_I (y : Int)), .int (vd_I (n : Int)), .int (vd_I md), vd_U, vd_U, vd_U] [] (vd_mf N g) Q = Q (vd_mf N g') (.inl none)) ∧ vd_PSC s pw ph P' f' ∧ vd_PSR q pw ph P' g' ∧ vd_KWr pw ph K1 g' ∧ (∀ pl x y, 0 ≤ P' pl x y ∧ P' pl x y ≤ 255) ∧ vd_fZ s f f' ∧ vd_gZ q g g'
theorem vd_still (hM : vd_SC M ow fa lo lf) (hN : vd_SR N) (hp : vd_PC M p s) (hq : vd_PD N q) (hnow : vd_r N 63 23 = some q) {f g : Nat → Nat → Int32} {v : Int} (hv : v ≠ 0) (hs : vd_PSC s pw ph P f) (hk : vd_KC (vd_rect K pl (x / 4) (y / 4) (n / 4) (n / 4) fun _ _ => v) f) (hr : vd_PSR q pw ph P g) (kw : vd_KWr pw ph K g) (kv : vd_PKV W H pw ph O P K) (kv1 : vd_PKV W H pw ph O P (vd_rect K pl (x / 4) (y / 4) (n / 4) (n / 4) fun _ _ => v)) (hg : g q 0 = vd_I pw ∧ g q 1 = vd_I ph) (p0 : 1 ≤ pw ∧ pw ≤ 192) (q0 : 1 ≤ ph ∧ ph ≤ 192) (hpl : pl < 3) (hn : vd_nn4 n) (hx4 : x % 4 = 0) (hy4 : y % 4 = 0) (hx : x + n ≤ vd_ws pl pw) (hy : y + n ≤ vd_ws pl ph) {md : Int} (m0 : 0 ≤ md ∧ md ≤ 9) : vd_StPost M N p s q pl n x y pw ph md (vd_rect K pl (x / 4) (y / 4) (n / 4) (n / 4) fun _ _ => v) f g := by
  have n32 : 4 ≤ n ∧ n ≤ 32 ∧ n % 4 = 0 := by unfold vd_nn4 at hn; omega
  have hpb := hp.2.2
  have hqb := hq.2.2.2
  have wsb := (vd_ws_b (pl := pl) p0.1 p0.2).1
  have hsb := (vd_ws_b (pl := pl) q0.1 q0.2).1
  obtain ⟨o1, o2, o3, o4, o5⟩ := vd_aO (P := P) (K := K) (pl := pl) (x := x) (y := y) (n := n) (v := v) hx4 hy4
  obtain ⟨f1, c1, c2, c3, c4, c5, c6⟩ := vd_P123 hM hp hk hs kv1 p0 q0 hpl hn hx4 hy4 (show x < vd_ws pl pw by omega) (show y < vd_ws pl ph by omega)
  rw [o1] at c4
  rw [o2] at c5
  rw [o3, o4, o5] at c2
  obtain ⟨g1, r1, r2, r3, r4, r5⟩ := vd_P247 hN hq hnow hn kv p0 q0 hpl hx4 hy4 (show x < vd_ws pl pw by omega) (show y < vd_ws pl ph by omega) hg kw hr
  have hV := vd_aE (K := K) (pl := pl) (x := x) (y := y) kv.1 hn
  generalize vd_aA P K pl x y n = A at *
  generalize vd_aL P K pl x y n = L at *
  generalize vd_aC P K pl x y n = cr at *
  have Eb := vd_Ee_b hV.1 hV.2.1 hV.2.2.1
  have onv : ∀ k, vd_on k 0 = 0 ∨ vd_on k 0 = 1 := fun k => by
    unfold vd_on
    split
    · exact Or.inr rfl
    · exact Or.inl rfl
  have c4' : f1 52 6 = vd_I (vd_on (vd_ka K pl x y n) 0) := c4
  have c5' : f1 52 7 = vd_I (vd_on (vd_kb K pl x y n) 0) := c5
  have oa := onv (vd_ka K pl x y n)
  have ob := onv (vd_kb K pl x y n)
  generalize vd_on (vd_ka K pl x y n) 0 = ha at *
  generalize vd_on (vd_kb K pl x y n) 0 = hb at *
  have mb := vd_mn_b (A := A) (L := L) (n := n) oa ob hV.1 hV.2.1 (by omega)
  have P127 := vd_P127 hM ⟨n32.1, n32.2.1⟩ c2 hV c3.2.2.2 c4' c5' oa ob
  have P250 := vd_P250 hN ⟨n32.1, n32.2.1⟩ r2 hV r3 r4 oa ob
  obtain ⟨mv, hmv⟩ : ∃ mv : Int, mv = if md = 0 then vd_mn ha hb A L n else 0 := ⟨_, rfl⟩
  have mvb : 0 ≤ mv ∧ mv ≤ 255 := by
    rw [hmv]
    split
    · exact mb
    · decide
  obtain ⟨f2, d1, d2, d3⟩ := vd_L126r (mv := mv) (x := x) (y := y) hM hp ⟨n32.1, n32.2.1⟩ Eb m0 hpl (by omega) (by omega) n 0 f1 vd_U vd_U (by omega) c2 c3
  obtain ⟨g2, s1, s2, s3⟩ := vd_L246j (mv := mv) (x := x) (y := y) hN hq hnow ⟨n32.1, n32.2.1⟩ hV m0 mvb hpl p0 hx (by omega) n 0 g1 vd_U (by omega) (by rw [r5 _ _ (by omega) (by omega) (by omega)]; exact hg.1) r2
  have z0 : ((0 : Nat) : Int) = 0 := rfl
  rw [z0] at d1 s1
  have f5 := c3.2.2.2
  refine ⟨f1, f2, g2, vd_rect P pl x y n n (fun X Y => vd_pv md mv (vd_Ee A L cr) n (X - x) (Y - y)), c1, fun d Q => ?_, fun d Q => ?_, ?_, ?_, ?_, fun c a b => ?_, fun c i a1 a2 a3 => ?_, fun c i a1 a2 a3 a4 a5 => ?_⟩
  · rw [← d1 d Q]
    by_cases cm : md = 0
    · rw [if_pos cm] at hmv
      rw [hmv]
      simp (disch := omega) only [vd_S126_0 hM, vd_I_toInt, cm, eq_self, if_true, vd_S126_4 hM, vd_S126_5 hM, P127, vd_S126_8 hM, vd_S126_12 hM, vd_rs_v, vd_rs_n]
    · rw [if_neg cm] at hmv
      rw [hmv]
      simp (disch := omega) only [vd_S126_0 hM, vd_I_toInt, cm, if_false, vd_S126_11 hM, vd_S126_12 hM]
  · have s1' := s1 (d + 1) Q
    rw [← s1']
    by_cases cm : md = 0
    · rw [if_pos cm] at hmv
      rw [hmv]
      simp (disch := omega) only [vd_S246_0 hN, vd_S246_6 hN, r1, vd_S246_9 hN, vd_I_toInt, cm, eq_self, if_true, vd_S246_14 hN, vd_S246_17 hN, P250, vd_S246_20 hN, vd_S246_24 hN, vd_rs_v, vd_rs_n]
    · rw [if_neg cm] at hmv
      rw [hmv]
      simp (disch := omega) only [vd_S246_0 hN, vd_S246_6 hN, r1, vd_S246_9 hN, vd_I_toInt, cm, if_false, vd_S246_23 hN, vd_S246_24 hN, vd_rs_v, vd_rs_n]
  · have hs1 : vd_PSC s pw ph P f1 := hs.keep fun i => c6 _ _ (by omega) (by omega)
    refine hs1.rect p0 q0 hpl (by omega) (by omega) (fun i j hi hj => ?_) (fun i hi => d3 s i (fun _ c r' hc _ hr => hi c r' hc hr))
    rw [d2 i j hi (Nat.zero_le _) hj, show y + j - y = j by omega, show x + i - x = i by omega]
  · have hr1 : vd_PSR q pw ph P g1 := hr.keep fun c i a b => r5 _ _ (by omega) (by omega) (by omega)
    refine hr1.rect hpl hx (fun i j hi hj => ?_) (fun c i a1 a2 a3 => s3 c i (fun e i' j' hi _ hj => a3 (by omega) i' j' hi hj))
    rw [(s2 i j hi (Nat.zero_le _) hj).1, show y + j - y = j by omega, show x + i - x = i by omega]
  · have kw1 : vd_KWr pw ph K g1 := kw.keep fun c i a b => r5 _ _ (by omega) (by omega) (by omega)
    have ex : 4 * (x / 4) = x := by omega
    have ey : 4 * (y / 4) = y := by omega
    have en : 4 * (n / 4) = n := by omega
    refine kw1.rect hv hpl (by omega) (fun i j hi hj => ?_) (fun c k a1 a2 a3 => s3 c k (fun e i' j' hi _ hj => ?_))
    · rw [ex, ey]
      exact (s2 i j (by omega) (Nat.zero_le _) (by omega)).2
    · have := a3 (by omega) i' j' (by omega) (by omega)
      rw [ex, ey] at this
      exact this
  · unfold vd_rect
    split
    · unfold vd_pv
      split
      · exact mvb
      · exact vd_pm_b Eb n md _ _
    · exact kv.1 c a b
  · rw [d3 c i (fun e => absurd e a3), c6 c i a1 a2]
  · rw [s3 c i (fun e => by omega), r5 c i a1 a2 a3]
end VDST
