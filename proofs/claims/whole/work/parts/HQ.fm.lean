/-! ===== a frame whole ===== -/
/-- what holds between frames rests on few cells -/
theorem vd_INV.keep {M N M' N' : vd_M} {ow fa lo lf : Nat} {Z : Nat → Nat → Nat → Nat} {f g f' g' : Nat → Nat → Int32} (h : vd_INV M N ow fa lo lf Z f g) (hk : ∀ c, c < 63 ∨ (197 ≤ c ∧ c < vd_n M) → vd_k M' c = vd_k M c ∧ vd_l M' c = vd_l M c) (hr : ∀ c i, c < 63 ∨ (197 ≤ c ∧ c < vd_n M) → vd_r M' c i = vd_r M c i) (hn : vd_n M ≤ vd_n M') (hf : ∀ c i, (c < 63 ∧ c ≠ 11 ∧ ¬ (c = 10 ∧ i ≤ 3)) ∨ (197 ≤ c ∧ c < vd_n M) → f' c i = f c i) (jk : ∀ c, c < 197 → vd_k N' c = vd_k N c ∧ vd_l N' c = vd_l N c) (jr : ∀ c i, c < 197 → vd_r N' c i = vd_r N c i) (jn : 197 ≤ vd_n N') (hg : ∀ c i, c < 10 ∨ (63 ≤ c ∧ c < 197 ∧ c ≠ 64 ∧ ¬ (c = 63 ∧ i ≤ 4)) → g' c i = g c i) (hT' : vd_RT f' g') : vd_INV M' N' ow fa lo lf Z f' g' := by
  obtain ⟨⟨hM, hN, hP, hn1⟩, ⟨hT, hC, hJ⟩, ⟨hp, hd⟩, ⟨hs, hb⟩, hG, ⟨⟨c1, c2, c3⟩, ⟨c4, c5, c6, c7⟩⟩, hZ⟩ := h
  obtain ⟨⟨ow0, ow1⟩, ⟨fa0, fa1⟩⟩ : (38 ≤ ow ∧ ow ≤ 41) ∧ (38 ≤ fa ∧ fa ≤ 41) := by
    have := hM.par
    omega
  have hol : ∀ x, vd_hol M' x = vd_hol M x := fun x => by
    unfold vd_hol
    rw [hr 13 x (by omega), hr 10 9 (by omega)]
  have hor : ∀ x, vd_hor N' x = vd_hor N x := fun x => by
    unfold vd_hor
    rw [jr 66 x (by omega), jr 63 7 (by omega)]
  have hf1 : ∀ c i, c < 63 → c ≠ 11 → c ≠ 10 → f' c i = f c i := fun c i a b d => hf c i (by omega)
  have hg1 : ∀ c i, c < 10 ∨ (65 ≤ c ∧ c < 197) → g' c i = g c i := fun c i a => hg c i (by omega)
  have g63 : ∀ i, 5 ≤ i → g' 63 i = g 63 i := fun i a => hg 63 i (by omega)
  refine ⟨⟨hM.keep (fun c q => (hk c (by omega)).1) (fun c q => (hk c (by omega)).2) (fun c i q _ _ _ _ _ _ => hr c i (by omega)), hN.keep (fun c q => (jk c q).1) (fun c q => (jk c q).2) (fun c i q _ _ _ => jr c i q), hP.hol hn (fun c a b => (hk c (by omega)).1) (fun c a b => (hk c (by omega)).2) (fun c i q => hr c i (by omega)) (fun x k hx e => by rw [hol] at e; exact hP.2.2.1 x k hx e), jn⟩, ⟨hT', hC.keep (fun i => hf1 _ _ (by omega) (by omega) (by omega)) (fun c i a b => hg1 c i (by omega)), hJ.keep (fun i => hf1 _ _ (by omega) (by omega) (by omega))⟩, ⟨fun x hx => ?_, hd.keep (fun x _ => hor x) (fun k hk => hg1 _ _ (by omega))⟩, ⟨hs.keep (fun i _ => hr 13 i (by omega)) (fun c i a b => hf1 c i (by omega) (by omega) (by omega)) (fun c i q => ?_), hb.keep (fun i => hf1 _ _ (by omega) (by omega) (by omega))⟩, hG.keep' (fun c i q => hf1 c i (by omega) (by omega) (by omega)) (fun c i q => ?_), ⟨⟨?_, ?_, ?_⟩, ⟨?_, ?_, ?_, ?_⟩⟩, hZ.keep (fun c i q => hf1 c i (by omega) (by omega) (by omega)) (fun c i q => hg1 c i (by omega))⟩
  · refine (hp x hx).keep (hol x) (hor x) (fun p s e q => ?_) (fun k hk' e c i q => hg1 c i (by omega))
    obtain ⟨z1, z2⟩ := hP.of hx e q
    have q' := q
    obtain ⟨⟨q1, q2⟩, ⟨q3, q4⟩, q5⟩ := q
    refine ⟨⟨⟨by rw [(hk p (by omega)).1, q1], by rw [hr p 2 (by omega), q2]⟩, ⟨by rw [(hk s (by omega)).1, q3], by rw [(hk s (by omega)).2, q4]⟩, q5⟩, fun c i e' => ?_⟩
    rcases e' with rfl | rfl
    · exact hf c i (by omega)
    · exact hf c i (by omega)
  · rcases q with q | ⟨rfl, rfl⟩
    · exact hg1 c i (by omega)
    · exact g63 13 (by omega)
  · by_cases c63 : c = 63
    · subst c63
      exact g63 i (by omega)
    · exact hg1 c i (by omega)
  · rw [hf 10 4 (by omega), g63 20 (by omega)]; exact c1
  · rw [hf 10 5 (by omega), g63 21 (by omega)]; exact c2
  · rw [hf 10 6 (by omega), hg1 79 4 (by omega)]; exact c3
  · rw [hf1 37 4 (by omega) (by omega) (by omega), hg1 79 0 (by omega)]; exact c4
  · rw [hf1 34 3 (by omega) (by omega) (by omega), hg1 79 1 (by omega)]; exact c5
  · rw [hf1 45 3 (by omega) (by omega) (by omega), hg1 79 2 (by omega)]; exact c6
  · rw [hf1 60 2 (by omega) (by omega) (by omega), hg1 79 3 (by omega)]; exact c7
theorem vd_INV.num {M N : vd_M} {ow fa lo lf : Nat} {Z : Nat → Nat → Nat → Nat} {f g f' g' : Nat → Nat → Int32} (h : vd_INV M N ow fa lo lf Z f g) (hf : ∀ c i, ¬ (c = 10 ∧ i ≤ 3) → f' c i = f c i) (hg : ∀ c i, ¬ (c = 63 ∧ i ≤ 4) → g' c i = g c i) : vd_INV M N ow fa lo lf Z f' g' :=
  h.keep (fun _ _ => ⟨rfl, rfl⟩) (fun _ _ _ => rfl) (Nat.le_refl _) (fun c i q => hf c i (by omega)) (fun _ _ => ⟨rfl, rfl⟩) (fun _ _ _ => rfl) h.1.2.2.2 (fun c i q => hg c i (by omega)) (fun i hi => by rw [hf _ _ (by omega), hg _ _ (by omega)]; exact h.2.1.1 i hi)
/-- what the reference leaves, but for its fault -/
def vd_Lq (N N' : vd_M) (g g' : Nat → Nat → Int32) (a b : Nat) : Prop := (∀ c i, c < vd_n N → (c < 63 ∨ c = 64 ∨ (c = 63 ∧ (1 ≤ i ∧ i ≤ 2)) ∨ 196 ≤ c) → g' c i = g c i) ∧ (∀ c, c < vd_n N → vd_k N' c = vd_k N c ∧ vd_l N' c = vd_l N c) ∧ (∀ c i, c < vd_n N → (c < 63 ∨ 196 ≤ c) → vd_r N' c i = vd_r N c i) ∧ ((∀ c i, c < vd_n N → vd_j N' c i = vd_j N c i) ∧ vd_n N ≤ vd_n N') ∧ (vd_c N' ≤ vd_c N + a ∧ vd_s N' ≤ vd_s N + b)
theorem vd_Lr.q {N N' : vd_M} {g g' : Nat → Nat → Int32} {a b : Nat} (h : vd_Lr N N' g g' a b) : vd_Lq N N' g g' a b := ⟨fun c i q1 q2 => h.1 c i q1 (by omega), h.2⟩
theorem vd_Lq.trans {N N' N'' : vd_M} {g g' g'' : Nat → Nat → Int32} {a b a' b' : Nat} (h : vd_Lq N N' g g' a b) (h' : vd_Lq N' N'' g' g'' a' b') : vd_Lq N N'' g g'' (a + a') (b + b') :=
  ⟨fun c i q1 q2 => (h'.1 c i (Nat.lt_of_lt_of_le q1 h.2.2.2.1.2) q2).trans (h.1 c i q1 q2), fun c q => ⟨((h'.2.1 c (Nat.lt_of_lt_of_le q h.2.2.2.1.2)).1).trans (h.2.1 c q).1, ((h'.2.1 c (Nat.lt_of_lt_of_le q h.2.2.2.1.2)).2).trans (h.2.1 c q).2⟩, fun c i q1 q2 => (h'.2.2.1 c i (Nat.lt_of_lt_of_le q1 h.2.2.2.1.2) q2).trans (h.2.2.1 c i q1 q2), ⟨fun c i q => (h'.2.2.2.1.1 c i (Nat.lt_of_lt_of_le q h.2.2.2.1.2)).trans (h.2.2.2.1.1 c i q), Nat.le_trans h.2.2.2.1.2 h'.2.2.2.1.2⟩, by have := h.2.2.2.2; have := h'.2.2.2.2; omega⟩
theorem vd_Lq.mono {N N' : vd_M} {g g' : Nat → Nat → Int32} {a b a' b' : Nat} (h : vd_Lq N N' g g' a b) (ha : a ≤ a') (hb : b ≤ b') : vd_Lq N N' g g' a' b' := ⟨h.1, h.2.1, h.2.2.1, h.2.2.2.1, by have := h.2.2.2.2; omega⟩
theorem vd_Lq.ints {N : vd_M} {g g' : Nat → Nat → Int32} (h : ∀ c i, (c < 63 ∨ c = 64 ∨ (c = 63 ∧ (1 ≤ i ∧ i ≤ 2)) ∨ 196 ≤ c) → g' c i = g c i) : vd_Lq N N g g' 0 0 := ⟨fun c i _ q => h c i q, fun _ _ => ⟨rfl, rfl⟩, fun _ _ _ _ => rfl, ⟨fun _ _ _ => rfl, Nat.le_refl _⟩, Nat.le_refl _, Nat.le_refl _⟩
section VDFM
variable {M N : vd_M} {ow fa lo lf : Nat} {Z : Nat → Nat → Nat → Nat} {f g : Nat → Nat → Int32}
theorem vd_frame (hI : vd_INV M N ow fa lo lf Z f g) {fr to : Int} (f0 : 0 ≤ fr) (f1 : fr < to) (t1 : to ≤ 65536) (x3 : Int32) : ∃ (M' N' : vd_M) (f' g' : Nat → Nat → Int32) (ow' fa' lo' lf' : Nat) (b : Int), (∀ d Q, vd_wp (d + 10) 26 0 [.ref 10, .int (vd_I fr), .int (vd_I to), vd_U, vd_U, vd_U] [] (vd_mf M f) Q = Q (vd_mf M' f') (.inl (some (.int (vd_I b))))) ∧ (∀ d Q, vd_wp (d + 14) 173 0 [.ref 63, .int (vd_I fr), .int (vd_I to), .int x3] [] (vd_mf N g) Q = Q (vd_mf N' g') (.inl none)) ∧ (0 ≤ b ∧ b ≤ 8) ∧ vd_INV M' N' ow' fa' lo' lf' Z f' g' ∧ vd_Lc M M' f f' ∧ vd_Lq N N' g g' 1 6 ∧ g' 63 3 = (if b = 0 then g 63 3 else vd_I b) ∧ g' 63 4 = (if b = 0 then g 63 4 else x3) := by
  have hM := hI.1.1
  have hN := hI.1.2.1
  obtain ⟨F, F1, G, G1, N1, a, b, t, e1, e2, ⟨⟨H0, H1, H2, H3, H4⟩, kG⟩, _, ⟨b3, b0, b8⟩, ⟨g75, g76⟩, hV, hn3, kF1, kG1, hI1⟩ := vd_frH hI f0 f1 t1
  have hN1 := hI1.1.2.1
  have Lc1 : vd_Lc M M f F1 := vd_Lc.ints (fun c i q => kF1 c i (by omega) (by omega) (by omega) (by omega) (by omega))
  have Lr1 : vd_Lr N N1 g G1 0 0 := vd_Lr.ms (fun c i q => kG1 c i (by unfold vd_inH; omega) (by omega)) hn3.ms (fun c i q => hn3.2 c i (by omega))
  have k63 : ∀ i, 1 ≤ i → i ≤ 4 → G1 63 i = g 63 i := fun i q1 q2 => kG1 63 i (by unfold vd_inH; omega) (by omega)
  by_cases cb : b = 0
  · subst cb
    have hV' := hV rfl
    rcases hV' with ⟨ha, hNe, ⟨s, hs, hne, ea, h170, h171⟩, _, _⟩ | ⟨ha, _, sho, rs, kd, rfr, w, h, kp, fx, cx, ln, at_, k, bb, h17, h63, hS, ⟨eln, eat⟩⟩
    · obtain ⟨M', N', f', g', q1, q2, q3, q4, q5, q6⟩ := vd_frA hI1 hs hne h170 h171 (vd_I fr) (vd_I to)
      obtain ⟨a1, a2, a3, a4⟩ := a
      have ha : a1 = 1 := ha
      have ea : a2 = vd_I (s : Int) := ea
      subst ha ea
      have l := (Lr1.trans q6)
      refine ⟨M', N', f', g', ow, fa, lo, lf, 0, fun d Q => ?_, fun d Q => ?_, ⟨by decide, by decide⟩, q4, Lc1.trans q5, (l.q).mono (by omega) (by omega), ?_, ?_⟩
      · refine (e1 (d + 4) Q).trans ?_
        have q1' := q1 (d + 9) Q
        simp (disch := omega) only [vd_S26_40 hM, b3, vd_I_toInt, eq_self, if_true]
        exact q1'
      · refine (e2 x3 (d + 9) Q).trans ?_
        rw [vd_T174_1 g76]
        refine (q2 (d + 12) _).trans ?_
        simp (disch := omega) only [vd_rs_v, vd_rs_n, vd_S173_25 q4.1.2.1, q3, g76, vd_I_toInt, eq_self, if_true, vd_S173_32 q4.1.2.1]
      · rw [if_pos rfl, q6.1 63 3 (by have := hI1.1.2.2.2; omega) (by omega), k63 3 (by omega) (by omega)]
      · rw [if_pos rfl, q6.1 63 4 (by have := hI1.1.2.2.2; omega) (by omega), k63 4 (by omega) (by omega)]
    · have kf : ∀ c i, c ≠ 16 → c ≠ 17 → c ≠ 18 → c ≠ 19 → ¬ (27 ≤ c ∧ c ≤ 33) → f c i = F1 c i := fun c i u1 u2 u3 u4 u5 => (kF1 c i u1 u2 u3 u4 u5).symm
      obtain ⟨M2, N2, f2, g2, W, H, p, s, j, X, mo, L, R, y3, u1, u2, hm, lc2, lr2, z76⟩ := vd_frB hI1 (F := F) (by rw [H1, kf _ _ (by omega) (by omega) (by omega) (by omega) (by omega)]) (fun i hi => by rw [H2 i hi, kf _ _ (by omega) (by omega) (by omega) (by omega) (by omega)]) (fun i hi => by rw [H3 i hi, kf _ _ (by omega) (by omega) (by omega) (by omega) (by omega)]) (fun i hi => by rw [H4 i hi, kf _ _ (by omega) (by omega) (by omega) (by omega) (by omega)]) k bb h17 h63 hS g75 t1 (vd_I fr)
      obtain ⟨M3, N3, f3, g3, v1, v2, hI3, lc3, lr3, z76'⟩ := vd_frE hm (vd_I fr) (vd_I to) (vd_I at_) (vd_I ln) y3
      obtain ⟨a1, a2, a3, a4⟩ := a
      have ha : a1 = 2 := ha
      have eln : a3 = vd_I ln := eln
      have eat : a4 = vd_I at_ := eat
      subst ha eln eat
      have l := ((Lr1.trans lr2).trans lr3)
      have n1 := hI.1.2.2.2
      refine ⟨M3, N3, f3, g3, lo, lf, ow, fa, 0, fun d Q => ?_, fun d Q => ?_, ⟨by decide, by decide⟩, hI3, (Lc1.trans lc2).trans lc3, (l.q).mono (by omega) (by omega), ?_, ?_⟩
      · refine (e1 (d + 4) Q).trans ?_
        have q1' := (u1 (d + 5) Q).trans (v1 d Q)
        simp (disch := omega) only [vd_S26_40 hM, b3, vd_I_toInt, eq_self, if_true]
        exact q1'
      · refine (e2 x3 (d + 9) Q).trans ?_
        rw [vd_T174_2 g76]
        have q2' : ∀ Q, vd_wp (d + 12) 186 0 [.ref 63, .int (vd_I at_), .int (vd_I ln), vd_U, vd_U, vd_U] [] (vd_mf N1 G1) Q = Q (vd_mf N3 g3) (.inl none) := fun Q => (u2 (d + 9) Q).trans (v2 d Q)
        have z : g3 63 76 = vd_I 0 := by rw [z76', z76, g76]
        simp (disch := omega) only [vd_S174_292 hN1, vd_S174_295 hN1, q2', vd_rs_v, vd_rs_n, vd_S174_298 hI3.1.2.1, vd_S173_25 hI3.1.2.1, z, vd_I_toInt, eq_self, if_true, vd_S173_32 hI3.1.2.1]
      · rw [if_pos rfl, l.1 63 3 (by omega) (by omega)]
      · rw [if_pos rfl, l.1 63 4 (by omega) (by omega)]
  · have nb : ¬ ((vd_I b).toInt = 0) := by rw [vd_I_toInt (by omega) (by omega)]; exact cb
    refine ⟨M, N1, F1, vd_up (vd_up G1 63 3 (G1 63 76)) 63 4 x3, ow, fa, lo, lf, b, fun d Q => ?_, fun d Q => ?_, ⟨b0, b8⟩, hI1.num (fun _ _ _ => rfl) (fun c i q => by rw [vd_up_ne (by omega), vd_up_ne (by omega)]), Lc1, ?_, ?_, ?_⟩
    · refine (e1 (d + 4) Q).trans ?_
      simp only [vd_S26_40 hM, b3, nb, if_false, vd_S26_50 hM]
    · refine (e2 x3 (d + 9) Q).trans ?_
      rw [vd_T174_b (by rw [g76]; exact nb)]
      simp only [vd_rs_v, vd_rs_n, vd_S173_25 hN1, g76, nb, if_false, vd_S173_33 hN1]
    · have l2 : vd_Lq N1 N1 G1 (vd_up (vd_up G1 63 3 (G1 63 76)) 63 4 x3) 0 0 := vd_Lq.ints (fun c i q => by rw [vd_up_ne (by omega), vd_up_ne (by omega)])
      exact (Lr1.q.trans l2).mono (by omega) (by omega)
    · rw [if_neg cb, vd_up_ne (by omega), vd_up_eq, g76]
    · rw [if_neg cb, vd_up_eq]
end VDFM
