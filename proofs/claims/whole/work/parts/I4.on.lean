/-! ===== one memory ===== -/
theorem vd_cmpS (x : Int64) : lg_cmp x x = vd_I 0 := by
  unfold lg_cmp
  simp
  try decide
theorem vd_rh_v (v : Value) (st : List Value) (hn : List (Nat × Nat × Nat)) (pc : Nat) (M1 : vd_M) (F : Nat → List Value → Prop) (np : Nat) : vd_rh (.inl (some v)) st hn pc M1 F np = F np (v :: st) := Eq.trans rfl rfl
theorem vd_rh_r {o : Nat} {st : List Value} {hn : List (Nat × Nat × Nat)} {pc : Nat} {M1 : vd_M} {F : Nat → List Value → Prop} {np h : Nat} (e : vd_hnd hn pc (vd_k M1 o) = some h) : vd_rh (.inr o) st hn pc M1 F np = F h [.ref o] := by
  have q : vd_rh (.inr o) st hn pc M1 F np = ∃ h', vd_hnd hn pc (vd_k M1 o) = some h' ∧ F h' [.ref o] := rfl
  rw [q]
  exact propext ⟨fun ⟨h', e', y⟩ => by rw [e] at e'; cases e'; exact y, fun y => ⟨h, e, y⟩⟩
theorem vd_SR.keep2 {N N' : vd_M} (h : vd_SR N) (hk : ∀ c, c < 10 ∨ (63 ≤ c ∧ c < 197) → vd_k N' c = vd_k N c) (hl : ∀ c, c < 10 ∨ (63 ≤ c ∧ c < 197) → vd_l N' c = vd_l N c) (hr : ∀ c i, c < 10 ∨ (63 ≤ c ∧ c < 197) → vd_r N' c i = vd_r N c i) : vd_SR N' := by
  unfold vd_SR at *
  simp (disch := decide) only [hk, hl, hr]
  exact h
theorem vd_INV.kR {M N N' : vd_M} {ow fa lo lf : Nat} {Z : Nat → Nat → Nat → Nat} {f g g' : Nat → Nat → Int32} (h : vd_INV M N ow fa lo lf Z f g) (jk : ∀ c, c < 10 ∨ (63 ≤ c ∧ c < 197) → vd_k N' c = vd_k N c ∧ vd_l N' c = vd_l N c) (jr : ∀ c i, c < 10 ∨ (63 ≤ c ∧ c < 197) → vd_r N' c i = vd_r N c i) (jn : 197 ≤ vd_n N') (hg : ∀ c i, c < 10 ∨ (63 ≤ c ∧ c < 197) → g' c i = g c i) : vd_INV M N' ow fa lo lf Z f g' := by
  obtain ⟨⟨hM, hN, hP, hn1⟩, ⟨hT, hC, hJ⟩, ⟨hp, hd⟩, ⟨hs, hb⟩, hG, ⟨⟨c1, c2, c3⟩, ⟨c4, c5, c6, c7⟩⟩, hZ⟩ := h
  have hor : ∀ x, vd_hor N' x = vd_hor N x := fun x => by
    unfold vd_hor
    rw [jr 66 x (by omega), jr 63 7 (by omega)]
  have hg1 : ∀ c i, c < 10 ∨ (63 ≤ c ∧ c < 197) → g' c i = g c i := hg
  refine ⟨⟨hM, hN.keep2 (fun c q => (jk c q).1) (fun c q => (jk c q).2) jr, hP, jn⟩, ⟨fun i hi => ?_, hC.keep (fun i => rfl) (fun c i a b => hg1 c i (by omega)), hJ⟩, ⟨fun x hx => (hp x hx).keep rfl (hor x) (fun p s e q => ⟨q, fun _ _ _ => rfl⟩) (fun k hk' e c i q => hg1 c i (by omega)), hd.keep (fun x _ => hor x) (fun k hk => hg1 _ _ (by omega))⟩, ⟨hs.keep (fun _ _ => rfl) (fun _ _ _ _ => rfl) (fun c i q => hg1 c i (by omega)), hb⟩, hG.keep' (fun _ _ _ => rfl) (fun c i q => hg1 c i (by omega)), ⟨⟨?_, ?_, ?_⟩, ⟨?_, ?_, ?_, ?_⟩⟩, hZ.keep (fun _ _ _ => rfl) (fun c i q => hg1 c i (by omega))⟩
  · rw [hg1 _ _ (by omega)]; exact hT i hi
  · rw [hg1 _ _ (by omega)]; exact c1
  · rw [hg1 _ _ (by omega)]; exact c2
  · rw [hg1 _ _ (by omega)]; exact c3
  · rw [hg1 _ _ (by omega)]; exact c4
  · rw [hg1 _ _ (by omega)]; exact c5
  · rw [hg1 _ _ (by omega)]; exact c6
  · rw [hg1 _ _ (by omega)]; exact c7
theorem vd_API.kR {M N N' : vd_M} {ow fa lo lf : Nat} {Z : Nat → Nat → Nat → Nat} {f g g' : Nat → Nat → Int32} (h : vd_API M N ow fa lo lf Z f g) (jk : ∀ c, c < 10 ∨ (63 ≤ c ∧ c < 197) → vd_k N' c = vd_k N c ∧ vd_l N' c = vd_l N c) (jr : ∀ c i, c < 10 ∨ (63 ≤ c ∧ c < 197) → vd_r N' c i = vd_r N c i) (jn : 197 ≤ vd_n N') (hg : ∀ c i, c < 10 ∨ (63 ≤ c ∧ c < 197) → g' c i = g c i) : vd_API M N' ow fa lo lf Z f g' := by
  obtain ⟨hI, ⟨n, n1, n2, n3⟩, ⟨e1, e2⟩, hc⟩ := h
  exact ⟨hI.kR jk jr jn hg, ⟨n, n1, n2, by rw [hg 63 1 (by omega), n3]⟩, ⟨by rw [e1, hg 63 3 (by omega)], by rw [e2, hg 63 4 (by omega)]⟩, hc⟩
theorem vd_API.kC {M N M' : vd_M} {ow fa lo lf : Nat} {Z : Nat → Nat → Nat → Nat} {f g f' : Nat → Nat → Int32} (h : vd_API M N ow fa lo lf Z f g) (hk : ∀ c, c < 63 ∨ (197 ≤ c ∧ c < vd_n M) → vd_k M' c = vd_k M c ∧ vd_l M' c = vd_l M c) (hr : ∀ c i, c < 63 ∨ (197 ≤ c ∧ c < vd_n M) → vd_r M' c i = vd_r M c i) (hn : vd_n M ≤ vd_n M') (hf : ∀ c i, c < 63 ∨ (197 ≤ c ∧ c < vd_n M) → f' c i = f c i) : vd_API M' N ow fa lo lf Z f' g := by
  obtain ⟨hI, ⟨n, n1, n2, n3⟩, ⟨e1, e2⟩, hc⟩ := h
  exact ⟨hI.keep hk hr hn (fun c i q => hf c i (by omega)) (fun _ _ => ⟨rfl, rfl⟩) (fun _ _ _ => rfl) hI.1.2.2.2 (fun _ _ _ => rfl) (fun i hi => by rw [hf 11 i (by omega)]; exact hI.2.1.1 i hi), ⟨n, n1, by rw [hf 10 1 (by omega), n2], n3⟩, ⟨by rw [hf 10 2 (by omega), e1], by rw [hf 10 3 (by omega), e2]⟩, fun k hk => by rw [hf 15 k (by omega)]; exact hc k hk⟩
/-- what holds between the law's calls -/
def vd_LW (L : Nat) (xs : Nat → Int32) (Z : Nat → Nat → Nat → Nat) (c s : Nat) (M : vd_M) (f : Nat → Nat → Int32) : Prop := (∃ ow fa lo lf, vd_API M M ow fa lo lf Z f f) ∧ (vd_k M 9 = 32 ∧ vd_l M 9 = L ∧ ∀ b, f 9 b = xs b) ∧ (vd_k M 196 = 35 ∧ vd_l M 196 = 1) ∧ (vd_c M + 2 * vd_nop M ≤ c ∧ vd_s M + (55296 * vd_nop M + 3 * vd_nop M) ≤ s)
/-- what a helper of the law leaves -/
def vd_Hp (M N : vd_M) (f g : Nat → Nat → Int32) : Prop := (∀ c, c < vd_n M → vd_k N c = vd_k M c ∧ vd_l N c = vd_l M c) ∧ (∀ c i, c < vd_n M → vd_r N c i = vd_r M c i ∧ g c i = f c i) ∧ vd_n M ≤ vd_n N ∧ (vd_c N ≤ vd_c M + 1 ∧ vd_s N ≤ vd_s M + 6)
theorem vd_Hp.refl (M : vd_M) (f : Nat → Nat → Int32) : vd_Hp M M f f := ⟨fun _ _ => ⟨rfl, rfl⟩, fun _ _ _ => ⟨rfl, rfl⟩, Nat.le_refl _, Nat.le_add_right _ _, Nat.le_add_right _ _⟩
theorem vd_Hp.sj (M : vd_M) (f : Nat → Nat → Int32) (o i : Nat) (y : Int64) : vd_Hp M (vd_sj M o i y) f f := ⟨fun _ _ => ⟨rfl, rfl⟩, fun _ _ _ => ⟨rfl, rfl⟩, Nat.le_refl _, Nat.le_add_right _ _, Nat.le_add_right _ _⟩
theorem vd_Hp.new (M : vd_M) (f : Nat → Nat → Int32) (k : Nat) : vd_Hp M (vd_new M k 0 6) f (vd_nz0 f (vd_n M)) := ⟨fun c h => ⟨by rw [vd_k_new, if_neg (by omega)], by rw [vd_l_new, if_neg (by omega)]⟩, fun c i h => ⟨by rw [vd_r_new, if_neg (by omega)], vd_nz0_ne (by omega)⟩, Nat.le_succ _, Nat.le_refl _, Nat.le_refl _⟩
theorem vd_LW.mono {L : Nat} {xs : Nat → Int32} {Z : Nat → Nat → Nat → Nat} {c s c' s' : Nat} {M : vd_M} {f : Nat → Nat → Int32} (h : vd_LW L xs Z c s M f) (hc : c ≤ c') (hs : s ≤ s') : vd_LW L xs Z c' s' M f := ⟨h.1, h.2.1, h.2.2.1, Nat.le_trans h.2.2.2.1 hc, Nat.le_trans h.2.2.2.2 hs⟩
/-- a call has one end -/
theorem vd_det {mc kc kd1 kd2 : Nat} {ac : List Value} {M M1 M2 : vd_M} {f f1 f2 : Nat → Nat → Int32} {t t2 : Int} {v v2 : Int32} (hkd : kd2 = 0 ∨ kd1 ≠ kd2) (c0 : t = 0 → ∀ d Q, vd_wp (d + mc) kc 0 ac [] (vd_mf M f) Q = Q (vd_mf M1 f1) (.inl (some (.int v)))) (c1 : t = 1 → ∀ d Q, vd_wp (d + mc) kc 0 ac [] (vd_mf M f) Q = Q (vd_new (vd_mf M1 f1) kd1 0 6) (.inr (vd_n M1))) (c2 : t = 2 → ∀ d Q, vd_wp (d + mc) kc 0 ac [] (vd_mf M f) Q = Q (vd_new (vd_mf M1 f1) kd2 0 6) (.inr (vd_n M1))) (ht : t = 0 ∨ (t = 1 ∧ kd1 ≠ 0) ∨ (t = 2 ∧ kd2 ≠ 0)) (e0 : t2 = 0 → ∀ d Q, vd_wp (d + mc) kc 0 ac [] (vd_mf M f) Q = Q (vd_mf M2 f2) (.inl (some (.int v2)))) (e1 : t2 = 1 → ∀ d Q, vd_wp (d + mc) kc 0 ac [] (vd_mf M f) Q = Q (vd_new (vd_mf M2 f2) kd1 0 6) (.inr (vd_n M2))) (e2 : t2 = 2 → ∀ d Q, vd_wp (d + mc) kc 0 ac [] (vd_mf M f) Q = Q (vd_new (vd_mf M2 f2) kd2 0 6) (.inr (vd_n M2))) (ht2 : t2 = 0 ∨ (t2 = 1 ∧ kd1 ≠ 0) ∨ (t2 = 2 ∧ kd2 ≠ 0)) : t2 = t ∧ (t = 0 → v2 = v) ∧ vd_n M2 = vd_n M1 ∧ (∀ c, c < vd_n M1 → vd_k M2 c = vd_k M1 c ∧ vd_l M2 c = vd_l M1 c) ∧ (∀ c i, c < vd_n M1 → vd_r M2 c i = vd_r M1 c i ∧ f2 c i = f1 c i) := by
  have one : ∀ (A B : vd_M) (r r' : Option Value ⊕ Nat), (∀ d Q, vd_wp (d + mc) kc 0 ac [] (vd_mf M f) Q = Q A r) → (∀ d Q, vd_wp (d + mc) kc 0 ac [] (vd_mf M f) Q = Q B r') → B = A ∧ r' = r := fun A B r r' h1 h2 => by
    have q := (h1 0 (fun m x => m = A ∧ x = r)).symm.trans (h2 0 (fun m x => m = A ∧ x = r))
    exact q.mp ⟨rfl, rfl⟩
  have thr : ∀ k, vd_new (vd_mf M2 f2) k 0 6 = vd_new (vd_mf M1 f1) k 0 6 → vd_n M2 = vd_n M1 → (∀ c, c < vd_n M1 → vd_k M2 c = vd_k M1 c ∧ vd_l M2 c = vd_l M1 c) ∧ (∀ c i, c < vd_n M1 → vd_r M2 c i = vd_r M1 c i ∧ f2 c i = f1 c i) := fun k e en => by
    have n1 : ∀ c, c < vd_n M1 → ¬ (c = vd_n M1) := fun c h => by omega
    have n2 : ∀ c, c < vd_n M1 → ¬ (c = vd_n M2) := fun c h => by omega
    refine ⟨fun c hc => ⟨?_, ?_⟩, fun c i hc => ⟨?_, ?_⟩⟩
    · have y : vd_k (vd_new (vd_mf M2 f2) k 0 6) c = vd_k (vd_new (vd_mf M1 f1) k 0 6) c := by rw [e]
      rw [vd_k_new, vd_k_new, if_neg (show ¬ (c = vd_n (vd_mf M2 f2)) from n2 c hc), if_neg (show ¬ (c = vd_n (vd_mf M1 f1)) from n1 c hc)] at y
      exact y
    · have y : vd_l (vd_new (vd_mf M2 f2) k 0 6) c = vd_l (vd_new (vd_mf M1 f1) k 0 6) c := by rw [e]
      rw [vd_l_new, vd_l_new, if_neg (show ¬ (c = vd_n (vd_mf M2 f2)) from n2 c hc), if_neg (show ¬ (c = vd_n (vd_mf M1 f1)) from n1 c hc)] at y
      exact y
    · have y : vd_r (vd_new (vd_mf M2 f2) k 0 6) c i = vd_r (vd_new (vd_mf M1 f1) k 0 6) c i := by rw [e]
      rw [vd_r_new, vd_r_new, if_neg (show ¬ (c = vd_n (vd_mf M2 f2)) from n2 c hc), if_neg (show ¬ (c = vd_n (vd_mf M1 f1)) from n1 c hc)] at y
      exact y
    · have y : vd_i (vd_new (vd_mf M2 f2) k 0 6) c i = vd_i (vd_new (vd_mf M1 f1) k 0 6) c i := by rw [e]
      rw [vd_i_new, vd_i_new, if_neg (show ¬ (c = vd_n (vd_mf M2 f2)) from n2 c hc), if_neg (show ¬ (c = vd_n (vd_mf M1 f1)) from n1 c hc)] at y
      exact y
  rcases ht with rfl | ⟨rfl, k1⟩ | ⟨rfl, k2⟩
  · rcases ht2 with rfl | ⟨rfl, _⟩ | ⟨rfl, _⟩
    · obtain ⟨e, er⟩ := one _ _ _ _ (c0 rfl) (e0 rfl)
      have ev : v2 = v := by injection er with er; injection er with er; injection er
      refine ⟨rfl, fun _ => ev, (show vd_n (vd_mf M2 f2) = vd_n (vd_mf M1 f1) by rw [e]), fun c _ => ⟨(show vd_k (vd_mf M2 f2) c = vd_k (vd_mf M1 f1) c by rw [e]), (show vd_l (vd_mf M2 f2) c = vd_l (vd_mf M1 f1) c by rw [e])⟩, fun c i _ => ⟨(show vd_r (vd_mf M2 f2) c i = vd_r (vd_mf M1 f1) c i by rw [e]), (show vd_i (vd_mf M2 f2) c i = vd_i (vd_mf M1 f1) c i by rw [e])⟩⟩
    · obtain ⟨_, er⟩ := one _ _ _ _ (c0 rfl) (e1 rfl)
      cases er
    · obtain ⟨_, er⟩ := one _ _ _ _ (c0 rfl) (e2 rfl)
      cases er
  · rcases ht2 with rfl | ⟨rfl, _⟩ | ⟨rfl, k2⟩
    · obtain ⟨_, er⟩ := one _ _ _ _ (c1 rfl) (e0 rfl)
      cases er
    · obtain ⟨e, er⟩ := one _ _ _ _ (c1 rfl) (e1 rfl)
      have en : vd_n M2 = vd_n M1 := by injection er
      exact ⟨rfl, fun q => absurd q (by decide), en, thr _ e en⟩
    · obtain ⟨e, er⟩ := one _ _ _ _ (c1 rfl) (e2 rfl)
      have en : vd_n M2 = vd_n M1 := by injection er
      have y : vd_k (vd_new (vd_mf M2 f2) kd2 0 6) (vd_n M2) = vd_k (vd_new (vd_mf M1 f1) kd1 0 6) (vd_n M2) := by rw [e]
      rw [vd_k_new, vd_k_new, if_pos (show vd_n M2 = vd_n (vd_mf M2 f2) from rfl), if_pos (show vd_n M2 = vd_n (vd_mf M1 f1) from en)] at y
      rcases hkd with q | q
      · exact absurd q k2
      · exact absurd y.symm q
  · rcases ht2 with rfl | ⟨rfl, k1⟩ | ⟨rfl, _⟩
    · obtain ⟨_, er⟩ := one _ _ _ _ (c2 rfl) (e0 rfl)
      cases er
    · obtain ⟨e, er⟩ := one _ _ _ _ (c2 rfl) (e1 rfl)
      have en : vd_n M2 = vd_n M1 := by injection er
      have y : vd_k (vd_new (vd_mf M2 f2) kd1 0 6) (vd_n M2) = vd_k (vd_new (vd_mf M1 f1) kd2 0 6) (vd_n M2) := by rw [e]
      rw [vd_k_new, vd_k_new, if_pos (show vd_n M2 = vd_n (vd_mf M2 f2) from rfl), if_pos (show vd_n M2 = vd_n (vd_mf M1 f1) from en)] at y
      rcases hkd with q | q
      · exact absurd q k2
      · exact absurd y q
    · obtain ⟨e, er⟩ := one _ _ _ _ (c2 rfl) (e2 rfl)
      have en : vd_n M2 = vd_n M1 := by injection er
      exact ⟨rfl, fun q => absurd q (by decide), en, thr _ e en⟩
theorem vd_one {L : Nat} {xs : Nat → Int32} {Z : Nat → Nat → Nat → Nat} {c s : Nat} {M : vd_M} {f : Nat → Nat → Int32} (h : vd_LW L xs Z c s M f) {mc kc mr kr kd1 kd2 a b : Nat} {ac ar : List Value} (hkd : kd2 = 0 ∨ kd1 ≠ kd2) (P : ∀ (N : vd_M) (g : Nat → Nat → Int32) (ow fa lo lf : Nat), vd_API M N ow fa lo lf Z f g → vd_AP M N Z f g mc kc ac mr kr ar kd1 kd2 a b) : ∃ (M1 : vd_M) (f1 : Nat → Nat → Int32) (t : Int) (v : Int32), (t = 0 → ∀ d Q, vd_wp (d + mc) kc 0 ac [] (vd_mf M f) Q = Q (vd_mf M1 f1) (.inl (some (.int v)))) ∧ (t = 1 → ∀ d Q, vd_wp (d + mc) kc 0 ac [] (vd_mf M f) Q = Q (vd_new (vd_mf M1 f1) kd1 0 6) (.inr (vd_n M1))) ∧ (t = 2 → ∀ d Q, vd_wp (d + mc) kc 0 ac [] (vd_mf M f) Q = Q (vd_new (vd_mf M1 f1) kd2 0 6) (.inr (vd_n M1))) ∧ (t = 0 ∨ (t = 1 ∧ kd1 ≠ 0) ∨ (t = 2 ∧ kd2 ≠ 0)) ∧ (vd_k M1 196 = 35 ∧ vd_l M1 196 = 1 ∧ 197 ≤ vd_n M1 ∧ (∀ b, f1 9 b = f 9 b) ∧ vd_k M1 9 = 32 ∧ vd_l M1 9 = L) ∧ ∀ (N0 : vd_M) (g0 : Nat → Nat → Int32), vd_Hp M1 N0 f1 g0 → vd_SR N0 ∧ ∃ (N2 : vd_M) (g2 : Nat → Nat → Int32) (v' : Int32), (∀ d Q, vd_wp (d + mr) kr 0 ar [] (vd_mf N0 g0) Q = Q (vd_mf N2 g2) (.inl (some (.int v')))) ∧ g2 63 2 = vd_I t ∧ (t = 0 → v = v') ∧ vd_LW L xs Z (c + 1 + a) (s + 6 + b) N2 g2 ∧ vd_j N2 196 0 = vd_j N0 196 0 := by
  obtain ⟨⟨ow, fa, lo, lf, hA⟩, ⟨k9, l9, x9⟩, ⟨k196, l196⟩, hc, hs⟩ := h
  obtain ⟨M1, N1, ow1, fa1, lo1, lf1, f1, g1, t, v, w, c0, c1, c2, _, _, ht, _, _, le, _⟩ := P M f ow fa lo lf hA
  have nM := hA.1.1.2.2.2
  have nle := le.2.2.2.1.2
  refine ⟨M1, f1, t, v, c0, c1, c2, ht, ⟨by rw [(le.2.1 196 (by omega)).1, k196], by rw [(le.2.1 196 (by omega)).2, l196], by omega, fun b => le.1 9 b (by omega), by rw [(le.2.1 9 (by omega)).1, k9], by rw [(le.2.1 9 (by omega)).2, l9]⟩, fun N0 g0 hp => ?_⟩
  obtain ⟨hp1, hp2, hp3, hp4, hp5⟩ := hp
  have hA0 : vd_API M N0 ow fa lo lf Z f g0 := hA.kR (fun c q => ⟨by rw [(hp1 c (by omega)).1, (le.2.1 c (by omega)).1], by rw [(hp1 c (by omega)).2, (le.2.1 c (by omega)).2]⟩) (fun c i q => by rw [(hp2 c i (by omega)).1, le.2.2.1 c i (by omega)]) (by omega) (fun c i q => by rw [(hp2 c i (by omega)).2, le.1 c i (by omega)])
  refine ⟨hA0.1.1.2.1, ?_⟩
  obtain ⟨M2, N2, ow2, fa2, lo2, lf2, f2, g2, t2, v2, w2, c0', c1', c2', r', hv', ht', g22, hA2, _, lz2⟩ := P N0 g0 ow fa lo lf hA0
  obtain ⟨et, ev, an, ak, ar'⟩ := vd_det hkd c0 c1 c2 ht c0' c1' c2' ht'
  have n2 := lz2.2.2.2.1.2
  have hr2 : ∀ c i, c < 63 ∨ (197 ≤ c ∧ c < vd_n M2) → vd_r N2 c i = vd_r M2 c i := fun c i q => by rw [lz2.2.2.1 c i (by omega) (by omega), (hp2 c i (by omega)).1, (ar' c i (by omega)).1]
  have hB : vd_API N2 N2 ow2 fa2 lo2 lf2 Z g2 g2 := hA2.kC (fun c q => ⟨by rw [(lz2.2.1 c (by omega)).1, (hp1 c (by omega)).1, (ak c (by omega)).1], by rw [(lz2.2.1 c (by omega)).2, (hp1 c (by omega)).2, (ak c (by omega)).2]⟩) hr2 (by omega) (fun c i q => by rw [lz2.1 c i (by omega) (by omega), (hp2 c i (by omega)).2, (ar' c i (by omega)).2])
  have r12 : ∀ i, vd_r N2 12 i = vd_r M1 12 i := fun i => by rw [lz2.2.2.1 12 i (by omega) (by omega), (hp2 12 i (by omega)).1]
  have hnop : vd_nop N2 = vd_nop M1 := by
    unfold vd_nop
    simp only [r12]
  refine ⟨N2, g2, w2, r', by rw [g22, et], fun q => by rw [← ev q]; exact hv' (by rw [et]; exact q), ⟨⟨ow2, fa2, lo2, lf2, hB⟩, ⟨?_, ?_, fun b => ?_⟩, ⟨?_, ?_⟩, ?_, ?_⟩, lz2.2.2.2.1.1 196 0 (by omega)⟩
  · rw [(lz2.2.1 9 (by omega)).1, (hp1 9 (by omega)).1, (le.2.1 9 (by omega)).1, k9]
  · rw [(lz2.2.1 9 (by omega)).2, (hp1 9 (by omega)).2, (le.2.1 9 (by omega)).2, l9]
  · rw [lz2.1 9 b (by omega) (by omega), (hp2 9 b (by omega)).2, le.1 9 b (by omega), x9]
  · rw [(lz2.2.1 196 (by omega)).1, (hp1 196 (by omega)).1, (le.2.1 196 (by omega)).1, k196]
  · rw [(lz2.2.1 196 (by omega)).2, (hp1 196 (by omega)).2, (le.2.1 196 (by omega)).2, l196]
  · have q1 := le.2.2.2.2.1
    have q2 := lz2.2.2.2.2.1
    rw [hnop]
    omega
  · have q1 := le.2.2.2.2.2
    have q2 := lz2.2.2.2.2.2
    rw [hnop]
    omega
