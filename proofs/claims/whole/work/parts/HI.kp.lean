/-! ===== what holds between the frames is kept ===== -/
theorem vd_pic.keep {M N M' N' : vd_M} {f g f' g' : Nat → Nat → Int32} {h : Nat} (q : vd_pic M N f g h) (hM : vd_hol M' h = vd_hol M h) (hN : vd_hor N' h = vd_hor N h) (hf : ∀ p s, vd_hol M h = some p → vd_PC M p s → vd_PC M' p s ∧ ∀ c i, c = p ∨ c = s → f' c i = f c i) (hg : ∀ k, k < 11 → vd_hor N h = some (129 + 5 * k) → ∀ c i, (c = 129 + 5 * k ∧ i ≤ 1) ∨ (129 + 5 * k + 2 ≤ c ∧ c ≤ 129 + 5 * k + 4) → g' c i = g c i) : vd_pic M' N' f' g' h := by
  rcases q with ⟨a, b⟩ | ⟨p, s, k, w, hh, P, ⟨a1, a2⟩, ⟨b1, b2⟩, c, ⟨d1, d2⟩, ⟨e1, e2⟩, u, v, x⟩
  · exact Or.inl ⟨by rw [hM, a], by rw [hN, b]⟩
  · obtain ⟨y1, y2⟩ := hf p s a1 a2
    have z := hg k b1 b2
    exact Or.inr ⟨p, s, k, w, hh, P, ⟨by rw [hM, a1], y1⟩, ⟨b1, by rw [hN, b2]⟩, c, ⟨by rw [y2 p 0 (Or.inl rfl), d1], by rw [y2 p 1 (Or.inl rfl), d2]⟩, ⟨by rw [z _ _ (by omega), e1], by rw [z _ _ (by omega), e2]⟩, u.keep (fun i => y2 s i (Or.inr rfl)), v.keep (fun c i x y => z c i (by omega)), x⟩
theorem vd_pic.sdm {M N : vd_M} {f g : Nat → Nat → Int32} {r : Nat} (hN : vd_SR N) (q : vd_pic M N f g r) (hr : r < 8) : vd_sdm M N f g r := by
  have e1 : vd_hol M r = vd_r M 13 r := if_pos hr
  have e2 : vd_hor N r = vd_r N 66 r := if_pos hr
  unfold vd_pic at q
  rw [e1, e2] at q
  rcases q with a | ⟨p, s, k, w, hh, P, ⟨a1, a2⟩, ⟨b1, b2⟩, c, d, e, _⟩
  · exact Or.inl a
  · exact Or.inr ⟨p, 129 + 5 * k, w, hh, a1, b2, ⟨a2.1.1, a2.2.2.1⟩, ⟨(vd_PD_of hN b1).1.1, by omega⟩, c, d, e⟩
theorem vd_sett.keep {f g f' g' : Nat → Nat → Int32} (h : vd_sett f g) (hf : ∀ c i, 20 ≤ c → c ≤ 26 → f' c i = f c i) (hg : ∀ c i, (73 ≤ c ∧ c ≤ 75) ∨ (c = 63 ∧ i = 13) → g' c i = g c i) : vd_sett f' g' := by
  obtain ⟨a, b, ab, c, d, e⟩ := h
  refine ⟨fun i hi => ?_, fun k hk => ?_, ab, c, by rw [hf _ _ (by omega) (by omega), d], by rw [hg _ _ (by omega), e]⟩
  · rw [hf _ _ (by omega) (by omega), hg _ _ (by omega)]
    exact a i hi
  · rw [hf 25 _ (by omega) (by omega), hg 74 _ (by omega), hf 26 _ (by omega) (by omega), hg 75 _ (by omega)]
    exact b k hk
theorem vd_sti.keep {M M' : vd_M} {f g f' g' : Nat → Nat → Int32} (h : vd_sti M f g) (hr : ∀ i, i < 8 → vd_r M' 13 i = vd_r M 13 i) (hf : ∀ c i, 20 ≤ c → c ≤ 26 → f' c i = f c i) (hg : ∀ c i, (73 ≤ c ∧ c ≤ 75) ∨ (c = 63 ∧ i = 13) → g' c i = g c i) : vd_sti M' f' g' := by
  obtain ⟨a, b, ab, c, d, e⟩ := h
  refine ⟨?_, fun k hk => ?_, ab, c, by rw [hf _ _ (by omega) (by omega), d], by rw [hg _ _ (by omega), e]⟩
  · rcases a with a | a
    · refine Or.inl (fun i hi => ?_)
      rw [hf _ _ (by omega) (by omega), hg _ _ (by omega)]
      exact a i hi
    · exact Or.inr (fun h hh => by rw [hr h hh]; exact a h hh)
  · rw [hf 25 _ (by omega) (by omega), hg 74 _ (by omega), hf 26 _ (by omega) (by omega), hg 75 _ (by omega)]
    exact b k hk
theorem vd_rf_no {M N : vd_M} {f g : Nat → Nat → Int32} {j : Nat} {w h : Int} (y : ∀ x, x < 8 → vd_r M 13 x = none) : ¬ vd_rf M N f g j w h := by
  rintro ⟨sl, p, q, sd, ⟨h1, _⟩, ⟨h2, _⟩, _⟩
  rw [y sl h1] at h2
  cases h2
theorem vd_bol.keep {f f' : Nat → Nat → Int32} (h : vd_bol f) (hf : ∀ i, f' 20 i = f 20 i) : vd_bol f' := by
  unfold vd_bol at *
  rw [hf, hf, hf, hf]
  exact h
theorem vd_gri.keep {ow fa : Nat} {f g f' g' : Nat → Nat → Int32} {lm : Int} (h : vd_gri ow fa f g) (hf : ∀ c i, (c = 37 ∧ i ≤ 3) ∨ c = 42 ∨ c = ow ∨ c = fa → f' c i = f c i) (hg : ∀ c i, (c = 63 ∧ (i = 14 ∨ i = 15 ∨ i = 26 ∨ i = 27 ∨ i = 70 ∨ i = 71)) ∨ c = 72 ∨ (76 ≤ c ∧ c ≤ 78) ∨ (88 ≤ c ∧ c ≤ 104) → g' c i = g c i) (l1 : f' 37 5 = vd_I lm) (l2 : g' 63 16 = vd_I lm) (l3 : lm = 0 ∨ lm = 1) : vd_gri ow fa f' g' := by
  obtain ⟨w, hh, lm0, ⟨a1, a2, _⟩, ⟨b1, b2, _⟩, _, c⟩ := h
  refine ⟨w, hh, lm, ⟨by rw [hf _ _ (by omega), a1], by rw [hf _ _ (by omega), a2], l1⟩, ⟨by rw [hg _ _ (by omega), b1], by rw [hg _ _ (by omega), b2], l2⟩, l3, ?_⟩
  rcases c with ⟨c1, c2, ⟨c3, c4⟩, c5, c6⟩ | ⟨W, H, nb, O, B, mp, d1, d2, ⟨d3, d4⟩, ⟨d5, d6⟩, d7, d8, d9, d10⟩
  · exact Or.inl ⟨c1, c2, ⟨by rw [hf _ _ (by omega), c3], by rw [hf _ _ (by omega), c4]⟩, by rw [hg _ _ (by omega), c5], by rw [hg _ _ (by omega), c6]⟩
  · refine Or.inr ⟨W, H, nb, O, B, mp, d1, d2, ⟨d3.keep (fun c i q => hf c i (by omega)), d4.keep (fun c i q => hg c i (by omega))⟩, ⟨by rw [hg _ _ (by omega), d5], by rw [hg _ _ (by omega), d6]⟩, d7, d8, fun i j hi hj => ?_, fun i j k hi hj ho => ?_⟩
    · rw [hf _ _ (by omega), hg _ _ (by omega)]
      exact d9 i j hi hj
    · have q := d10 i j k hi hj ho
      unfold vd_og at *
      rw [hg _ _ (by omega), hg _ _ (by omega), hg _ _ (by omega), hg _ _ (by omega), hg _ _ (by omega), hg _ _ (by omega)]
      exact q
theorem vd_gri.keep' {ow fa : Nat} {f g f' g' : Nat → Nat → Int32} (h : vd_gri ow fa f g) (hf : ∀ c i, (c = 37 ∧ i ≤ 5) ∨ c = 42 ∨ c = ow ∨ c = fa → f' c i = f c i) (hg : ∀ c i, (c = 63 ∧ ((14 ≤ i ∧ i ≤ 16) ∨ i = 26 ∨ i = 27 ∨ i = 70 ∨ i = 71)) ∨ c = 72 ∨ (76 ≤ c ∧ c ≤ 78) ∨ (88 ≤ c ∧ c ≤ 104) → g' c i = g c i) : vd_gri ow fa f' g' := by
  have h0 := h
  obtain ⟨w, hh, lm, ⟨_, _, a3⟩, ⟨_, _, b3⟩, l3, _⟩ := h0
  exact h.keep (fun c i q => hf c i (by omega)) (fun c i q => hg c i (by omega)) (by rw [hf _ _ (by omega)]; exact a3) (by rw [hg _ _ (by omega)]; exact b3) l3
theorem vd_tbz.keep {Z : Nat → Nat → Nat → Nat} {f g f' g' : Nat → Nat → Int32} (h : vd_tbz Z f g) (hf : ∀ c i, c < 10 ∨ c = 46 ∨ c = 47 ∨ c = 57 → f' c i = f c i) (hg : ∀ c i, c < 10 ∨ (184 ≤ c ∧ c ≤ 195) → g' c i = g c i) : vd_tbz Z f' g' := by
  obtain ⟨⟨⟨a1, a2⟩, ⟨a3, a4⟩, a5⟩, b, ⟨⟨c1, c2⟩, c3⟩, d⟩ := h
  refine ⟨⟨⟨fun j hj => ?_, fun j hj => ?_⟩, ⟨fun j hj => ?_, fun k p hk hp => ?_⟩, fun k t i hk ht hi => ?_⟩, fun o s i ho hs h2 hi => ⟨?_, ?_⟩, ⟨⟨fun j hj => ?_, fun j hj => ?_⟩, fun n hn => ?_⟩, d⟩
  · rw [hf _ _ (by omega)]; exact a1 j hj
  · rw [hf _ _ (by omega)]; exact a2 j hj
  · rw [hf _ _ (by omega)]; exact a3 j hj
  · rw [hf _ _ (by omega)]; exact a4 k p hk hp
  · rw [hf _ _ (by omega)]; exact a5 k t i hk ht hi
  · rw [hf _ _ (by omega)]; exact (b o s i ho hs h2 hi).1
  · rw [hg _ _ (by omega)]; exact (b o s i ho hs h2 hi).2
  · rw [hg _ _ (by omega)]; exact c1 j hj
  · rw [hg _ _ (by omega)]; exact c2 j hj
  · rw [hg _ _ (by omega)]; exact c3 n hn
/-- the pool is kept where the holders change -/
theorem vd_PL.hol {M M' : vd_M} (h : vd_PL M) (hn : vd_n M ≤ vd_n M') (hk : ∀ c, 197 ≤ c → c < vd_n M → vd_k M' c = vd_k M c) (hl : ∀ c, 197 ≤ c → c < vd_n M → vd_l M' c = vd_l M c) (hr : ∀ c i, c = 12 ∨ (197 ≤ c ∧ c < vd_n M) → vd_r M' c i = vd_r M c i) (hh : ∀ x k, x < 9 → vd_hol M' x = some k → ∃ i, i < 10 ∧ vd_r M 12 i = some k) : vd_PL M' := by
  obtain ⟨a, b, c, d⟩ := h
  have up : ∀ p s, p < vd_n M → s < vd_n M → vd_PC M p s → vd_PC M' p s := fun p s hp hs q => by
    obtain ⟨⟨q1, q2⟩, ⟨q3, q4⟩, q5⟩ := q
    exact ⟨⟨by rw [hk p q5.1 hp, q1], by rw [hr p 2 (Or.inr ⟨q5.1, hp⟩), q2]⟩, ⟨by rw [hk s q5.2.1 hs, q3], by rw [hl s q5.2.1 hs, q4]⟩, q5⟩
  refine ⟨fun i hi => ?_, fun i j p p' s s' hi hj hij e1 e2 q1 q2 => ?_, fun x k hx e => ?_, by omega⟩
  · rw [hr 12 i (Or.inl rfl)]
    rcases a i hi with e | ⟨p, s, e, q, hp, hs⟩
    · exact Or.inl e
    · exact Or.inr ⟨p, s, e, up p s hp hs q, by omega, by omega⟩
  · rw [hr 12 _ (Or.inl rfl)] at e1 e2
    rcases a i hi with e | ⟨p0, s0, e, q, hp, hs⟩
    · rw [e] at e1; cases e1
    rw [e] at e1
    cases e1
    rcases a j hj with e' | ⟨p0', s0', e', q', hp', hs'⟩
    · rw [e'] at e2; cases e2
    rw [e'] at e2
    cases e2
    rw [← (up _ _ hp hs q).inj q1, ← (up _ _ hp' hs' q').inj q2]
    exact b i j p p' s0 s0' hi hj hij e e' q q'
  · obtain ⟨i, hi, e'⟩ := hh x k hx e
    exact ⟨i, hi, by rw [hr 12 i (Or.inl rfl)]; exact e'⟩
/-- a held picture lies in the pool -/
theorem vd_PL.of {M : vd_M} (h : vd_PL M) {x p s : Nat} (hx : x < 9) (e : vd_hol M x = some p) (q : vd_PC M p s) : p < vd_n M ∧ s < vd_n M := by
  obtain ⟨i, hi, e'⟩ := h.2.2.1 x p hx e
  rcases h.1 i hi with e2 | ⟨p', s', e2, q', hp, hs⟩
  · rw [e'] at e2; cases e2
  · rw [e'] at e2
    cases e2
    rw [q.inj q']
    exact ⟨hp, hs⟩
/-- how many pictures are still to be made -/
def vd_nop (M : vd_M) : Nat := (if vd_r M 12 0 = none then 1 else 0) + (if vd_r M 12 1 = none then 1 else 0) + (if vd_r M 12 2 = none then 1 else 0) + (if vd_r M 12 3 = none then 1 else 0) + (if vd_r M 12 4 = none then 1 else 0) + (if vd_r M 12 5 = none then 1 else 0) + (if vd_r M 12 6 = none then 1 else 0) + (if vd_r M 12 7 = none then 1 else 0) + (if vd_r M 12 8 = none then 1 else 0) + (if vd_r M 12 9 = none then 1 else 0)
theorem vd_nop_eq {M M' : vd_M} (h : ∀ i, vd_r M' 12 i = vd_r M 12 i) : vd_nop M' = vd_nop M := by
  unfold vd_nop
  simp only [h]
theorem vd_nop_pnew {M : vd_M} (hn : 197 ≤ vd_n M) {i : Nat} (hi : i < 10) (e : vd_r M 12 i = none) : vd_nop M = vd_nop (vd_pnew M i) + 1 := by
  have f1 := vd_pnew_12 M i
  have f2 : ∀ j, j ≠ i → vd_r (vd_pnew M i) 12 j = vd_r M 12 j := fun j q => vd_pnew_r (by omega) (by omega)
  have : i = 0 ∨ i = 1 ∨ i = 2 ∨ i = 3 ∨ i = 4 ∨ i = 5 ∨ i = 6 ∨ i = 7 ∨ i = 8 ∨ i = 9 := by omega
  unfold vd_nop
  rcases this with rfl | rfl | rfl | rfl | rfl | rfl | rfl | rfl | rfl | rfl <;> simp (disch := decide) only [f2, f1, e, reduceCtorEq, if_true, if_false] <;> omega
/-- what the class leaves -/
def vd_Lc (M M' : vd_M) (f f' : Nat → Nat → Int32) : Prop := (∀ c i, (c < 10 ∨ c = 11 ∨ c = 15 ∨ (c = 10 ∧ i ≤ 3) ∨ (63 ≤ c ∧ c ≤ 196)) → f' c i = f c i) ∧ (∀ c, c < 197 → vd_k M' c = vd_k M c ∧ vd_l M' c = vd_l M c) ∧ (∀ c i, (c < 10 ∨ (63 ≤ c ∧ c ≤ 196)) → vd_r M' c i = vd_r M c i) ∧ ((∀ c i, c < vd_n M → vd_j M' c i = vd_j M c i) ∧ vd_n M ≤ vd_n M') ∧ (vd_c M' + 2 * vd_nop M' = vd_c M + 2 * vd_nop M ∧ vd_s M' + (55296 * vd_nop M' + 3 * vd_nop M') = vd_s M + (55296 * vd_nop M + 3 * vd_nop M))
theorem vd_Lc.trans {M M' M'' : vd_M} {f f' f'' : Nat → Nat → Int32} (h : vd_Lc M M' f f') (h' : vd_Lc M' M'' f' f'') : vd_Lc M M'' f f'' :=
  ⟨fun c i q => (h'.1 c i q).trans (h.1 c i q), fun c q => ⟨(h'.2.1 c q).1.trans (h.2.1 c q).1, (h'.2.1 c q).2.trans (h.2.1 c q).2⟩, fun c i q => (h'.2.2.1 c i q).trans (h.2.2.1 c i q), ⟨fun c i q => (h'.2.2.2.1.1 c i (Nat.lt_of_lt_of_le q h.2.2.2.1.2)).trans (h.2.2.2.1.1 c i q), Nat.le_trans h.2.2.2.1.2 h'.2.2.2.1.2⟩, h'.2.2.2.2.1.trans h.2.2.2.2.1, h'.2.2.2.2.2.trans h.2.2.2.2.2⟩
theorem vd_Lc.ints {M : vd_M} {f f' : Nat → Nat → Int32} (h : ∀ c i, (c < 10 ∨ c = 11 ∨ c = 15 ∨ (c = 10 ∧ i ≤ 3) ∨ (63 ≤ c ∧ c ≤ 196)) → f' c i = f c i) : vd_Lc M M f f' := ⟨h, fun _ _ => ⟨rfl, rfl⟩, fun _ _ _ => rfl, ⟨fun _ _ _ => rfl, Nat.le_refl _⟩, rfl, rfl⟩
theorem vd_Lc.ms {M M' : vd_M} {f f' : Nat → Nat → Int32} (h : ∀ c i, (c < 10 ∨ c = 11 ∨ c = 15 ∨ (c = 10 ∧ i ≤ 3) ∨ (63 ≤ c ∧ c ≤ 196)) → f' c i = f c i) (m : vd_Ms M M') (hr : ∀ c i, (c < 10 ∨ c = 12 ∨ (63 ≤ c ∧ c ≤ 196)) → vd_r M' c i = vd_r M c i) : vd_Lc M M' f f' :=
  ⟨h, fun c _ => ⟨m.k c, m.l c⟩, fun c i q => hr c i (by omega), ⟨fun c i _ => by unfold vd_j; rw [m.2.2.2], Nat.le_of_eq m.n.symm⟩, by rw [m.c, vd_nop_eq (fun i => hr 12 i (by omega))], by rw [m.s, vd_nop_eq (fun i => hr 12 i (by omega))]⟩
/-- what the reference leaves; a cells and b slots may be new -/
def vd_Lr (N N' : vd_M) (g g' : Nat → Nat → Int32) (a b : Nat) : Prop := (∀ c i, c < vd_n N → (c < 63 ∨ c = 64 ∨ (c = 63 ∧ (1 ≤ i ∧ i ≤ 4)) ∨ 196 ≤ c) → g' c i = g c i) ∧ (∀ c, c < vd_n N → vd_k N' c = vd_k N c ∧ vd_l N' c = vd_l N c) ∧ (∀ c i, c < vd_n N → (c < 63 ∨ 196 ≤ c) → vd_r N' c i = vd_r N c i) ∧ ((∀ c i, c < vd_n N → vd_j N' c i = vd_j N c i) ∧ vd_n N ≤ vd_n N') ∧ (vd_c N' ≤ vd_c N + a ∧ vd_s N' ≤ vd_s N + b)
theorem vd_Lr.trans {N N' N'' : vd_M} {g g' g'' : Nat → Nat → Int32} {a b a' b' : Nat} (h : vd_Lr N N' g g' a b) (h' : vd_Lr N' N'' g' g'' a' b') : vd_Lr N N'' g g'' (a + a') (b + b') :=
  ⟨fun c i q1 q2 => (h'.1 c i (Nat.lt_of_lt_of_le q1 h.2.2.2.1.2) q2).trans (h.1 c i q1 q2), fun c q => ⟨((h'.2.1 c (Nat.lt_of_lt_of_le q h.2.2.2.1.2)).1).trans (h.2.1 c q).1, ((h'.2.1 c (Nat.lt_of_lt_of_le q h.2.2.2.1.2)).2).trans (h.2.1 c q).2⟩, fun c i q1 q2 => (h'.2.2.1 c i (Nat.lt_of_lt_of_le q1 h.2.2.2.1.2) q2).trans (h.2.2.1 c i q1 q2), ⟨fun c i q => (h'.2.2.2.1.1 c i (Nat.lt_of_lt_of_le q h.2.2.2.1.2)).trans (h.2.2.2.1.1 c i q), Nat.le_trans h.2.2.2.1.2 h'.2.2.2.1.2⟩, by have := h.2.2.2.2; have := h'.2.2.2.2; omega⟩
theorem vd_Lr.mono {N N' : vd_M} {g g' : Nat → Nat → Int32} {a b a' b' : Nat} (h : vd_Lr N N' g g' a b) (ha : a ≤ a') (hb : b ≤ b') : vd_Lr N N' g g' a' b' := ⟨h.1, h.2.1, h.2.2.1, h.2.2.2.1, by have := h.2.2.2.2; omega⟩
theorem vd_Lr.ms {N N' : vd_M} {g g' : Nat → Nat → Int32} (h : ∀ c i, (c < 63 ∨ c = 64 ∨ (c = 63 ∧ (1 ≤ i ∧ i ≤ 4)) ∨ 196 ≤ c) → g' c i = g c i) (m : vd_Ms N N') (hr : ∀ c i, (c < 63 ∨ 196 ≤ c) → vd_r N' c i = vd_r N c i) : vd_Lr N N' g g' 0 0 :=
  ⟨fun c i _ q => h c i q, fun c _ => ⟨m.k c, m.l c⟩, fun c i _ q => hr c i q, ⟨fun c i _ => by unfold vd_j; rw [m.2.2.2], Nat.le_of_eq m.n.symm⟩, by rw [m.c, m.s]; exact ⟨Nat.le_refl _, Nat.le_refl _⟩⟩
theorem vd_N3.ms {N N' : vd_M} (h : vd_N3 N N') : vd_Ms N N' := ⟨h.1.1, h.1.2.1, h.1.2.2.1, h.1.2.2.2.2⟩
/-- headers keep what holds between frames -/
theorem vd_INV.hdr {M N N' : vd_M} {ow fa lo lf : Nat} {Z : Nat → Nat → Nat → Nat} {f g f' g' : Nat → Nat → Int32} (h : vd_INV M N ow fa lo lf Z f g) (hn : vd_N3 N N') (hf : ∀ c i, c ≠ 16 → c ≠ 17 → c ≠ 18 → c ≠ 19 → ¬ (27 ≤ c ∧ c ≤ 33) → f' c i = f c i) (hj : vd_J18 3 f') (hg : ∀ c i, ¬ vd_inH c i → ¬ (c = 63 ∧ 74 ≤ i ∧ i ≤ 76) → g' c i = g c i) : vd_INV M N' ow fa lo lf Z f' g' := by
  obtain ⟨⟨hM, hN, hP, hn1⟩, ⟨hT, hC, hJ⟩, ⟨hp, hd⟩, ⟨hs, hb⟩, hG, ⟨⟨c1, c2, c3⟩, ⟨c4, c5, c6, c7⟩⟩, hZ⟩ := h
  have par := hM.par
  have hor : ∀ x, x < 9 → vd_hor N' x = vd_hor N x := fun x _ => by
    unfold vd_hor
    rw [hn.2 66 x (by decide), hn.2 63 7 (by decide)]
  have gg : ∀ c i, c ≠ 63 → ¬ (84 ≤ c ∧ c ≤ 87) → ¬ (113 ≤ c ∧ c ≤ 116) → g' c i = g c i := fun c i a b d => hg c i (by unfold vd_inH; omega) (by omega)
  have g63 : ∀ i, i < 24 ∨ (26 ≤ i ∧ i ≤ 32) ∨ i = 39 ∨ (44 ≤ i ∧ i ≤ 47) ∨ (49 ≤ i ∧ i ≤ 73) ∨ 87 ≤ i → g' 63 i = g 63 i := fun i q => hg 63 i (by unfold vd_inH; omega) (by omega)
  refine ⟨⟨hM, hN.n3 hn, hP, by rw [show vd_n N' = vd_n N from hn.ms.n]; exact hn1⟩, ⟨fun i hi => ?_, hC.keep (fun i => hf _ _ (by omega) (by omega) (by omega) (by omega) (by omega)) (fun c i a b => gg c i (by omega) (by omega) (by omega)), hj⟩, ⟨fun x hx => ?_, hd.keep hor (fun k hk => gg _ _ (by omega) (by omega) (by omega))⟩, ⟨hs.keep (fun _ _ => rfl) (fun c i a b => hf c i (by omega) (by omega) (by omega) (by omega) (by omega)) (fun c i q => ?_), hb.keep (fun i => hf _ _ (by omega) (by omega) (by omega) (by omega) (by omega))⟩, hG.keep' (fun c i q => hf c i (by omega) (by omega) (by omega) (by omega) (by omega)) (fun c i q => ?_), ⟨⟨?_, ?_, ?_⟩, ⟨?_, ?_, ?_, ?_⟩⟩, hZ.keep (fun c i q => hf c i (by omega) (by omega) (by omega) (by omega) (by omega)) (fun c i q => gg c i (by omega) (by omega) (by omega))⟩
  · rw [hf _ _ (by omega) (by omega) (by omega) (by omega) (by omega), gg _ _ (by omega) (by omega) (by omega)]
    exact hT i hi
  · refine (hp x hx).keep rfl (hor x hx) (fun p s e q => ⟨q, fun c i e' => ?_⟩) (fun k hk e c i q => gg c i (by omega) (by omega) (by omega))
    have := q.2.2
    exact hf c i (by omega) (by omega) (by omega) (by omega) (by omega)
  · rcases q with q | ⟨rfl, rfl⟩
    · exact gg c i (by omega) (by omega) (by omega)
    · exact g63 13 (by omega)
  · by_cases c63 : c = 63
    · subst c63
      exact g63 i (by omega)
    · exact gg c i c63 (by omega) (by omega)
  all_goals rw [hf _ _ (by omega) (by omega) (by omega) (by omega) (by omega)]
  · rw [g63 20 (by omega)]; exact c1
  · rw [g63 21 (by omega)]; exact c2
  · rw [gg 79 4 (by omega) (by omega) (by omega)]; exact c3
  · rw [gg 79 0 (by omega) (by omega) (by omega)]; exact c4
  · rw [gg 79 1 (by omega) (by omega) (by omega)]; exact c5
  · rw [gg 79 2 (by omega) (by omega) (by omega)]; exact c6
  · rw [gg 79 3 (by omega) (by omega) (by omega)]; exact c7
