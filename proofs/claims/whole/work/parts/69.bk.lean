/-! ===== in the midst of a block: all that class and reference have in common ===== -/
def vd_BK (ow fa W H nb : Nat) (O : Nat → Nat → Option Nat) (B : Nat → Nat → Int) (X : Nat → Nat → Int) (mp : Nat → Nat → Int) (x y w h n : Nat) (f g : Nat → Nat → Int32) : Prop :=
  vd_RD n f g ∧ vd_GA ow fa W H nb O B f ∧ vd_GB W H O B g ∧ (vd_CA X f ∧ vd_CB X g) ∧ ((∀ i j, i < W → j < H → f 42 (24 * j + i) = vd_I (mp i j)) ∧ (∀ i j, i < W → j < H → g 72 (W * j + i) = vd_I (mp i j))) ∧ (f 44 8 = vd_I (18 * (nb : Int)) ∧ f 44 9 = vd_I (vd_pl (vd_at W H O (x : Int) ((y : Int) - 1))) ∧ f 44 10 = vd_I (vd_pl (vd_at W H O ((x : Int) - 1) (y : Int)))) ∧ vd_bx f fa nb x y w h ∧ vd_by g x y w h ∧ (g 63 101 = vd_I (vd_nu (vd_at W H O (x : Int) ((y : Int) - 1)) (((y : Int) - 1) * (W : Int) + (x : Int))) ∧ g 63 102 = vd_I (vd_nu (vd_at W H O ((x : Int) - 1) (y : Int)) ((y : Int) * (W : Int) + (x : Int) - 1)))
/-- what does not change from block to block: ranges, and that the block lies in the grid -/
def vd_BC (W H nb : Nat) (X : Nat → Nat → Int) (mp : Nat → Nat → Int) (x y w h : Nat) : Prop := vd_XV X ∧ (∀ i j, 0 ≤ mp i j ∧ mp i j ≤ 7) ∧ (1 ≤ W ∧ W ≤ 24 ∧ 1 ≤ H ∧ H ≤ 24) ∧ nb < 576 ∧ (x < W ∧ y < H) ∧ ((w = 1 ∨ w = 2 ∨ w = 4 ∨ w = 8) ∧ (h = 1 ∨ h = 2 ∨ h = 4 ∨ h = 8))
theorem vd_RD.keep {n : Nat} {f f' g g' : Nat → Nat → Int32} (h : vd_RD n f g) (hf : ∀ c i, c = 11 ∨ (c = 34 ∧ 3 ≤ i) ∨ c = 35 ∨ c = 36 → f' c i = f c i) (hg : ∀ c i, c = 64 ∨ c = 80 ∨ c = 81 ∨ c = 82 ∨ (c = 63 ∧ (i = 46 ∨ (91 ≤ i ∧ i ≤ 94))) → g' c i = g c i) : vd_RD n f' g' := by
  obtain ⟨h1, h2, h3, h4⟩ := h
  refine ⟨fun i hi => ?_, h2.keepU (fun i hi => hf _ _ (by omega)) (fun i => hf _ _ (by omega)) (fun i q1 q2 => hg _ _ (by omega)), fun k hk => ?_, ⟨fun k hk => ?_, ?_⟩⟩
  · rw [hf _ _ (by omega), hg _ _ (by omega)]; exact h1 i hi
  · rw [hf _ _ (by omega), hg _ _ (by omega)]; exact h3 k hk
  · rw [hf _ _ (by omega), hf _ _ (by omega), hg _ _ (by omega), hg _ _ (by omega)]; exact h4.1 k hk
  · rw [hf _ _ (by omega), hg _ _ (by omega)]; exact h4.2
section VDBK
variable {ow fa W H nb : Nat} {O : Nat → Nat → Option Nat} {B : Nat → Nat → Int} {X : Nat → Nat → Int} {mp : Nat → Nat → Int} {x y w h n : Nat} {f f' g g' : Nat → Nat → Int32}
/-- the rest of it, where the bits' part is known -/
theorem vd_BK.keepR {n' : Nat} (k : vd_BK ow fa W H nb O B X mp x y w h n f g) (hr : vd_RD n' f' g') (hf : ∀ c i, c = ow ∨ (c = fa ∧ i < 18 * nb + 4) ∨ (c = 37 ∧ (i = 2 ∨ i = 3)) ∨ (17 ≤ c ∧ c ≤ 26) ∨ c = 42 ∨ (c = 44 ∧ 8 ≤ i) → f' c i = f c i) (hg : ∀ c i, (88 ≤ c ∧ c ≤ 104) ∨ (c = 63 ∧ (i = 26 ∨ i = 27)) ∨ vd_inB c i ∨ c = 72 ∨ (c = 63 ∧ 97 ≤ i ∧ i ≤ 102) → g' c i = g c i) : vd_BK ow fa W H nb O B X mp x y w h n' f' g' := by
  obtain ⟨k1, k2, k3, ⟨k4, k5⟩, ⟨k6, k7⟩, ⟨a1, a2, a3⟩, ⟨b1, b2, b3, b4⟩, ⟨c1, c2, c3, c4⟩, ⟨d1, d2⟩⟩ := k
  refine ⟨hr, k2.keep fun c i q => hf c i (by omega), k3.keep fun c i q => hg c i (by omega), ⟨k4.keep fun c i q1 q2 => hf c i (by omega), k5.keep fun c i q => hg c i (Or.inr (Or.inr (Or.inl q)))⟩, ⟨fun i j hi hj => ?_, fun i j hi hj => ?_⟩, ⟨?_, ?_, ?_⟩, ⟨?_, ?_, ?_, ?_⟩, ⟨?_, ?_, ?_, ?_⟩, ⟨?_, ?_⟩⟩
  · rw [hf _ _ (by omega)]; exact k6 i j hi hj
  · rw [hg _ _ (Or.inr (Or.inr (Or.inr (Or.inl rfl))))]; exact k7 i j hi hj
  · rw [hf _ _ (by omega)]; exact a1
  · rw [hf _ _ (by omega)]; exact a2
  · rw [hf _ _ (by omega)]; exact a3
  · rw [hf _ _ (by omega)]; exact b1
  · rw [hf _ _ (by omega)]; exact b2
  · rw [hf _ _ (by omega)]; exact b3
  · rw [hf _ _ (by omega)]; exact b4
  all_goals rw [hg _ _ (Or.inr (Or.inr (Or.inr (Or.inr (by decide)))))]; assumption
theorem vd_par_ne {M : vd_M} {lo lf : Nat} (hM : vd_SC M ow fa lo lf) : ow ≠ 34 ∧ ow ≠ 36 ∧ fa ≠ 34 ∧ fa ≠ 36 ∧ ow ≠ fa ∧ 38 ≤ ow ∧ ow ≤ 41 ∧ 38 ≤ fa ∧ fa ≤ 41 ∧ lo ≠ ow ∧ lo ≠ fa ∧ lf ≠ ow ∧ lf ≠ fa := by
  have := hM.par
  omega
/-- bits were read -/
theorem vd_BK.keepD {M : vd_M} {lo lf n' : Nat} (hM : vd_SC M ow fa lo lf) (k : vd_BK ow fa W H nb O B X mp x y w h n f g) (hr : vd_RD n' f' g') (hf : vd_fD f f') (hg : vd_gD g g') : vd_BK ow fa W H nb O B X mp x y w h n' f' g' := by
  have hp := vd_par_ne hM
  refine k.keepR hr (fun c i q => hf c i (by omega) (by omega)) (fun c i q => hg c i ?_ ?_ ?_)
  all_goals
    unfold vd_inB at q
    omega
/-- a fact of the block is put -/
theorem vd_BK.put {M : vd_M} {lo lf q : Nat} {v : Int32} (hM : vd_SC M ow fa lo lf) (k : vd_BK ow fa W H nb O B X mp x y w h n f g) (hq : 4 ≤ q) : vd_BK ow fa W H nb O B X mp x y w h n (vd_up f fa (18 * nb + q) v) g := by
  have hp := vd_par_ne hM
  refine k.keepR (k.1.keep (fun c i q => vd_up_ne (by omega)) (fun c i q => rfl)) (fun c i q => vd_up_ne (by omega)) (fun c i q => rfl)
/-- the reference notes something of the block in work -/
theorem vd_BK.note {c i : Nat} {v : Int32} (k : vd_BK ow fa W H nb O B X mp x y w h n f g) (hc : (c = 63 ∧ (i = 47 ∨ i = 69 ∨ i = 95 ∨ i = 96 ∨ 103 ≤ i)) ∨ (117 ≤ c ∧ c ≤ 121)) : vd_BK ow fa W H nb O B X mp x y w h n f (vd_up g c i v) := by
  refine k.keepR (k.1.keep (fun c i q => rfl) (fun c' i' q => vd_up_ne (by omega))) (fun c i q => rfl) (fun c' i' q => vd_up_ne ?_)
  unfold vd_inB at q
  omega
/-- the class notes something elsewhere -/
theorem vd_BK.noteC {M : vd_M} {lo lf c i : Nat} {v : Int32} (hM : vd_SC M ow fa lo lf) (k : vd_BK ow fa W H nb O B X mp x y w h n f g) (hc : 45 ≤ c) : vd_BK ow fa W H nb O B X mp x y w h n (vd_up f c i v) g := by
  have hp := vd_par_ne hM
  refine k.keepR (k.1.keep (fun c' i' q => vd_up_ne (by omega)) (fun c' i' q => rfl)) (fun c' i' q => vd_up_ne (by omega)) (fun c i q => rfl)
end VDBK
