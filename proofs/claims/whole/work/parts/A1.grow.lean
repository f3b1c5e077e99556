/-! ===== the grid grows by a block ===== -/
def vd_Og (O : Nat → Nat → Option Nat) (nb x x1 y y1 : Nat) : Nat → Nat → Option Nat := fun i j => if x ≤ i ∧ i < x1 ∧ y ≤ j ∧ j < y1 then some nb else O i j
def vd_Bg (B : Nat → Nat → Int) (nb : Nat) (b : Nat → Int) : Nat → Nat → Int := fun k => if k = nb then b else B k
theorem vd_Bg_n {B : Nat → Nat → Int} {nb : Nat} {b : Nat → Int} : vd_Bg B nb b nb = b := if_pos rfl
theorem vd_Bg_o {B : Nat → Nat → Int} {nb k : Nat} {b : Nat → Int} (h : k ≠ nb) : vd_Bg B nb b k = B k := if_neg h
section VDGR
variable {M N : vd_M} {ow fa lo lf W H nb x x1 y y1 : Nat} {O : Nat → Nat → Option Nat} {B : Nat → Nat → Int} {b : Nat → Int} {f g g' : Nat → Nat → Int32}
theorem vd_GA.grow (hM : vd_SC M ow fa lo lf) (k : vd_GA ow fa W H nb O B f) (hn : nb < 576) (hx1 : x1 ≤ W) (hy1 : y ≤ y1) (hb : ∀ q, q < 18 → f fa (18 * nb + q) = vd_I (b q)) (hV : vd_BV b) : vd_GA ow fa W H (nb + 1) (vd_Og O nb x x1 y y1) (vd_Bg B nb b) (vd_ur 24 f ow x x1 y (vd_I (18 * (nb : Int))) (y1 - y)) := by
  obtain ⟨⟨k1, k2⟩, ⟨k3, k4, k5, k6, k7⟩, k8, k9, k10, k11⟩ := k
  have hp := vd_par4 hM
  have ne : ∀ c i, c ≠ ow → vd_ur 24 f ow x x1 y (vd_I (18 * (nb : Int))) (y1 - y) c i = f c i := fun c i q => vd_ur_ne q _ i
  refine ⟨⟨?_, ?_⟩, ⟨k3, k4, k5, k6, by omega⟩, fun i j hi hj => ?_, fun i j kk hO => ?_, fun kk q hk hq => ?_, fun kk hk => ?_⟩
  · rw [ne _ _ (by omega)]; exact k1
  · rw [ne _ _ (by omega)]; exact k2
  · rw [vd_ur_at (by omega) _ i j (by omega)]
    unfold vd_Og
    by_cases c : x ≤ i ∧ i < x1 ∧ y ≤ j ∧ j < y1
    · rw [if_pos (by omega), if_pos c]
      rfl
    · rw [if_neg (by omega), if_neg c]
      exact k8 i j hi hj
  · unfold vd_Og at hO
    split at hO
    · have : nb = kk := Option.some.inj hO
      omega
    · have := k9 i j kk hO
      omega
  · rw [ne _ _ (by omega)]
    by_cases c : kk = nb
    · subst c
      rw [vd_Bg_n]
      exact hb q hq
    · rw [vd_Bg_o c]
      exact k10 kk q (by omega) hq
  · by_cases c : kk = nb
    · subst c
      rw [vd_Bg_n]
      exact hV
    · rw [vd_Bg_o c]
      exact k11 kk (by omega)
theorem vd_GB.grow (k : vd_GB W H O B g) (hk : ∀ i j kk, O i j = some kk → kk < nb) (hx1 : x1 ≤ W) (hn : ∀ i' j', x ≤ i' → i' < x1 → y ≤ j' → j' < y1 → vd_nd b g' (W * j' + i')) (hK : ∀ c q, (∀ i' j', x ≤ i' → i' < x1 → y ≤ j' → j' < y1 → ¬ vd_nk c q (W * j' + i')) → g' c q = g c q) : vd_GB W H (vd_Og O nb x x1 y y1) (vd_Bg B nb b) g' := by
  obtain ⟨⟨k1, k2⟩, k3, k4⟩ := k
  have ke : ∀ i j, i < W → ¬ (x ≤ i ∧ i < x1 ∧ y ≤ j ∧ j < y1) → ∀ c q, vd_nk c q (W * j + i) → g' c q = g c q := fun i j hi hr c q h => hK c q fun i' j' a1 a2 a3 a4 => vd_nk_ne hi (by omega) (by omega) h
  refine ⟨⟨?_, ?_⟩, fun i j hi hj => ?_, fun i j kk hi hj hO => ?_⟩
  · rw [hK _ _ fun i' j' _ _ _ _ => by unfold vd_nk; omega]; exact k1
  · rw [hK _ _ fun i' j' _ _ _ _ => by unfold vd_nk; omega]; exact k2
  · unfold vd_Og
    by_cases c : x ≤ i ∧ i < x1 ∧ y ≤ j ∧ j < y1
    · rw [if_pos c]
      exact (hn i j c.1 c.2.1 c.2.2.1 c.2.2.2).1
    · rw [if_neg c, ke i j hi c 88 _ (by unfold vd_nk; omega)]
      exact k3 i j hi hj
  · unfold vd_Og at hO
    by_cases c : x ≤ i ∧ i < x1 ∧ y ≤ j ∧ j < y1
    · rw [if_pos c] at hO
      have : nb = kk := Option.some.inj hO
      subst this
      rw [vd_Bg_n]
      exact (hn i j c.1 c.2.1 c.2.2.1 c.2.2.2).2
    · rw [if_neg c] at hO
      have := hk i j kk hO
      rw [vd_Bg_o (by omega)]
      have z1 := k3 i j hi hj
      rw [hO] at z1
      have nd : vd_nd (B kk) g (W * j + i) := ⟨z1, k4 i j kk hi hj hO⟩
      exact (nd.keep (ke i j hi c)).2
end VDGR
