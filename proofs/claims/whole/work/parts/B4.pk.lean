/-! ===== the picture in work: one abstract picture, one abstract table of marks ===== -/
def vd_fo (pl : Nat) : Nat := if pl = 0 then 48 else 24
def vd_rect (P : Nat → Nat → Nat → Int) (pl x0 y0 w h : Nat) (V : Nat → Nat → Int) : Nat → Nat → Nat → Int := fun c x y => if c = pl ∧ x0 ≤ x ∧ x < x0 + w ∧ y0 ≤ y ∧ y < y0 + h then V x y else P c x y
theorem vd_rect_in {P : Nat → Nat → Nat → Int} {pl x0 y0 w h : Nat} {V : Nat → Nat → Int} {x y : Nat} (h1 : x0 ≤ x) (h2 : x < x0 + w) (h3 : y0 ≤ y) (h4 : y < y0 + h) : vd_rect P pl x0 y0 w h V pl x y = V x y := by
  unfold vd_rect
  rw [if_pos ⟨rfl, h1, h2, h3, h4⟩]
theorem vd_rect_out {P : Nat → Nat → Nat → Int} {pl x0 y0 w h c : Nat} {V : Nat → Nat → Int} {x y : Nat} (hh : ¬ (c = pl ∧ x0 ≤ x ∧ x < x0 + w ∧ y0 ≤ y ∧ y < y0 + h)) : vd_rect P pl x0 y0 w h V c x y = P c x y := by
  unfold vd_rect
  rw [if_neg hh]
/-- samples: the class's, the reference's -/
def vd_PSC (s : Nat) (pw ph : Int) (P : Nat → Nat → Nat → Int) (f : Nat → Nat → Int32) : Prop := ∀ pl x y, pl < 3 → x < vd_ws pl pw → y < vd_ws pl ph → f s (vd_ax pl x y) = vd_I (P pl x y)
def vd_PSR (q : Nat) (pw ph : Int) (P : Nat → Nat → Nat → Int) (g : Nat → Nat → Int32) : Prop := ∀ pl x y, pl < 3 → x < vd_ws pl pw → y < vd_ws pl ph → g (q + 2 + pl) (y * vd_ws pl pw + x) &&& vd_I 255 = vd_I (P pl x y)
/-- marks: the class's; the reference's of numbers, of what is written -/
def vd_KC (K : Nat → Nat → Nat → Int) (f : Nat → Nat → Int32) : Prop := ∀ pl a b, pl < 3 → a < 48 → b < 48 → f 43 (2304 * pl + 48 * b + a) = vd_I (K pl a b)
def vd_KH (K : Nat → Nat → Nat → Int) (g : Nat → Nat → Int32) : Prop := ∀ pl a b, pl < 3 → a < vd_fo pl → b < vd_fo pl → g (110 + pl) (b * vd_fo pl + a) = vd_I (if K pl a b = 2 then 1 else 0)
def vd_KWr (pw ph : Int) (K : Nat → Nat → Nat → Int) (g : Nat → Nat → Int32) : Prop := ∀ pl x y, pl < 3 → x < vd_ws pl pw → y < vd_ws pl ph → g (106 + pl) (y * vd_ws pl pw + x) = vd_I (if K pl (x / 4) (y / 4) = 0 then 0 else 1)
def vd_PK (s q : Nat) (pw ph : Int) (P K : Nat → Nat → Nat → Int) (f g : Nat → Nat → Int32) : Prop := (vd_PSC s pw ph P f ∧ vd_PSR q pw ph P g) ∧ vd_KC K f ∧ vd_KH K g ∧ vd_KWr pw ph K g
def vd_PKV (W H : Nat) (pw ph : Int) (O : Nat → Nat → Option Nat) (P K : Nat → Nat → Nat → Int) : Prop := (∀ pl x y, 0 ≤ P pl x y ∧ P pl x y ≤ 255) ∧ (∀ pl a b, K pl a b = 0 ∨ K pl a b = 1 ∨ K pl a b = 2) ∧ (∀ pl a b, ¬ (4 * a < vd_ws pl pw ∧ 4 * b < vd_ws pl ph) → K pl a b = 0) ∧ (∀ pl a b, pl < 3 → K pl a b = 2 → a / vd_cu pl < W → b / vd_cu pl < H → O (a / vd_cu pl) (b / vd_cu pl) ≠ none)
theorem vd_ax_inj2 {pl pl' a b a' b' : Nat} (hp : pl < 3) (hp' : pl' < 3) (ha : a < vd_sd pl) (hb : b < vd_sd pl) (ha' : a' < vd_sd pl') (hb' : b' < vd_sd pl') (h : vd_ax pl a b = vd_ax pl' a' b') : pl = pl' ∧ a = a' ∧ b = b' := by
  have h1 : pl = 0 ∨ pl = 1 ∨ pl = 2 := by omega
  have h2 : pl' = 0 ∨ pl' = 1 ∨ pl' = 2 := by omega
  unfold vd_ax at h
  unfold vd_sd at ha hb ha' hb'
  rcases h1 with rfl | rfl | rfl <;> rcases h2 with rfl | rfl | rfl <;> simp only [if_true, if_false, show ¬ ((1 : Nat) = 0) by decide, show ¬ ((2 : Nat) = 0) by decide] at h ha hb ha' hb' <;> omega
theorem vd_PSC.keep {s : Nat} {pw ph : Int} {P : Nat → Nat → Nat → Int} {f f' : Nat → Nat → Int32} (k : vd_PSC s pw ph P f) (h : ∀ i, f' s i = f s i) : vd_PSC s pw ph P f' := fun pl x y a b c => by rw [h]; exact k pl x y a b c
theorem vd_PSR.keep {q : Nat} {pw ph : Int} {P : Nat → Nat → Nat → Int} {g g' : Nat → Nat → Int32} (k : vd_PSR q pw ph P g) (h : ∀ c i, q + 2 ≤ c → c ≤ q + 4 → g' c i = g c i) : vd_PSR q pw ph P g' := fun pl x y a b c => by rw [h _ _ (by omega) (by omega)]; exact k pl x y a b c
theorem vd_KC.keep {K : Nat → Nat → Nat → Int} {f f' : Nat → Nat → Int32} (k : vd_KC K f) (h : ∀ i, f' 43 i = f 43 i) : vd_KC K f' := fun pl x y a b c => by rw [h]; exact k pl x y a b c
theorem vd_KH.keep {K : Nat → Nat → Nat → Int} {g g' : Nat → Nat → Int32} (k : vd_KH K g) (h : ∀ c i, 110 ≤ c → c ≤ 112 → g' c i = g c i) : vd_KH K g' := fun pl x y a b c => by rw [h _ _ (by omega) (by omega)]; exact k pl x y a b c
theorem vd_KWr.keep {pw ph : Int} {K : Nat → Nat → Nat → Int} {g g' : Nat → Nat → Int32} (k : vd_KWr pw ph K g) (h : ∀ c i, 106 ≤ c → c ≤ 108 → g' c i = g c i) : vd_KWr pw ph K g' := fun pl x y a b c => by rw [h _ _ (by omega) (by omega)]; exact k pl x y a b c
theorem vd_PK.keep {s q : Nat} {pw ph : Int} {P K : Nat → Nat → Nat → Int} {f f' g g' : Nat → Nat → Int32} (k : vd_PK s q pw ph P K f g) (hf : ∀ c i, c = s ∨ c = 43 → f' c i = f c i) (hg : ∀ c i, (q + 2 ≤ c ∧ c ≤ q + 4) ∨ (106 ≤ c ∧ c ≤ 108) ∨ (110 ≤ c ∧ c ≤ 112) → g' c i = g c i) : vd_PK s q pw ph P K f' g' :=
  ⟨⟨k.1.1.keep fun i => hf _ _ (Or.inl rfl), k.1.2.keep fun c i a b => hg _ _ (by omega)⟩, k.2.1.keep fun i => hf _ _ (Or.inr rfl), k.2.2.1.keep fun c i a b => hg _ _ (by omega), k.2.2.2.keep fun c i a b => hg _ _ (by omega)⟩
section VDPK
variable {s q pl : Nat} {pw ph : Int} {P K : Nat → Nat → Nat → Int} {f f' g g' : Nat → Nat → Int32}
/-- a rectangle of samples is written -/
theorem vd_PSC.rect {x0 y0 w h : Nat} {V : Nat → Nat → Int} (k : vd_PSC s pw ph P f) (p0 : 1 ≤ pw ∧ pw ≤ 192) (q0 : 1 ≤ ph ∧ ph ≤ 192) (hpl : pl < 3) (hx : x0 + w ≤ vd_sd pl) (hy : y0 + h ≤ vd_sd pl) (h1 : ∀ i j, i < w → j < h → f' s (vd_ax pl (x0 + i) (y0 + j)) = vd_I (V (x0 + i) (y0 + j))) (h2 : ∀ k, (∀ i j, i < w → j < h → k ≠ vd_ax pl (x0 + i) (y0 + j)) → f' s k = f s k) : vd_PSC s pw ph (vd_rect P pl x0 y0 w h V) f' := fun c x y hc hx' hy' => by
  have b1 := (vd_ws_b (pl := c) p0.1 p0.2).1
  have b2 := (vd_ws_b (pl := c) q0.1 q0.2).1
  by_cases hh : c = pl ∧ x0 ≤ x ∧ x < x0 + w ∧ y0 ≤ y ∧ y < y0 + h
  · obtain ⟨rfl, a1, a2, a3, a4⟩ := hh
    rw [vd_rect_in a1 a2 a3 a4]
    have := h1 (x - x0) (y - y0) (by omega) (by omega)
    rw [show x0 + (x - x0) = x by omega, show y0 + (y - y0) = y by omega] at this
    exact this
  · rw [vd_rect_out hh, h2 _ (fun i j hi hj e => hh (by
      have := vd_ax_inj2 hc hpl (by omega) (by omega) (by omega) (by omega) e
      omega))]
    exact k c x y hc hx' hy'
theorem vd_PSR.rect {x0 y0 w h : Nat} {V : Nat → Nat → Int} (k : vd_PSR q pw ph P g) (hpl : pl < 3) (hx : x0 + w ≤ vd_ws pl pw) (h1 : ∀ i j, i < w → j < h → g' (q + 2 + pl) ((y0 + j) * vd_ws pl pw + (x0 + i)) &&& vd_I 255 = vd_I (V (x0 + i) (y0 + j))) (h2 : ∀ c k, q + 2 ≤ c → c ≤ q + 4 → (c = q + 2 + pl → ∀ i j, i < w → j < h → k ≠ (y0 + j) * vd_ws pl pw + (x0 + i)) → g' c k = g c k) : vd_PSR q pw ph (vd_rect P pl x0 y0 w h V) g' := fun c x y hc hx' hy' => by
  by_cases hh : c = pl ∧ x0 ≤ x ∧ x < x0 + w ∧ y0 ≤ y ∧ y < y0 + h
  · obtain ⟨rfl, a1, a2, a3, a4⟩ := hh
    rw [vd_rect_in a1 a2 a3 a4]
    have := h1 (x - x0) (y - y0) (by omega) (by omega)
    rw [show x0 + (x - x0) = x by omega, show y0 + (y - y0) = y by omega] at this
    exact this
  · rw [vd_rect_out hh, h2 _ _ (by omega) (by omega) (fun ec i j hi hj e => hh (by
      have ec : c = pl := by omega
      subst ec
      have := vd_rowi (by omega) (by omega) e
      omega))]
    exact k c x y hc hx' hy'
theorem vd_KC.rect {x0 y0 w h : Nat} {v : Int} (k : vd_KC K f) (hpl : pl < 3) (hx : x0 + w ≤ 48) (h1 : ∀ a b, x0 ≤ a → a < x0 + w → y0 ≤ b → b < y0 + h → f' 43 (2304 * pl + 48 * b + a) = vd_I v) (h2 : ∀ k, (∀ a b, x0 ≤ a → a < x0 + w → y0 ≤ b → b < y0 + h → k ≠ 2304 * pl + 48 * b + a) → f' 43 k = f 43 k) (hy : y0 + h ≤ 48) : vd_KC (vd_rect K pl x0 y0 w h fun _ _ => v) f' := fun c x y hc hx' hy' => by
  by_cases hh : c = pl ∧ x0 ≤ x ∧ x < x0 + w ∧ y0 ≤ y ∧ y < y0 + h
  · obtain ⟨rfl, a1, a2, a3, a4⟩ := hh
    rw [vd_rect_in a1 a2 a3 a4]
    exact h1 x y a1 a2 a3 a4
  · rw [vd_rect_out hh, h2 _ (fun i j a1 a2 a3 a4 e => hh (by omega))]
    exact k c x y hc hx' hy'
/-- marks of numbers: a rectangle that had none and gets none; one that is set -/
theorem vd_KH.same {K' : Nat → Nat → Nat → Int} (k : vd_KH K g) (h : ∀ pl a b, K' pl a b = 2 ↔ K pl a b = 2) (hg : ∀ c i, 110 ≤ c → c ≤ 112 → g' c i = g c i) : vd_KH K' g' := fun pl a b h1 h2 h3 => by
  rw [hg _ _ (by omega) (by omega), k pl a b h1 h2 h3]
  by_cases c : K pl a b = 2
  · rw [if_pos c, if_pos ((h _ _ _).mpr c)]
  · rw [if_neg c, if_neg fun e => c ((h _ _ _).mp e)]
theorem vd_KWr.rect {x0 y0 w h : Nat} {v : Int} (k : vd_KWr pw ph K g) (hv : v ≠ 0) (hpl : pl < 3) (hx : 4 * x0 + 4 * w ≤ vd_ws pl pw) (h1 : ∀ i j, i < 4 * w → j < 4 * h → g' (106 + pl) ((4 * y0 + j) * vd_ws pl pw + (4 * x0 + i)) = vd_I 1) (h2 : ∀ c k, 106 ≤ c → c ≤ 108 → (c = 106 + pl → ∀ i j, i < 4 * w → j < 4 * h → k ≠ (4 * y0 + j) * vd_ws pl pw + (4 * x0 + i)) → g' c k = g c k) : vd_KWr pw ph (vd_rect K pl x0 y0 w h fun _ _ => v) g' := fun c x y hc hx' hy' => by
  by_cases hh : c = pl ∧ x0 ≤ x / 4 ∧ x / 4 < x0 + w ∧ y0 ≤ y / 4 ∧ y / 4 < y0 + h
  · obtain ⟨rfl, a1, a2, a3, a4⟩ := hh
    rw [vd_rect_in a1 a2 a3 a4, if_neg hv]
    have := h1 (x - 4 * x0) (y - 4 * y0) (by omega) (by omega)
    rw [show 4 * x0 + (x - 4 * x0) = x by omega, show 4 * y0 + (y - 4 * y0) = y by omega] at this
    exact this
  · rw [vd_rect_out hh, h2 _ _ (by omega) (by omega) (fun ec i j hi hj e => hh (by
      have ec : c = pl := by omega
      subst ec
      have := vd_rowi (by omega) (by omega) e
      omega))]
    exact k c x y hc hx' hy'
end VDPK
