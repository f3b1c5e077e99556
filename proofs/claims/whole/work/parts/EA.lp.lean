/-! ===== the filter: a line, both ===== -/
def vd_stp (pl : Nat) (vt : Int) : Int := if vt = 1 then (if pl = 0 then 192 else 96) else 1
def vd_vl (P : Nat → Nat → Nat → Int) (pl : Nat) (vt : Int) (x y : Nat) (i : Int) : Int := P pl (vd_lx vt (x : Int) i).toNat (vd_ly vt (y : Int) i).toNat
def vd_lw (P : Nat → Nat → Nat → Int) (pl : Nat) (vt : Int) (x y : Nat) (w : Int → Int) : Nat → Nat → Nat → Int := fun c X Y => if c = pl ∧ (if vt = 1 then X = x else Y = y) then w (if vt = 1 then (Y : Int) - (y : Int) else (X : Int) - (x : Int)) else P c X Y
theorem vd_ax_l {pl x y : Nat} {vt i : Int} (hvt : vt = 0 ∨ vt = 1) (h1 : 0 ≤ vd_lx vt (x : Int) i) (h2 : 0 ≤ vd_ly vt (y : Int) i) : ((vd_ax pl x y : Nat) : Int) + i * vd_stp pl vt = ((vd_ax pl (vd_lx vt (x : Int) i).toNat (vd_ly vt (y : Int) i).toNat : Nat) : Int) := by
  unfold vd_stp vd_ax
  rcases hvt with rfl | rfl
  · have ex : vd_lx 0 (x : Int) i = x + i := if_neg (by decide)
    have ey : vd_ly 0 (y : Int) i = y := if_neg (by decide)
    rw [ex] at h1 ⊢
    rw [ey, if_neg (show ¬ ((0 : Int) = 1) by decide)]
    split <;> omega
  · have ex : vd_lx 1 (x : Int) i = x := if_pos rfl
    have ey : vd_ly 1 (y : Int) i = y + i := if_pos rfl
    rw [ey] at h2 ⊢
    rw [ex, if_pos (show (1 : Int) = 1 from rfl)]
    split <;> omega
section VDLP
variable {M N : vd_M} {ow fa lo lf p s q pl x y : Nat} {pw ph vt m L E lev sz n : Int} {P : Nat → Nat → Nat → Int} {f g : Nat → Nat → Int32}
def vd_LnPost (M N : vd_M) (s q pl x y : Nat) (pw ph vt n sz L E lev : Int) (f g : Nat → Nat → Int32) : Prop := ∃ (f' g' : Nat → Nat → Int32) (P' : Nat → Nat → Nat → Int), (∀ d Q, vd_wp (d + 3) 142 0 [.ref 60, .int (vd_I ((vd_ax pl x y : Nat) : Int)), .int (vd_I (vd_stp pl vt)), .int (vd_I n), vd_U, vd_U, vd_U] [] (vd_mf M f) Q = Q (vd_mf M f') (.inl none)) ∧ (∀ d Q, vd_wp (d + 4) 267 0 [.ref 63, .int (vd_I (pl : Int)), .int (vd_I (x : Int)), .int (vd_I (y : Int)), .int (vd_I vt), .int (vd_I sz), .int (vd_I L), .int (vd_I E), .int (vd_I (lev / 16)), vd_U, vd_U, vd_U] [] (vd_mf N g) Q = Q (vd_mf N g') (.inl none)) ∧ vd_PSC s pw ph P' f' ∧ vd_PSR q pw ph P' g' ∧ (∀ pl x y, 0 ≤ P' pl x y ∧ P' pl x y ≤ 255) ∧ f' 60 2 = g' 63 129 ∧ (∀ k j, k ≠ s → k ≠ 62 → ¬ (k = 60 ∧ (j = 9 ∨ j = 2)) → f' k j = f k j) ∧ (∀ c k, c ≠ 128 → ¬ (q + 2 ≤ c ∧ c ≤ q + 4) → ¬ (c = 63 ∧ 129 ≤ k ∧ k ≤ 133) → g' c k = g c k)
theorem vd_lineQ (hM : vd_SC M ow fa lo lf) (hN : vd_SR N) (hp : vd_PC M p s) (h605 : vd_r M 60 5 = some s) (hq : vd_PD N q) (hnow : vd_r N 63 23 = some q) (psc : vd_PSC s pw ph P f) (psr : vd_PSR q pw ph P g) (hPb : ∀ pl x y, 0 ≤ P pl x y ∧ P pl x y ≤ 255) (p0 : 1 ≤ pw ∧ pw ≤ 192) (q0 : 1 ≤ ph ∧ ph ≤ 192) (hpl : pl < 3) (hvt : vt = 0 ∨ vt = 1) (hx : x < 192) (hy : y < 192) (hsz : (sz = 0 ∧ n = 4 ∧ m = 4) ∨ (sz = 1 ∧ n = 8 ∧ m = 4) ∨ (sz = 2 ∧ n = 16 ∧ m = 8) ∨ (sz = 3 ∧ n = 32 ∧ m = 8)) (hin : ∀ i : Int, -m ≤ i → i < m → (0 ≤ vd_lx vt (x : Int) i ∧ vd_lx vt (x : Int) i < (vd_ws pl pw : Int)) ∧ (0 ≤ vd_ly vt (y : Int) i ∧ vd_ly vt (y : Int) i < (vd_ws pl ph : Int))) (gq : g q 0 = vd_I pw) (h6 : f 60 6 = vd_I lev) (l0 : 0 ≤ lev ∧ lev ≤ 63) (h7 : f 60 7 = vd_I L) (hL : -1000 ≤ L ∧ L ≤ 1000) (h8 : f 60 8 = vd_I E) (hE : -1000 ≤ E ∧ E ≤ 1000) (cnt : f 60 2 = g 63 129) : vd_LnPost M N s q pl x y pw ph vt n sz L E lev f g := by
  have hp' := hp.2.2
  have hqb := hq.2.2.2
  have wsb := (vd_ws_b (pl := pl) p0.1 p0.2).1
  have hsb := (vd_ws_b (pl := pl) q0.1 q0.2).1
  have sd2 : vd_sd pl ≤ 192 := by unfold vd_sd; split <;> omega
  have vb : vd_vb (vd_vl P pl vt x y) := fun i => hPb _ _ _
  have stb : 1 ≤ vd_stp pl vt ∧ vd_stp pl vt ≤ 192 := by
    unfold vd_stp
    split
    · split <;> omega
    · omega
  have hax : ∀ a b, a < vd_ws pl pw → b < vd_ws pl ph → vd_ax pl a b < 55296 := by
    intro a b ha hb
    have h1 : a < vd_sd pl := by omega
    have h2 : b < vd_sd pl := by omega
    unfold vd_ax
    unfold vd_sd at h1 h2
    split
    · rename_i c
      rw [if_pos c] at h1 h2
      omega
    · rename_i c
      rw [if_neg c] at h1 h2
      omega
  have lc : vd_LC s ((vd_ax pl x y : Nat) : Int) (vd_stp pl vt) m (vd_vl P pl vt x y) f := by
    refine ⟨stb.1, stb.2, fun i i0 i1 => ?_⟩
    obtain ⟨⟨a0, a1⟩, b0, b1⟩ := hin i i0 i1
    have e := vd_ax_l (pl := pl) hvt a0 b0
    have ab := hax (vd_lx vt (x : Int) i).toNat (vd_ly vt (y : Int) i).toNat (by omega) (by omega)
    rw [e]
    refine ⟨by omega, by omega, ?_⟩
    rw [Int.toNat_natCast]
    exact psc pl _ _ hpl (by omega) (by omega)
  obtain ⟨f', c, t1, lc', c2, ch, wb, F, S⟩ := vd_P142 (n := n) hM hp h605 lc vb (by omega) (by omega) h6 l0 h7 hL h8 hE
  obtain ⟨g', c', u1, lr', u2, ch', G, T⟩ := vd_P267 (sz := sz) (n := n) (m := m) (v := vd_vl P pl vt x y) (t := lev / 16) (x := (x : Int)) (y := (y : Int)) hN hq hnow hpl p0 gq hvt (by omega) (by omega) hsz (fun i i0 i1 => by
    obtain ⟨⟨a0, a1⟩, b0, b1⟩ := hin i i0 i1
    exact ⟨⟨a0, a1⟩, ⟨b0, by omega⟩, psr pl _ _ hpl (by omega) (by omega)⟩) vb hL hE (by omega) wb
  have cc : c = c' := by
    rcases ch.1 with e | e <;> rcases ch'.1 with e' | e'
    · omega
    · exact absurd (ch'.2.mpr (ch.2.mp e)) (by omega)
    · exact absurd (ch.2.mpr (ch'.2.mp e')) (by omega)
    · omega
  generalize hw : vd_lnw L E (lev / 16) n (vd_vl P pl vt x y) = w at *
  have out : ∀ i : Int, ¬ (-m ≤ i ∧ i < m) → w i = vd_vl P pl vt x y i := fun i hi => by
    rw [← hw]
    exact vd_lnw_o (m := m) (by omega) (by omega)
  -- where a sample of the line stands
  have onl : ∀ X Y : Nat, (if vt = 1 then X = x else Y = y) → vd_lx vt (x : Int) (if vt = 1 then (Y : Int) - (y : Int) else (X : Int) - (x : Int)) = (X : Int) ∧ vd_ly vt (y : Int) (if vt = 1 then (Y : Int) - (y : Int) else (X : Int) - (x : Int)) = (Y : Int) := by
    intro X Y h
    unfold vd_lx vd_ly
    rcases hvt with rfl | rfl
    · simp only [if_neg (show ¬ ((0 : Int) = 1) by decide)] at h ⊢
      omega
    · simp only [if_true] at h ⊢
      omega
  have offl : ∀ (X Y : Nat) (i : Int), (X : Int) = vd_lx vt (x : Int) i → (Y : Int) = vd_ly vt (y : Int) i → (if vt = 1 then X = x else Y = y) ∧ (if vt = 1 then (Y : Int) - (y : Int) else (X : Int) - (x : Int)) = i := by
    intro X Y i h1 h2
    unfold vd_lx at h1
    unfold vd_ly at h2
    rcases hvt with rfl | rfl
    · simp only [if_neg (show ¬ ((0 : Int) = 1) by decide)] at h1 h2 ⊢
      omega
    · simp only [if_true] at h1 h2 ⊢
      omega
  refine ⟨f', g', vd_lw P pl vt x y w, t1, u1, fun c X Y hc hX hY => ?_, fun c X Y hc hX hY => ?_, fun c X Y => ?_, ?_, F, fun c k a b e => G c k a (by omega) e⟩
  · have b1 := (vd_ws_b (pl := c) p0.1 p0.2).1
    have b2 := (vd_ws_b (pl := c) q0.1 q0.2).1
    unfold vd_lw
    by_cases h : c = pl ∧ (if vt = 1 then X = x else Y = y)
    · rw [if_pos h]
      obtain ⟨rfl, h⟩ := h
      obtain ⟨o1, o2⟩ := onl X Y h
      generalize (if vt = 1 then (Y : Int) - (y : Int) else (X : Int) - (x : Int)) = i at *
      by_cases hi : -m ≤ i ∧ i < m
      · have lv := (lc'.2.2 i hi.1 hi.2).2.2
        rw [vd_ax_l hvt (by omega) (by omega), o1, o2, Int.toNat_natCast, Int.toNat_natCast, Int.toNat_natCast] at lv
        exact lv
      · rw [out i hi]
        unfold vd_vl
        rw [o1, o2, Int.toNat_natCast, Int.toNat_natCast, S _ (fun j j0 j1 e => by
          obtain ⟨⟨a0, a1⟩, b0, b1'⟩ := hin j j0 j1
          rw [vd_ax_l hvt a0 b0, Int.toNat_natCast] at e
          have := vd_ax_inj2 hc hc (by omega) (by omega) (by omega) (by omega) e
          have := (offl X Y j (by omega) (by omega)).2
          have o3 := (offl X Y i (by omega) (by omega)).2
          omega)]
        exact psc c X Y hc hX hY
    · rw [if_neg h, S _ (fun j j0 j1 e => by
        obtain ⟨⟨a0, a1⟩, b0, b1'⟩ := hin j j0 j1
        rw [vd_ax_l hvt a0 b0, Int.toNat_natCast] at e
        have e2 := vd_ax_inj2 hc hpl (by omega) (by omega) (by omega) (by omega) e
        exact h ⟨e2.1, (offl X Y j (by omega) (by omega)).1⟩)]
      exact psc c X Y hc hX hY
  · unfold vd_lw
    by_cases h : c = pl ∧ (if vt = 1 then X = x else Y = y)
    · rw [if_pos h]
      obtain ⟨rfl, h⟩ := h
      obtain ⟨o1, o2⟩ := onl X Y h
      generalize (if vt = 1 then (Y : Int) - (y : Int) else (X : Int) - (x : Int)) = i at *
      by_cases hi : -m ≤ i ∧ i < m
      · have lv := lr' i hi.1 hi.2
        unfold vd_lix at lv
        rw [o1, o2, Int.toNat_natCast, Int.toNat_natCast] at lv
        exact lv
      · rw [out i hi]
        unfold vd_vl
        rw [o1, o2, Int.toNat_natCast, Int.toNat_natCast, T _ (fun j j0 j1 e => by
          obtain ⟨⟨a0, a1⟩, b0, b1'⟩ := hin j j0 j1
          unfold vd_lix at e
          have := vd_rowi (by omega) (by omega) e
          have := (offl X Y j (by omega) (by omega)).2
          have o3 := (offl X Y i (by omega) (by omega)).2
          omega)]
        exact psr c X Y hc hX hY
    · rw [if_neg h]
      by_cases hcp : c = pl
      · subst hcp
        rw [T _ (fun j j0 j1 e => by
          obtain ⟨⟨a0, a1⟩, b0, b1'⟩ := hin j j0 j1
          unfold vd_lix at e
          have := vd_rowi (by omega) (by omega) e
          exact h ⟨rfl, (offl X Y j (by omega) (by omega)).1⟩)]
        exact psr c X Y hc hX hY
      · rw [G _ _ (by omega) (by omega) (by omega)]
        exact psr c X Y hc hX hY
  · unfold vd_lw
    by_cases h : c = pl ∧ (if vt = 1 then X = x else Y = y)
    · rw [if_pos h]
      exact wb _
    · rw [if_neg h]
      exact hPb c X Y
  · rw [c2, u2, cnt, cc]
end VDLP
