/-! ===== blocks one behind the other ===== -/
def vd_BG (X : Nat → Nat → Int) (b : Nat → Int) : Prop := ∃ x y w h : Nat, vd_bb b x y w h ∧ vd_BX X b w h ∧ (w = 1 ∨ w = 2 ∨ w = 4 ∨ w = 8) ∧ (h = 1 ∨ h = 2 ∨ h = 4 ∨ h = 8)
/-- what does not change while a frame is divided -/
def vd_DC (M N : vd_M) (ow fa lo lf W H p s q : Nat) (X : Nat → Nat → Int) (mo : Int) (L : Nat → Nat → Nat → Int) (Z : Nat → Nat → Nat → Nat) (R : Nat → Nat → Nat → Nat → Int) (pw ph : Int) : Prop := (vd_SC M ow fa lo lf ∧ vd_SR N) ∧ (vd_PC M p s ∧ vd_r M 44 7 = some p) ∧ (vd_PD N q ∧ vd_r N 63 23 = some q) ∧ vd_XV X ∧ (1 ≤ W ∧ W ≤ 24 ∧ 1 ≤ H ∧ H ≤ 24) ∧ vd_VV W H mo L pw ph ∧ vd_SCV Z ∧ (∀ r pl a b, 0 ≤ R r pl a b ∧ R r pl a b ≤ 255)
/-- the state while it is divided -/
def vd_DS (M N : vd_M) (ow fa lo lf W H s q : Nat) (X : Nat → Nat → Int) (mo : Int) (L : Nat → Nat → Nat → Int) (Z : Nat → Nat → Nat → Nat) (R : Nat → Nat → Nat → Nat → Int) (pw ph : Int) (nb n : Nat) (O : Nat → Nat → Option Nat) (B mp : Nat → Nat → Int) (P K : Nat → Nat → Nat → Int) (f g : Nat → Nat → Int32) : Prop := vd_FK ow fa lo lf W H nb O B X mp mo L pw ph n f g ∧ (∀ i j, 0 ≤ mp i j ∧ mp i j ≤ 7) ∧ vd_STT M N s q X Z R pw ph f g ∧ (vd_PK s q pw ph P K f g ∧ vd_PKV W H pw ph O P K) ∧ f 45 3 = g 63 47 ∧ (∀ k, k < nb → vd_BG X (B k))
/-- what a piece of the division leaves -/
def vd_DT (M N : vd_M) (ow fa lo lf W H s q : Nat) (X : Nat → Nat → Int) (mo : Int) (L : Nat → Nat → Nat → Int) (Z : Nat → Nat → Nat → Nat) (R : Nat → Nat → Nat → Nat → Int) (pw ph : Int) (x y w h c m nb n : Nat) (O : Nat → Nat → Option Nat) (K : Nat → Nat → Nat → Int) (f g f' g' : Nat → Nat → Int32) : Prop := ∃ (nb' : Nat) (O' : Nat → Nat → Option Nat) (B' mp' : Nat → Nat → Int) (P' K' : Nat → Nat → Nat → Int), vd_DS M N ow fa lo lf W H s q X mo L Z R pw ph nb' (n + c) O' B' mp' P' K' f' g' ∧ nb' ≤ nb + m ∧ (∀ pl a e, ¬ (pl < 3 ∧ vd_ar pl x y w h a e) → K' pl a e = K pl a e) ∧ (∀ i j, O i j ≠ none → O' i j ≠ none) ∧ (∀ i j, x ≤ i → i < x + w → y ≤ j → j < y + h → i < W → j < H → O' i j ≠ none) ∧ vd_fBk ow fa s f f' ∧ vd_gBk q g g'
theorem vd_ar_sub {pl x y w h x' y' w' h' a e : Nat} (k : vd_ar pl x' y' w' h' a e) (h1 : x ≤ x') (h2 : x' + w' ≤ x + w) (h3 : y ≤ y') (h4 : y' + h' ≤ y + h) : vd_ar pl x y w h a e := by
  unfold vd_ar at *
  rcases vd_cu_v pl with ⟨_, e1, _⟩ | ⟨_, e1, _⟩ <;> rw [e1] at k ⊢ <;> omega
theorem vd_ar_off {pl x y w h x' y' w' h' a e : Nat} (k : vd_ar pl x' y' w' h' a e) (h0 : x' + w' ≤ x ∨ x + w ≤ x' ∨ y' + h' ≤ y ∨ y + h ≤ y') : ¬ vd_ar pl x y w h a e := by
  intro k2
  unfold vd_ar at *
  rcases vd_cu_v pl with ⟨_, e1, _⟩ | ⟨_, e1, _⟩ <;> rw [e1] at k k2 <;> omega
section VDDS
variable {M N : vd_M} {ow fa lo lf W H p s q : Nat} {X : Nat → Nat → Int} {mo : Int} {L : Nat → Nat → Nat → Int} {Z : Nat → Nat → Nat → Nat} {R : Nat → Nat → Nat → Nat → Int} {pw ph : Int} {nb n : Nat} {O : Nat → Nat → Option Nat} {B mp : Nat → Nat → Int} {P K : Nat → Nat → Nat → Int} {f g : Nat → Nat → Int32} {x y w h : Nat}
theorem vd_DS.mono (ds : vd_DS M N ow fa lo lf W H s q X mo L Z R pw ph nb n O B mp P K f g) {m : Nat} (hm : n ≤ m) : vd_DS M N ow fa lo lf W H s q X mo L Z R pw ph nb m O B mp P K f g := ⟨⟨ds.1.1.mono hm, ds.1.2⟩, ds.2⟩
theorem vd_DS.read (hC : vd_DC M N ow fa lo lf W H p s q X mo L Z R pw ph) (ds : vd_DS M N ow fa lo lf W H s q X mo L Z R pw ph nb n O B mp P K f g) {m : Nat} {f' g' : Nat → Nat → Int32} (rd : vd_RD m f' g') (hf : vd_fD f f') (hg : vd_gD g g') : vd_DS M N ow fa lo lf W H s q X mo L Z R pw ph nb m O B mp P K f' g' ∧ vd_fBk ow fa s f f' ∧ vd_gBk q g g' := by
  obtain ⟨⟨hM, hN⟩, ⟨hp, h44⟩, ⟨hq, hnow⟩, _⟩ := hC
  have hp' := hp.2.2
  have hq' := hq.2.2.2
  have F : vd_fBk ow fa s f f' := fun c i a1 a2 _ _ _ _ _ _ _ _ _ _ _ _ => hf c i (by omega) a2
  have G : vd_gBk q g g' := fun c i a1 a2 a3 a4 _ _ _ _ _ _ => hg c i (by omega) a3 a4
  obtain ⟨fk, mb, st, ⟨pk, pkv⟩, cnt, bg⟩ := ds
  refine ⟨⟨fk.keepS (N := N) (p := p) hM hp hq rd (fun c i a1 a2 a3 a4 a5 => hf c i (by omega) a2) (fun c i a1 a2 a3 a4 a5 a6 => hg c i (by omega) a2 a3), mb, st.keep hM hp hq F G, ⟨pk.keep (fun c i a => hf c i (by omega) (by omega)) (fun c i a => hg c i (by omega) (by omega) (by omega)), pkv⟩, ?_, bg⟩, F, G⟩
  rw [hf _ _ (by omega) (by omega), hg _ _ (by omega) (by omega) (by omega)]
  exact cnt
theorem vd_takeD (hC : vd_DC M N ow fa lo lf W H p s q X mo L Z R pw ph) (ds : vd_DS M N ow fa lo lf W H s q X mo L Z R pw ph nb n O B mp P K f g) (hx : x < W) (hy : y < H) (hw : w = 1 ∨ w = 2 ∨ w = 4 ∨ w = 8) (hh : h = 1 ∨ h = 2 ∨ h = 4 ∨ h = 8) (hnb : nb < 576) (hxw : 8 * x + 8 * w ≤ vd_ws 0 pw) (hyw : 8 * y + 8 * h ≤ vd_ws 0 ph) (hK : ∀ pl a e, pl < 3 → vd_ar pl x y w h a e → K pl a e = 0) (hn : n + (98 + 6144 * (w * h)) ≤ 8000000) : ∃ f' g' : Nat → Nat → Int32, (∀ a5 a6 a7 d Q, vd_wp (d + 5) 67 0 [.ref 44, .int (vd_I (x : Int)), .int (vd_I (y : Int)), .int (vd_I (w : Int)), .int (vd_I (h : Int)), a5, a6, a7] [] (vd_mf M f) Q = Q (vd_mf M f') (.inl none)) ∧ (∀ a5 d Q, vd_wp (d + 7) 196 0 [.ref 63, .int (vd_I (8 * (x : Int))), .int (vd_I (8 * (y : Int))), .int (vd_I (8 * (w : Int))), .int (vd_I (8 * (h : Int))), a5] [] (vd_mf N g) Q = Q (vd_mf N g') (.inl none)) ∧ vd_DT M N ow fa lo lf W H s q X mo L Z R pw ph x y w h (98 + 6144 * (w * h)) 1 nb n O K f g f' g' := by
  obtain ⟨⟨hM, hN⟩, ⟨hp, h44⟩, ⟨hq, hnow⟩, hX, hW, kv, hZ, hR⟩ := id hC
  obtain ⟨fk, mb, st, ⟨pk, pkv⟩, cnt, bg⟩ := id ds
  obtain ⟨f', g', b, mp', P', K', t1, t2, fk', mb', bV, bb, bX, pk', pkv', cnt', ke, F, G⟩ := vd_take hM hN hp h44 hq hnow fk ⟨hX, mb, hW, hnb, ⟨hx, hy⟩, hw, hh⟩ kv st hZ hR pk pkv cnt hxw hyw hK (by omega)
  refine ⟨f', g', t1, t2, nb + 1, _, _, mp', P', K', ⟨⟨fk'.1.mono (by omega), fk'.2⟩, mb', st.keep hM hp hq F G, ⟨pk', pkv'⟩, cnt', fun k hk => ?_⟩, Nat.le_refl _, ke, fun i j hO => ?_, fun i j h1 h2 h3 h4 h5 h6 => ?_, F, G⟩
  · by_cases e : k = nb
    · rw [e, vd_Bg_n]
      exact ⟨x, y, w, h, bb, bX, hw, hh⟩
    · rw [vd_Bg_o e]
      exact bg k (by omega)
  · unfold vd_Og
    split
    · exact Option.some_ne_none nb
    · exact hO
  · unfold vd_Og
    rw [if_pos ⟨h1, by omega, h3, by omega⟩]
    exact Option.some_ne_none nb
end VDDS
