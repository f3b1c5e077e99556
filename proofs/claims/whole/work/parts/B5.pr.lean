/-! ===== prediction from others, both ===== -/
theorem vd_ws_us {pl x w : Nat} {pw : Int} (p0 : 1 ≤ pw ∧ pw ≤ 192) (h : 8 * x + 8 * w ≤ vd_ws 0 pw) : vd_us pl * x + vd_us pl * w ≤ vd_ws pl pw := by
  unfold vd_ws at h ⊢
  unfold vd_us
  rw [if_pos rfl] at h
  split <;> omega
theorem vd_ws_24 {pw : Int} {x w : Nat} (p0 : 1 ≤ pw ∧ pw ≤ 192) (h : 8 * x + 8 * w ≤ vd_ws 0 pw) : x + w ≤ 24 := by
  unfold vd_ws at h
  rw [if_pos rfl] at h
  omega
/-- a block's cells in a plane -/
def vd_ar (pl x y w h a b : Nat) : Prop := vd_cu pl * x ≤ a ∧ a < vd_cu pl * x + vd_cu pl * w ∧ vd_cu pl * y ≤ b ∧ b < vd_cu pl * y + vd_cu pl * h
section VDPR
variable {M N : vd_M} {ow fa lo lf nb : Nat} {p s q pl : Nat} {pw ph : Int} {R : Nat → Nat → Nat → Nat → Int} {b : Nat → Int} {x y w h : Nat} {P K : Nat → Nat → Nat → Int} {f g : Nat → Nat → Int32}
/-- what the class's side rests on -/
def vd_MA (M : vd_M) (fa nb s : Nat) (pw ph : Int) (R : Nat → Nat → Nat → Nat → Int) (b : Nat → Int) (f : Nat → Nat → Int32) : Prop := (∀ q, q < 18 → f fa (18 * nb + q) = vd_I (b q)) ∧ vd_TB f ∧ vd_RpA M s pw ph R f
def vd_fQ (s : Nat) (f f' : Nat → Nat → Int32) : Prop := ∀ c i, ¬ (c = 54 ∧ 8 ≤ i) → c ≠ 58 → c ≠ 59 → c ≠ s → c ≠ 43 → f' c i = f c i
def vd_gQ (q : Nat) (g g' : Nat → Nat → Int32) : Prop := ∀ c i, ¬ (106 ≤ c ∧ c ≤ 108) → ¬ (q + 2 ≤ c ∧ c ≤ q + 4) → g' c i = g c i
theorem vd_MA.keep (hM : vd_SC M ow fa lo lf) (hp : vd_PC M p s) (k : vd_MA M fa nb s pw ph R b f) {f' : Nat → Nat → Int32} (hf : vd_fQ s f f') : vd_MA M fa nb s pw ph R b f' := by
  have hpar := vd_par4 hM
  have := hp.2.2
  refine ⟨fun q hq => ?_, fun kk t i a1 a2 a3 => ?_, k.2.2.keep hp fun c i a1 a2 => hf c i (by omega) (by omega) (by omega) a2 (by omega)⟩
  · rw [hf _ _ (by omega) (by omega) (by omega) (by omega) (by omega)]; exact k.1 q hq
  · rw [hf _ _ (by omega) (by omega) (by omega) (by omega) (by omega)]; exact k.2.1 _ t i a1 a2 a3
theorem vd_predP (hM : vd_SC M ow fa lo lf) (hN : vd_SR N) (hp : vd_PC M p s) (hq : vd_PD N q) (hnow : vd_r N 63 23 = some q) (k : vd_PK s q pw ph P K f g) (ka : vd_MA M fa nb s pw ph R b f) (kb : vd_MR N q pw ph R b g) (hpl : pl < 3) (hnb : nb < 576) (bb : vd_bb b x y w h) (ib : vd_IB b) (hx : 8 * x + 8 * w ≤ vd_ws 0 pw) (hy : 8 * y + 8 * h ≤ vd_ws 0 ph) (hRb : ∀ r pl a b, 0 ≤ R r pl a b ∧ R r pl a b ≤ 255) (p0 : 1 ≤ pw ∧ pw ≤ 192) (q0 : 1 ≤ ph ∧ ph ≤ 192) (h95 : g 63 95 = vd_I (8 * (x : Int))) (h96 : g 63 96 = vd_I (8 * (y : Int))) (hK : ∀ i j, vd_ar pl x y w h i j → K pl i j ≠ 2) (a5 : Value) : ∃ (f' g' : Nat → Nat → Int32), (∀ d Q, vd_wp (d + 3) 104 11 [.ref 54, .ref p, .int (vd_I (18 * (nb : Int))), .ref fa, .int (vd_I (pl : Int)), a5] [] (vd_mf M f) Q = vd_wp (d + 3) 104 11 [.ref 54, .ref p, .int (vd_I (18 * (nb : Int))), .ref fa, .int (vd_I ((pl + 1 : Nat) : Int)), .int (vd_I ((vd_us pl : Nat) : Int))] [] (vd_mf M f') Q) ∧ (∀ x1 x2 x3 x4 d Q, vd_wp (d + 5) 196 249 [.ref 63, .int x1, .int x2, .int x3, .int x4, .int (vd_I (pl : Int))] [] (vd_mf N g) Q = vd_wp (d + 5) 196 249 [.ref 63, .int x1, .int x2, .int x3, .int x4, .int (vd_I ((pl + 1 : Nat) : Int))] [] (vd_mf N g') Q) ∧ vd_PK s q pw ph (vd_rect P pl (vd_us pl * x) (vd_us pl * y) (vd_us pl * w) (vd_us pl * h) (vd_vv R pw ph b pl)) (vd_rect K pl (vd_cu pl * x) (vd_cu pl * y) (vd_cu pl * w) (vd_cu pl * h) fun _ _ => 1) f' g' ∧ vd_fQ s f f' ∧ vd_gQ q g g' := by
  have hp' := hp.2.2
  have hq' := hq.2.2.2
  have wx := vd_ws_us (pl := pl) p0 hx
  have wy := vd_ws_us (pl := pl) q0 hy
  have x24 := vd_ws_24 p0 hx
  have y24 := vd_ws_24 q0 hy
  have sdx := (vd_ws_b (pl := pl) p0.1 p0.2).1
  have sdy := (vd_ws_b (pl := pl) q0.1 q0.2).1
  have hus := vd_cu_v pl
  obtain ⟨b2, b3, w8, h8⟩ : b 2 = (w : Int) ∧ b 3 = (h : Int) ∧ w ≤ 8 ∧ h ≤ 8 := ⟨bb.1.2.2.1, bb.1.2.2.2, bb.2.1.2.2.1, bb.2.1.2.2.2⟩
  obtain ⟨f', e1, e2, e3, e4⟩ := vd_T104 (pl := pl) hM hp hpl hnb ka.1 bb ib x24 y24 ka.2.1 ka.2.2 hRb p0 q0 a5
  obtain ⟨g', t1, t2, t3⟩ := vd_P222 (pl := pl) hN hq hnow hpl hRb p0 q0 ib b2 b3 w8 h8 wx (by omega) h95 h96 kb
  have cx : vd_cu pl * x + vd_cu pl * w ≤ 48 ∧ vd_cu pl * y + vd_cu pl * h ≤ 48 := by rcases hus with ⟨_, e2, _⟩ | ⟨_, e2, _⟩ <;> rw [e2] <;> omega
  have ux : vd_us pl * x = 4 * (vd_cu pl * x) ∧ vd_us pl * y = 4 * (vd_cu pl * y) ∧ vd_us pl * w = 4 * (vd_cu pl * w) ∧ vd_us pl * h = 4 * (vd_cu pl * h) := by rcases hus with ⟨e, e2, _⟩ | ⟨e, e2, _⟩ <;> rw [e, e2] <;> omega
  have c3 : (pl : Int) < 3 := by omega
  have ee : (pl : Int) + 1 = ((pl + 1 : Nat) : Int) := by omega
  refine ⟨f', g', e1, fun x1 x2 x3 x4 d Q => ?_, ⟨⟨?_, ?_⟩, ?_, ?_, ?_⟩, fun c i a1 a2 a3 a4 a5 => e4 c i a1 a2 a3 (fun e => absurd e a4) (fun e => absurd e a5), fun c i a1 a2 => t3 c i (fun e => by omega)⟩
  · rw [vd_S196_249 hN]
    simp (disch := omega) only [vd_S196_255 hN, vd_S196_258 hN, vd_S196_261 hN, vd_I_toInt, c3, if_true, t1, vd_I_add, ee, vd_rs_v, vd_rs_n]
  · exact k.1.1.rect p0 q0 hpl (by omega) (by omega) e2 fun i hi => e4 s i (by omega) (by omega) (by omega) (fun _ => hi) (fun e => by omega)
  · exact k.1.2.rect hpl wx (fun i j hi hj => (t2 i j hi hj).1) fun c i a1 a2 a3 => t3 c i (fun e => by
      have ec : c = q + 2 + pl := by omega
      exact a3 ec)
  · exact k.2.1.rect hpl cx.1 e3 (fun i hi => e4 43 i (by omega) (by omega) (by omega) (fun e => by omega) (fun _ => hi)) cx.2
  · refine k.2.2.1.same (fun c i j => ?_) fun c i a1 a2 => t3 c i (fun e => by omega)
    by_cases hh : c = pl ∧ vd_cu pl * x ≤ i ∧ i < vd_cu pl * x + vd_cu pl * w ∧ vd_cu pl * y ≤ j ∧ j < vd_cu pl * y + vd_cu pl * h
    · obtain ⟨rfl, a1, a2, a3, a4⟩ := hh
      rw [vd_rect_in a1 a2 a3 a4]
      exact ⟨fun e => absurd e (by decide), fun e => absurd e (hK i j ⟨a1, a2, a3, a4⟩)⟩
    · rw [vd_rect_out hh]
  · obtain ⟨u1, u2, u3, u4⟩ := ux
    rw [u1, u2, u3, u4] at t2 t3
    rw [u1, u3] at wx
    refine k.2.2.2.rect (by decide) hpl wx (fun i j hi hj => (t2 i j hi hj).2) fun c i a1 a2 a3 => t3 c i (fun e => by
      have ec : c = 106 + pl := by omega
      exact a3 ec)
def vd_PredPost (M N : vd_M) (s q : Nat) (pw ph : Int) (x y w h : Nat) (K : Nat → Nat → Nat → Int) (f g : Nat → Nat → Int32) : Prop := ∃ (f' g' : Nat → Nat → Int32) (P' K' : Nat → Nat → Nat → Int), (∀ x1 x2 x3 x4 x5 a7 d Q, vd_wp (d + 4) 67 183 [.ref 44, .int x1, .int x2, .int x3, .int x4, .int x5, .int (vd_I 1), a7] [] (vd_mf M f) Q = vd_wp (d + 4) 67 203 [.ref 44, .int x1, .int x2, .int x3, .int x4, .int x5, .int (vd_I 1), a7] [] (vd_mf M f') Q) ∧ (∀ x1 x2 x3 x4 x5 d Q, vd_wp (d + 5) 196 239 [.ref 63, .int x1, .int x2, .int x3, .int x4, .int x5] [] (vd_mf N g) Q = vd_wp (d + 5) 196 267 [.ref 63, .int x1, .int x2, .int x3, .int x4, .int (vd_I 3)] [] (vd_mf N g') Q) ∧ vd_PK s q pw ph P' K' f' g' ∧ (∀ pl x y, 0 ≤ P' pl x y ∧ P' pl x y ≤ 255) ∧ (∀ pl i j, pl < 3 → vd_ar pl x y w h i j → K' pl i j = 1) ∧ (∀ pl i j, ¬ (pl < 3 ∧ vd_ar pl x y w h i j) → K' pl i j = K pl i j) ∧ vd_fQ s f f' ∧ vd_gQ q g g'
theorem vd_predO (hM : vd_SC M ow fa lo lf) (hN : vd_SR N) (hp : vd_PC M p s) (h44 : vd_r M 44 7 = some p) (hq : vd_PD N q) (hnow : vd_r N 63 23 = some q) (k : vd_PK s q pw ph P K f g) (ka : vd_MA M fa nb s pw ph R b f) (kb : vd_MR N q pw ph R b g) (hnb : nb < 576) (bb : vd_bb b x y w h) (ib : vd_IB b) (hx : 8 * x + 8 * w ≤ vd_ws 0 pw) (hy : 8 * y + 8 * h ≤ vd_ws 0 ph) (hRb : ∀ r pl a b, 0 ≤ R r pl a b ∧ R r pl a b ≤ 255) (hPb : ∀ pl x y, 0 ≤ P pl x y ∧ P pl x y ≤ 255) (p0 : 1 ≤ pw ∧ pw ≤ 192) (q0 : 1 ≤ ph ∧ ph ≤ 192) (h95 : g 63 95 = vd_I (8 * (x : Int))) (h96 : g 63 96 = vd_I (8 * (y : Int))) (h111 : g 63 111 = vd_I 1) (here : f 44 8 = vd_I (18 * (nb : Int))) (hK : ∀ pl i j, pl < 3 → vd_ar pl x y w h i j → K pl i j ≠ 2) : vd_PredPost M N s q pw ph x y w h K f g := by
  have hpar := vd_par4 hM
  have hp' := hp.2.2
  have hq' := hq.2.2.2
  have r0 : ∀ {pl' pl i j : Nat} {K : Nat → Nat → Nat → Int}, pl' ≠ pl → vd_rect K pl' (vd_cu pl' * x) (vd_cu pl' * y) (vd_cu pl' * w) (vd_cu pl' * h) (fun _ _ => 1) pl i j = K pl i j := fun hne => vd_rect_out fun e => hne e.1.symm
  have r1 : ∀ {pl i j : Nat} {K : Nat → Nat → Nat → Int}, vd_ar pl x y w h i j → vd_rect K pl (vd_cu pl * x) (vd_cu pl * y) (vd_cu pl * w) (vd_cu pl * h) (fun _ _ => 1) pl i j = 1 := fun a => vd_rect_in a.1 a.2.1 a.2.2.1 a.2.2.2
  have r2 : ∀ {pl' pl i j : Nat} {K : Nat → Nat → Nat → Int}, pl' < 3 → ¬ (pl < 3 ∧ vd_ar pl x y w h i j) → vd_rect K pl' (vd_cu pl' * x) (vd_cu pl' * y) (vd_cu pl' * w) (vd_cu pl' * h) (fun _ _ => 1) pl i j = K pl i j := fun h3 hne => vd_rect_out fun ⟨e, a1, a2, a3, a4⟩ => hne (by subst e; exact ⟨h3, a1, a2, a3, a4⟩)
  have pb : ∀ {pl : Nat} {P : Nat → Nat → Nat → Int}, (∀ pl x y, 0 ≤ P pl x y ∧ P pl x y ≤ 255) → ∀ c a d, 0 ≤ vd_rect P pl (vd_us pl * x) (vd_us pl * y) (vd_us pl * w) (vd_us pl * h) (vd_vv R pw ph b pl) c a d ∧ vd_rect P pl (vd_us pl * x) (vd_us pl * y) (vd_us pl * w) (vd_us pl * h) (vd_vv R pw ph b pl) c a d ≤ 255 := fun hP c a d => by
    unfold vd_rect
    split
    · exact vd_vv_b _ _ _ _ _ _ _
    · exact hP c a d
  obtain ⟨f1, g1, e1, t1, k1, F1, G1⟩ := vd_predP (pl := 0) hM hN hp hq hnow k ka kb (by decide) hnb bb ib hx hy hRb p0 q0 h95 h96 (fun i j a => hK 0 i j (by decide) a) vd_U
  have ka1 := ka.keep hM hp F1
  have kb1 := kb.keep hq (fun c i a1 a2 a3 a4 => G1 c i a1 (by omega))
  obtain ⟨f2, g2, e2, t2, k2, F2, G2⟩ := vd_predP (pl := 1) hM hN hp hq hnow k1 ka1 kb1 (by decide) hnb bb ib hx hy hRb p0 q0 (by rw [G1 _ _ (by omega) (by omega)]; exact h95) (by rw [G1 _ _ (by omega) (by omega)]; exact h96) (fun i j a => by rw [r0 (by decide)]; exact hK 1 i j (by decide) a) (.int (vd_I ((vd_us 0 : Nat) : Int)))
  have ka2 := ka1.keep hM hp F2
  have kb2 := kb1.keep hq (fun c i a1 a2 a3 a4 => G2 c i a1 (by omega))
  obtain ⟨f3, g3, e3, t3, k3, F3, G3⟩ := vd_predP (pl := 2) hM hN hp hq hnow k2 ka2 kb2 (by decide) hnb bb ib hx hy hRb p0 q0 (by rw [G2 _ _ (by omega) (by omega), G1 _ _ (by omega) (by omega)]; exact h95) (by rw [G2 _ _ (by omega) (by omega), G1 _ _ (by omega) (by omega)]; exact h96) (fun i j a => by rw [r0 (by decide), r0 (by decide)]; exact hK 2 i j (by decide) a) (.int (vd_I ((vd_us 1 : Nat) : Int)))
  refine ⟨f3, g3, _, _, fun x1 x2 x3 x4 x5 a7 d Q => ?_, fun x1 x2 x3 x4 x5 d Q => ?_, k3, pb (pb (pb hPb)), fun pl i j h3 ha => ?_, fun pl i j hn => ?_, fun c i a1 a2 a3 a4 a5 => by rw [F3 c i a1 a2 a3 a4 a5, F2 c i a1 a2 a3 a4 a5, F1 c i a1 a2 a3 a4 a5], fun c i a1 a2 => by rw [G3 c i a1 a2, G2 c i a1 a2, G1 c i a1 a2]⟩
  · have z0 : ((0 : Nat) : Int) = 0 := rfl
    have z1 : ((0 + 1 : Nat) : Int) = ((1 : Nat) : Int) := rfl
    have z2 : ((1 + 1 : Nat) : Int) = ((2 : Nat) : Int) := rfl
    have z3 : ((2 + 1 : Nat) : Int) = 3 := rfl
    rw [z0, z1] at e1
    rw [z2] at e2
    rw [z3] at e3
    simp (disch := first | assumption | omega) only [vd_S67_183 hM, vd_S67_188 hM, vd_S67_200 hM, here, h44, vd_vr_some, vd_S104_0 hM, vd_I_toInt, show ¬ ((1 : Int) = 0) by decide, if_false]
    rw [e1, e2, e3, vd_S104_11 hM]
    simp (disch := first | assumption | omega) only [vd_S104_171 hM, vd_I_toInt, Int.lt_irrefl, if_false, vd_rs_v, vd_rs_n]
  · have z0 : ((0 : Nat) : Int) = 0 := rfl
    have z1 : ((0 + 1 : Nat) : Int) = ((1 : Nat) : Int) := rfl
    have z2 : ((1 + 1 : Nat) : Int) = ((2 : Nat) : Int) := rfl
    have z3 : ((2 + 1 : Nat) : Int) = 3 := rfl
    rw [z0, z1] at t1
    rw [z2] at t2
    rw [z3] at t3
    simp (disch := first | assumption | omega) only [vd_S196_239 hN, vd_S196_246 hN, h111, vd_I_toInt, show ¬ ((1 : Int) = 0) by decide, if_false]
    rw [t1, t2, t3, vd_S196_249 hN]
    simp (disch := first | assumption | omega) only [vd_I_toInt, Int.lt_irrefl, if_false]
  · have : pl = 0 ∨ pl = 1 ∨ pl = 2 := by omega
    rcases this with rfl | rfl | rfl
    · rw [r0 (by decide), r0 (by decide), r1 ha]
    · rw [r0 (by decide), r1 ha]
    · rw [r1 ha]
  · rw [r2 (by decide) hn, r2 (by decide) hn, r2 (by decide) hn]
end VDPR
