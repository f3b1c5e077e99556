/-! ===== the filter: the four lines of an edge ===== -/
def vd_FS (s q : Nat) (pw ph : Int) (P : Nat → Nat → Nat → Int) (f g : Nat → Nat → Int32) : Prop := vd_PSC s pw ph P f ∧ vd_PSR q pw ph P g ∧ (∀ pl x y, 0 ≤ P pl x y ∧ P pl x y ≤ 255) ∧ f 60 2 = g 63 129 ∧ g q 0 = vd_I pw
def vd_fFl (s : Nat) (f f' : Nat → Nat → Int32) : Prop := ∀ k j, k ≠ s → k ≠ 62 → ¬ (k = 60 ∧ (j = 2 ∨ (6 ≤ j ∧ j ≤ 9))) → f' k j = f k j
def vd_gFl (q : Nat) (g g' : Nat → Nat → Int32) : Prop := ∀ c k, c ≠ 128 → ¬ (q + 2 ≤ c ∧ c ≤ q + 4) → ¬ (c = 63 ∧ 129 ≤ k ∧ k ≤ 133) → g' c k = g c k
theorem vd_fFl.trans {s : Nat} {f f1 f2 : Nat → Nat → Int32} (h : vd_fFl s f f1) (h2 : vd_fFl s f1 f2) : vd_fFl s f f2 := fun k j a b c => by rw [h2 k j a b c, h k j a b c]
theorem vd_gFl.trans {q : Nat} {g g1 g2 : Nat → Nat → Int32} (h : vd_gFl q g g1) (h2 : vd_gFl q g1 g2) : vd_gFl q g g2 := fun k j a b c => by rw [h2 k j a b c, h k j a b c]
def vd_fqx (vt : Int) (x k : Nat) : Nat := if vt = 1 then x + k else x
def vd_fqy (vt : Int) (y k : Nat) : Nat := if vt = 1 then y else y + k
def vd_ost (pl : Nat) (vt : Int) : Int := if vt = 1 then 1 else (if pl = 0 then 192 else 96)
section VDF4
variable {M N : vd_M} {ow fa lo lf p s q pl x y : Nat} {pw ph vt m L lev sz n : Int}
theorem vd_four (hM : vd_SC M ow fa lo lf) (hN : vd_SR N) (hp : vd_PC M p s) (h605 : vd_r M 60 5 = some s) (hq : vd_PD N q) (hnow : vd_r N 63 23 = some q) (p0 : 1 ≤ pw ∧ pw ≤ 192) (q0 : 1 ≤ ph ∧ ph ≤ 192) (hpl : pl < 3) (hvt : vt = 0 ∨ vt = 1) (hsz : (sz = 0 ∧ n = 4 ∧ m = 4) ∨ (sz = 1 ∧ n = 8 ∧ m = 4) ∨ (sz = 2 ∧ n = 16 ∧ m = 8) ∨ (sz = 3 ∧ n = 32 ∧ m = 8)) (hxw : if vt = 1 then x + 4 ≤ vd_ws pl pw else m ≤ (x : Int) ∧ (x : Int) + m ≤ (vd_ws pl pw : Int)) (hyw : if vt = 1 then m ≤ (y : Int) ∧ (y : Int) + m ≤ (vd_ws pl ph : Int) else y + 4 ≤ vd_ws pl ph) (l0 : 1 ≤ lev ∧ lev ≤ 63) (hL : 0 ≤ L ∧ L ≤ 63) (x2 x3 x6 x7 x8 y5 y6 y7 y9 : Int32) : ∀ (r k : Nat) (f g : Nat → Nat → Int32) (P : Nat → Nat → Nat → Int), k + r = 4 → vd_FS s q pw ph P f g → (f 60 6 = vd_I lev ∧ f 60 7 = vd_I L ∧ f 60 8 = vd_I (2 * (lev + 2) + L)) → ∃ (f' g' : Nat → Nat → Int32) (P' : Nat → Nat → Nat → Int), (∀ d Q, vd_wp (d + 4) 138 166 [.ref 60, .int (vd_I (pl : Int)), .int x2, .int x3, .int (vd_I (vd_stp pl vt)), .int (vd_I (vd_ost pl vt)), .int x6, .int x7, .int x8, .int (vd_I n), .int (vd_I ((vd_ax pl x y : Nat) : Int)), .int (vd_I (k : Int))] [] (vd_mf M f) Q = vd_wp (d + 4) 138 201 [.ref 60, .int (vd_I (pl : Int)), .int x2, .int x3, .int (vd_I (vd_stp pl vt)), .int (vd_I (vd_ost pl vt)), .int x6, .int x7, .int x8, .int (vd_I n), .int (vd_I ((vd_ax pl x y : Nat) : Int)), .int (vd_I 4)] [] (vd_mf M f') Q) ∧ (∀ d Q, vd_wp (d + 5) 265 223 [.ref 63, .int (vd_I (pl : Int)), .int (vd_I (x : Int)), .int (vd_I (y : Int)), .int (vd_I vt), .int y5, .int y6, .int y7, .int (vd_I sz), .int y9, .int (vd_I lev), .int (vd_I L), .int (vd_I (k : Int))] [] (vd_mf N g) Q = Q (vd_mf N g') (.inl none)) ∧ vd_FS s q pw ph P' f' g' ∧ vd_fFl s f f' ∧ vd_gFl q g g' := by
  have hp' := hp.2.2
  have hqb := hq.2.2.2
  have wsb := (vd_ws_b (pl := pl) p0.1 p0.2).1
  have hsb := (vd_ws_b (pl := pl) q0.1 q0.2).1
  have sd2 : vd_sd pl ≤ 192 := by unfold vd_sd; split <;> omega
  intro r
  induction r with
  | zero =>
    intro k f g P hk fs hf
    have e : k = 4 := by omega
    subst e
    refine ⟨f, g, P, fun d Q => ?_, fun d Q => ?_, fs, fun _ _ _ _ _ => rfl, fun _ _ _ _ _ => rfl⟩
    · rw [vd_S138_166 hM]
      simp (disch := omega) only [vd_I_toInt, show ¬ (((4 : Nat) : Int) < 4) by decide, if_false]
      rfl
    · rw [vd_S265_223 hN]
      simp (disch := omega) only [vd_I_toInt, show ¬ (((4 : Nat) : Int) < 4) by decide, if_false, vd_S265_285 hN]
  | succ r ih =>
    intro k f g P hk fs hf
    obtain ⟨psc, psr, pb, cnt, gq⟩ := id fs
    have ck : (k : Int) < 4 := by omega
    have e1 : (k : Int) + 1 = ((k + 1 : Nat) : Int) := by omega
    have qxb : vd_fqx vt x k < 192 ∧ vd_fqy vt y k < 192 := by
      unfold vd_fqx vd_fqy
      rcases hvt with rfl | rfl
      · rw [if_neg (show ¬ ((0 : Int) = 1) by decide)] at hxw hyw
        simp only [if_neg (show ¬ ((0 : Int) = 1) by decide)]
        omega
      · rw [if_pos (show (1 : Int) = 1 from rfl)] at hxw hyw
        simp only [if_true]
        omega
    obtain ⟨f1, g1, P1, t1, u1, v1, v2, v3, v4, F1, G1⟩ := vd_lineQ (x := vd_fqx vt x k) (y := vd_fqy vt y k) (m := m) (n := n) (sz := sz) (E := 2 * (lev + 2) + L) hM hN hp h605 hq hnow psc psr pb p0 q0 hpl hvt qxb.1 qxb.2 hsz (fun i i0 i1 => by
      unfold vd_lx vd_ly vd_fqx vd_fqy
      rcases hvt with rfl | rfl
      · rw [if_neg (show ¬ ((0 : Int) = 1) by decide)] at hxw hyw
        simp only [if_neg (show ¬ ((0 : Int) = 1) by decide)]
        omega
      · rw [if_pos (show (1 : Int) = 1 from rfl)] at hxw hyw
        simp only [if_true]
        omega) gq hf.1 (by omega) hf.2.1 (by omega) hf.2.2 (by omega) cnt
    obtain ⟨f2, g2, P2, t2, u2, w1, F2, G2⟩ := ih (k + 1) f1 g1 P1 (by omega) ⟨v1, v2, v3, v4, by rw [G1 _ _ (by omega) (by omega) (by omega)]; exact gq⟩ ⟨by rw [F1 _ _ (by omega) (by omega) (by omega)]; exact hf.1, by rw [F1 _ _ (by omega) (by omega) (by omega)]; exact hf.2.1, by rw [F1 _ _ (by omega) (by omega) (by omega)]; exact hf.2.2⟩
    have eb : ((vd_ax pl x y : Nat) : Int) + (k : Int) * vd_ost pl vt = ((vd_ax pl (vd_fqx vt x k) (vd_fqy vt y k) : Nat) : Int) := by
      unfold vd_ost vd_fqx vd_fqy vd_ax
      rcases hvt with rfl | rfl
      · simp only [if_neg (show ¬ ((0 : Int) = 1) by decide)]
        split <;> omega
      · simp only [if_true]
        split <;> omega
    refine ⟨f2, g2, P2, fun d Q => ?_, fun d Q => ?_, w1, vd_fFl.trans (fun k j a b c => F1 k j a b (by omega)) F2, vd_gFl.trans G1 G2⟩
    · have cl : 0 < lev := by omega
      rw [← t2 d Q, vd_S138_166 hM]
      simp (disch := omega) only [vd_I_toInt, ck, if_true, vd_S138_172 hM, hf.1, cl, vd_S138_179 hM, vd_I_mul, vd_I_add, eb, vd_S138_192 hM, t1, vd_S138_195 hM, e1, vd_rs_v, vd_rs_n]
    · rw [← u2 d Q, vd_S265_223 hN]
      rcases hvt with rfl | rfl
      · have ex : vd_fqx 0 x k = x := if_neg (by decide)
        have ey : vd_fqy 0 y k = y + k := if_neg (by decide)
        have ec : (y : Int) + (k : Int) = ((y + k : Nat) : Int) := by omega
        rw [ex, ey] at u1
        simp (disch := omega) only [vd_I_toInt, ck, if_true, vd_S265_229 hN, vd_S265_243 hN, vd_S265_244 hN, vd_S265_253 hN, vd_S265_257 hN, vd_I_add, ec, vd_I_mul, vd_shr4, vd_S265_276 hN, u1, vd_S265_279 hN, e1, vd_rs_v, vd_rs_n]
      · have ex : vd_fqx 1 x k = x + k := if_pos rfl
        have ey : vd_fqy 1 y k = y := if_pos rfl
        have ec : (x : Int) + (k : Int) = ((x + k : Nat) : Int) := by omega
        rw [ex, ey] at u1
        simp (disch := omega) only [vd_I_toInt, ck, if_true, vd_S265_229 hN, show ¬ ((1 : Int) = 0) by decide, if_false, vd_S265_236 hN, vd_S265_244 hN, vd_S265_249 hN, vd_S265_257 hN, vd_I_add, ec, vd_I_mul, vd_shr4, vd_S265_276 hN, u1, vd_S265_279 hN, e1, vd_rs_v, vd_rs_n]
end VDF4
