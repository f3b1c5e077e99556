/-! ===== sizes ===== -/
section VDHZ
variable {M N : vd_M} {ow fa lo lf : Nat}
theorem vd_U31 (hM : vd_SC M ow fa lo lf) (n : Nat) {x : Int} (x0 : 0 ≤ x) (x1 : x ≤ 8) : vd_UC M vd_Tn n 31 0 [.ref 16, .int (vd_I x)] [] := fun f p e b hp hb => by
  obtain ⟨f', q1, q2, q3⟩ := vd_meetU hM hp x0 x1
  rw [if_neg hb] at q2
  exact ⟨f', p, (), fun d Q => q1 (d + n) Q, q2, q3.hd⟩
theorem vd_B176 (hN : vd_SR N) (n : Nat) {x y : Int} (x0 : 0 ≤ x) (x1 : x ≤ 8) (y0 : y = 0 ∨ y = 1) : vd_BH N (fun _ : Unit => vd_TR) n 176 0 [.ref 63, .int (vd_I y), .int (vd_I x)] [] := fun g p e b hq hb => by
  obtain ⟨g', q1, q2, q3⟩ := vd_needU hN hq x0 x1 y0
  rw [if_neg (fun h => hb h.1)] at q2
  exact ⟨g', (), fun d Q => q1 (d + n) Q, q2, q3.hd⟩
section VDHZ2
variable {β α : Type} {T : β → vd_Tg} {U : α → vd_Tg} {m n k pc pc1 m' n' k' pc' pc1' : Nat} {ls st ls1 st1 ls' st' ls1' st1' : List Value} {V : vd_M → β → α → Int → (Nat → Nat → Int32) → (Nat → Nat → Int32) → Prop} {f g f1 g1 : Nat → Nat → Int32} {p e x : Int}
/-- both meet the same fault -/
theorem vd_HP.bad (hM : vd_SC M ow fa lo lf) (hN : vd_SR N) (x0 : 1 ≤ x) (x1 : x ≤ 8) (hf : vd_fU f f1) (hg : vd_gU g g1) (hp : vd_pb f p e 0) (hq : vd_qb g p e 0) (u : vd_UC M T m k pc1 ls1 st1) (v : vd_BH N U m' k' pc1' ls1' st1') (h : ∀ d Q, vd_wp (d + m) k pc ls st (vd_mf M f) Q = vd_wp (d + n) 31 0 [.ref 16, .int (vd_I x)] [] (vd_mf M f1) (fun M1 r => vd_rs r st1 (fun st => vd_wp (d + m) k pc1 ls1 st M1 Q))) (h' : ∀ d Q, vd_wp (d + m') k' pc' ls' st' (vd_mf N g) Q = vd_wp (d + n') 176 0 [.ref 63, .int (vd_I 0), .int (vd_I x)] [] (vd_mf N g1) (fun M1 r => vd_rs r st1' (fun st => vd_wp (d + m') k' pc1' ls1' st M1 Q))) : vd_HP M N T U m k pc ls st m' k' pc' ls' st' e V f g := by
  obtain ⟨f2, a1, a2, a3⟩ := vd_meetU hM (hp.keepU hf.2) (x := x) (by omega) x1
  obtain ⟨g2, b1, b2, b3⟩ := vd_needU hN (hq.keepU hg.2) (x := x) (y := 0) (by omega) x1 (Or.inl rfl)
  rw [if_pos rfl] at a2
  rw [if_pos ⟨rfl, rfl⟩] at b2
  obtain ⟨f', g', N', z, a, p', t, b, q1, q2, q3, q4, q5, q6, q7, q8⟩ := vd_HP.fault (V := V) u v a2 b2 (show x ≠ 0 by omega)
  exact ⟨f', g', N', z, a, p', t, b, fun d Q => by rw [h, a1, vd_rs_n, q1], fun d Q => by rw [h', b1, vd_rs_n, q2], q3, q4, q5, (hf.1.trans a3.hd).trans q6, (hg.1.trans b3.hd).trans q7, q8⟩
/-- what is needed is there: the reference alone asks -/
theorem vd_HP.ok (hN : vd_SR N) (x0 : 0 ≤ x) (x1 : x ≤ 8) (hg : vd_gU g g1) (hq : vd_qb g p e 0) (h' : ∀ d Q, vd_wp (d + m') k' pc' ls' st' (vd_mf N g) Q = vd_wp (d + n') 176 0 [.ref 63, .int (vd_I 1), .int (vd_I x)] [] (vd_mf N g1) (fun M1 r => vd_rs r st1' (fun st => vd_wp (d + m') k' pc1' ls1' st M1 Q))) (c : ∀ g2 : Nat → Nat → Int32, vd_qb g2 p e 0 → vd_gP g1 g2 → vd_HP M N T U m k pc ls st m' k' pc1' ls1' st1' e V f g2) : vd_HP M N T U m k pc ls st m' k' pc' ls' st' e V f g := by
  obtain ⟨g2, b1, b2, b3⟩ := vd_needU hN (hq.keepU hg.2) (x := x) (y := 1) x0 x1 (Or.inr rfl)
  rw [if_neg (fun h => absurd h.2 (by decide))] at b2
  obtain ⟨f', g', N', z, a, p', t, b, q1, q2, q3, q4, q5, q6, q7, q8⟩ := c g2 b2 b3
  exact ⟨f', g', N', z, a, p', t, b, q1, fun d Q => by rw [h', b1, vd_rs_n, q2], q3, q4, q5, q6, (hg.1.trans b3.hd).trans q7, q8⟩
end VDHZ2
theorem vd_U34 (hM : vd_SC M ow fa lo lf) : (∀ r, vd_bnP 8 r → vd_UC M vd_Tn 4 34 7 [.ref 17, .ref 16] [.int (vd_I r), .ref 17]) ∧ (∀ r, vd_bnP 8 r → vd_UC M vd_Tn 4 34 19 [.ref 17, .ref 16] [.int (vd_I r), .ref 17]) ∧ vd_UC M vd_Tn 4 34 49 [.ref 17, .ref 16] [] := by
  have u49 : vd_UC M vd_Tn 4 34 49 [.ref 17, .ref 16] [] := vd_UC.ret () vd_okI (fun d f Q => by simp only [vd_S34_49 hM, vd_Tn, vd_TR])
  have u44 : vd_UC M vd_Tn 4 34 44 [.ref 17, .ref 16] [] := vd_UC.call (vd_U31 hM 3 (x := 4) (by decide) (by decide)) vd_okI u49 (fun d f Q => by simp only [vd_S34_44 hM, vd_S34_46 hM])
  have u34 : vd_UC M vd_Tn 4 34 34 [.ref 17, .ref 16] [] := vd_UC.or vd_okI u44 u49 (fun f => by
    by_cases c : (vd_I 192).toInt < (f 17 6).toInt
    · exact Or.inl (fun d Q => by simp only [vd_S34_34 hM, c, if_true])
    · exact Or.inr (fun d Q => by simp only [vd_S34_34 hM, c, if_false]))
  have u19 : ∀ r, vd_bnP 8 r → vd_UC M vd_Tn 4 34 19 [.ref 17, .ref 16] [.int (vd_I r), .ref 17] := fun r _ => vd_UC.or (vd_ok1 (c := 17) (i := 6) (v := vd_I (r + 1)) (by omega)) u44 u34 (fun f => by
    by_cases c : (vd_I 192).toInt < (f 17 5).toInt
    · exact Or.inl (fun d Q => by simp only [vd_S34_19 hM, c, if_true, vd_I_add])
    · exact Or.inr (fun d Q => by simp only [vd_S34_19 hM, c, if_false, vd_I_add]))
  exact ⟨fun r _ => vd_UC.ask (vd_U30 hM 3 8 (by decide) (by decide)) (vd_ok1 (c := 17) (i := 5) (v := vd_I (r + 1)) (by omega)) u19 (fun d f Q => by simp only [vd_S34_7 hM, vd_S34_16 hM, vd_I_add]), u19, u49⟩
theorem vd_U34w (hM : vd_SC M ow fa lo lf) : vd_UC M vd_Tn 4 34 0 [.ref 17, .ref 16] [] := vd_UC.ask (vd_U30 hM 3 8 (by decide) (by decide)) vd_okI (vd_U34 hM).1 (fun d f Q => by simp only [vd_S34_0 hM, vd_S34_4 hM])
theorem vd_B179 (hN : vd_SR N) : (∀ s, vd_bnP 8 s → vd_BH N (fun _ : Unit => vd_TR) 3 179 7 [.ref 63] [.int (vd_I s), .ref 63]) ∧ (∀ s, vd_bnP 8 s → vd_BH N (fun _ : Unit => vd_TR) 3 179 19 [.ref 63] [.int (vd_I s), .ref 63]) ∧ vd_BH N (fun _ : Unit => vd_TR) 3 179 54 [.ref 63] [] := by
  have b54 : vd_BH N (fun _ : Unit => vd_TR) 3 179 54 [.ref 63] [] := vd_BH.ret () vd_okJ (fun d f Q _ => by simp only [vd_S179_54 hN, vd_TR])
  have b49 : vd_BH N (fun _ : Unit => vd_TR) 3 179 49 [.ref 63] [.ref 63] := vd_BH.call (vd_B176 hN 2 (x := 4) (y := 0) (by decide) (by decide) (Or.inl rfl)) vd_okJ b54 (fun d f Q _ => by simp only [vd_S179_49 hN, vd_S179_50 hN, vd_S179_51 hN])
  have b45 : vd_BH N (fun _ : Unit => vd_TR) 3 179 45 [.ref 63] [.ref 63] := vd_BH.call (vd_B176 hN 2 (x := 4) (y := 1) (by decide) (by decide) (Or.inr rfl)) vd_okJ b54 (fun d f Q _ => by simp only [vd_S179_45 hN, vd_S179_50 hN, vd_S179_51 hN])
  have b35 : vd_BH N (fun _ : Unit => vd_TR) 3 179 35 [.ref 63] [.ref 63] := vd_BH.or vd_okJ b49 b45 (fun f => by
    by_cases c : (vd_I 192).toInt < (f 63 25).toInt
    · exact Or.inl (fun d Q => by simp only [vd_S179_35 hN, c, if_true])
    · exact Or.inr (fun d Q => by simp only [vd_S179_35 hN, c, if_false]))
  have b19 : ∀ s, vd_bnP 8 s → vd_BH N (fun _ : Unit => vd_TR) 3 179 19 [.ref 63] [.int (vd_I s), .ref 63] := fun s _ => vd_BH.or (vd_okg1 (c := 63) (i := 25) (v := vd_I (s + 1)) (by unfold vd_inH; omega) (by omega)) b49 b35 (fun f => by
    by_cases c : (vd_I 192).toInt < (f 63 24).toInt
    · exact Or.inl (fun d Q => by simp only [vd_S179_19 hN, c, if_true, vd_I_add])
    · exact Or.inr (fun d Q => by simp only [vd_S179_19 hN, c, if_false, vd_I_add]))
  exact ⟨fun s _ => vd_BH.ask (vd_B175 hN 2 8 (by decide) (by decide)) (vd_okg1 (c := 63) (i := 24) (v := vd_I (s + 1)) (by unfold vd_inH; omega) (by omega)) (b19 0 (by unfold vd_bnP; decide)) (fun d f Q _ => by simp only [vd_S179_7 hN, vd_S179_16 hN, vd_I_add]), b19, b54⟩
theorem vd_B179w (hN : vd_SR N) : vd_BH N (fun _ : Unit => vd_TR) 3 179 0 [.ref 63] [] := vd_BH.ask (vd_B175 hN 2 8 (by decide) (by decide)) vd_okJ ((vd_B179 hN).1 0 (by unfold vd_bnP; decide)) (fun d f Q _ => by simp only [vd_S179_0 hN, vd_S179_4 hN])
def vd_VZ (N : vd_M) (f g : Nat → Nat → Int32) : vd_M → Unit → Unit → Int → (Nat → Nat → Int32) → (Nat → Nat → Int32) → Prop := fun N' _ _ _ f' g' => N' = N ∧ (∃ w h : Int, (1 ≤ w ∧ w ≤ 192 ∧ 1 ≤ h ∧ h ≤ 192) ∧ (f' 17 5 = vd_I w ∧ f' 17 6 = vd_I h) ∧ (g' 63 24 = vd_I w ∧ g' 63 25 = vd_I h)) ∧ (∀ c j, ¬ (c = 16 ∧ (j = 1 ∨ j = 3)) → ¬ (c = 17 ∧ (j = 5 ∨ j = 6)) → f' c j = f c j) ∧ (∀ c j, ¬ (c = 63 ∧ (j = 74 ∨ j = 76 ∨ j = 24 ∨ j = 25)) → g' c j = g c j)
/-- readWidthAndHeight and sizes -/
theorem vd_H34 (hM : vd_SC M ow fa lo lf) (hN : vd_SR N) {f g : Nat → Nat → Int32} {p e : Int} (hT : vd_RT f g) (hp : vd_pb f p e 0) (hq : vd_qb g p e 0) : vd_HP M N vd_Tn (fun _ : Unit => vd_TR) 4 34 0 [.ref 17, .ref 16] [] 3 179 0 [.ref 63] [] e (vd_VZ N f g) f g := by
  obtain ⟨u7, u19, u49⟩ := vd_U34 hM
  obtain ⟨b7, b19, b54⟩ := vd_B179 hN
  refine vd_HP.ask (vd_Q30 hM hN 3 2 8 (by decide) (by decide)) (vd_fU.refl f) (vd_gU.refl g) hT hp hq u7 b7 (fun d Q => by simp only [vd_S34_0 hM, vd_S34_4 hM]) (fun d Q => by simp only [vd_S179_0 hN, vd_S179_4 hN]) (fun f1 g1 p1 w hw hT1 hp1 hq1 F1 G1 => ?_)
  have hw := hw.n (z := 256) (by decide)
  refine vd_HP.ask (f1 := vd_up f1 17 5 (vd_I (w + 1))) (g1 := vd_up g1 63 24 (vd_I (w + 1))) (vd_Q30 hM hN 3 2 8 (by decide) (by decide)) ((vd_fU.refl f1).up (by omega)) ((vd_gU.refl g1).up (by unfold vd_inH; omega) (by omega)) hT1 hp1 hq1 u19 b19 (fun d Q => by simp only [vd_S34_7 hM, vd_S34_16 hM, vd_I_add]) (fun d Q => by simp only [vd_S179_7 hN, vd_S179_16 hN, vd_I_add]) (fun f2 g2 p2 h hh hT2 hp2 hq2 F2 G2 => ?_)
  have hh := hh.n (z := 256) (by decide)
  have fw : f2 17 5 = vd_I (w + 1) := by rw [F2 17 5 (by omega), vd_up_eq]
  have gw : g2 63 24 = vd_I (w + 1) := by rw [G2 63 24 (by omega), vd_up_eq]
  have hf : vd_fU f2 (vd_up f2 17 6 (vd_I (h + 1))) := (vd_fU.refl f2).up (by omega)
  have hg : vd_gU g2 (vd_up g2 63 25 (vd_I (h + 1))) := (vd_gU.refl g2).up (by unfold vd_inH; omega) (by omega)
  by_cases c1 : 192 < w + 1
  · refine vd_HP.bad (n := 3) (n' := 2) hM hN (x := 4) (by decide) (by decide) hf hg hp2 hq2 u49 b54 (fun d Q => ?_) (fun d Q => ?_)
    · simp (disch := omega) only [vd_S34_19 hM, vd_S34_44 hM, vd_S34_46 hM, fw, vd_I_toInt, c1, if_true, vd_I_add]
    · simp (disch := omega) only [vd_S179_19 hN, vd_S179_49 hN, vd_S179_50 hN, vd_S179_51 hN, gw, vd_I_toInt, c1, if_true, vd_I_add]
  · by_cases c2 : 192 < h + 1
    · refine vd_HP.bad (n := 3) (n' := 2) hM hN (x := 4) (by decide) (by decide) hf hg hp2 hq2 u49 b54 (fun d Q => ?_) (fun d Q => ?_)
      · simp (disch := omega) only [vd_S34_19 hM, vd_S34_34 hM, vd_S34_44 hM, vd_S34_46 hM, fw, vd_up_eq, vd_I_toInt, c1, c2, if_true, if_false, vd_I_add]
      · simp (disch := omega) only [vd_S179_19 hN, vd_S179_35 hN, vd_S179_49 hN, vd_S179_50 hN, vd_S179_51 hN, gw, vd_up_eq, vd_I_toInt, c1, c2, if_true, if_false, vd_I_add]
    · refine vd_HP.ok (n' := 2) (pc1' := 54) (ls1' := [.ref 63]) (st1' := []) hN (x := 4) (by decide) (by decide) hg hq2 (fun d Q => ?_) (fun g3 hq3 G3 => ?_)
      · simp (disch := omega) only [vd_S179_19 hN, vd_S179_35 hN, vd_S179_45 hN, vd_S179_50 hN, vd_S179_51 hN, gw, vd_up_eq, vd_I_toInt, c1, c2, if_false, vd_I_add]
      refine vd_HP.ret () () hf (vd_gU.refl g3) hp2 hq3 ⟨rfl, ⟨w + 1, h + 1, by omega, ⟨by rw [vd_up_ne (by omega)]; exact fw, vd_up_eq _ _ _ _⟩, ⟨by rw [G3 63 24 (by omega), vd_up_ne (by omega)]; exact gw, by rw [G3 63 25 (by omega), vd_up_eq]⟩⟩, fun c j q1 q2 => by rw [vd_up_ne (by omega), F2 c j q1, vd_up_ne (by omega), F1 c j q1], fun c j q1 => by rw [G3 c j (by omega), vd_up_ne (by omega), G2 c j (by omega), vd_up_ne (by omega), G1 c j (by omega)]⟩ (fun d Q => ?_) (fun d Q => ?_)
      · simp (disch := omega) only [vd_S34_19 hM, vd_S34_34 hM, vd_S34_49 hM, vd_Tn, vd_TR, fw, vd_up_eq, vd_I_toInt, c1, c2, if_false, vd_I_add]
      · simp only [vd_S179_54 hN, vd_TR]
end VDHZ
