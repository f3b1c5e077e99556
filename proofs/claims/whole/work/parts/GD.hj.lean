/-! ===== a frame's header: both ===== -/
section VDHD
variable {M N : vd_M} {ow fa lo lf : Nat}
/-- what the first half of the header gives -/
def vd_Kh (M N N0 : vd_M) (f g : Nat → Nat → Int32) (sho rs kd rfr w h : Int) : Prop := ((sho = 0 ∨ sho = 1) ∧ (rs = 0 ∨ rs = 1) ∧ (0 ≤ kd ∧ kd ≤ 2) ∧ (0 ≤ rfr ∧ rfr ≤ 255) ∧ (1 ≤ w ∧ w ≤ 192 ∧ 1 ≤ h ∧ h ≤ 192)) ∧ (f 17 0 = vd_I 0 ∧ f 17 2 = vd_I sho ∧ f 17 3 = vd_I rs ∧ f 17 4 = vd_I kd ∧ f 17 5 = vd_I w ∧ f 17 6 = vd_I h ∧ f 17 7 = vd_I rfr) ∧ (g 63 24 = vd_I w ∧ g 63 25 = vd_I h ∧ g 63 33 = vd_I (if kd = 2 then 0 else 1) ∧ g 63 77 = vd_I rfr ∧ g 63 79 = vd_I sho ∧ g 63 80 = vd_I rs ∧ g 63 83 = vd_I (if kd = 1 then 1 else 0) ∧ g 63 84 = vd_I (if kd = 0 then 1 else 0)) ∧ (kd = 2 → ∃ fi ke : Int, ((fi = 0 ∨ fi = 1) ∧ 0 ≤ ke ∧ ke ≤ 2) ∧ (f 17 10 = vd_I fi ∧ f 17 11 = vd_I ke ∧ g 63 34 = vd_I fi ∧ g 63 40 = vd_I ke) ∧ ∀ j, j < 3 → vd_rf M N f g j w h) ∧ (kd ≠ 2 → N = N0)
theorem vd_Kh.keep {N0 : vd_M} {f g f' g' : Nat → Nat → Int32} {sho rs kd rfr w h : Int} (k : vd_Kh M N N0 f g sho rs kd rfr w h) (hf : ∀ c j, (c = 17 ∧ j ≤ 11) ∨ c = 18 ∨ c = 19 ∨ 197 ≤ c → f' c j = f c j) (hg : ∀ c j, (c = 63 ∧ (j = 24 ∨ j = 25 ∨ j = 33 ∨ j = 34 ∨ j = 40 ∨ j = 77 ∨ j = 79 ∨ j = 80 ∨ j = 83 ∨ j = 84)) ∨ c = 84 ∨ 129 ≤ c → g' c j = g c j) : vd_Kh M N N0 f' g' sho rs kd rfr w h := by
  obtain ⟨a, ⟨b1, b2, b3, b4, b5, b6, b7⟩, ⟨c1, c2, c3, c4, c5, c6, c7, c8⟩, d, e⟩ := k
  have F : ∀ c j, (c = 17 ∧ j ≤ 11) ∨ c = 18 ∨ c = 19 ∨ 197 ≤ c → ∀ v, f c j = v → f' c j = v := fun c j q v x => by rw [hf c j q]; exact x
  have G : ∀ c j, (c = 63 ∧ (j = 24 ∨ j = 25 ∨ j = 33 ∨ j = 34 ∨ j = 40 ∨ j = 77 ∨ j = 79 ∨ j = 80 ∨ j = 83 ∨ j = 84)) ∨ c = 84 ∨ 129 ≤ c → ∀ v, g c j = v → g' c j = v := fun c j q v x => by rw [hg c j q]; exact x
  refine ⟨a, ⟨F _ _ (by omega) _ b1, F _ _ (by omega) _ b2, F _ _ (by omega) _ b3, F _ _ (by omega) _ b4, F _ _ (by omega) _ b5, F _ _ (by omega) _ b6, F _ _ (by omega) _ b7⟩, ⟨G _ _ (by omega) _ c1, G _ _ (by omega) _ c2, G _ _ (by omega) _ c3, G _ _ (by omega) _ c4, G _ _ (by omega) _ c5, G _ _ (by omega) _ c6, G _ _ (by omega) _ c7, G _ _ (by omega) _ c8⟩, fun q => ?_, e⟩
  obtain ⟨fi, ke, x1, ⟨x2, x3, x4, x5⟩, x6⟩ := d q
  exact ⟨fi, ke, x1, ⟨F _ _ (by omega) _ x2, F _ _ (by omega) _ x3, G _ _ (by omega) _ x4, G _ _ (by omega) _ x5⟩, fun j hj => (x6 j hj).keep (fun c i q1 _ => hf c i (by omega)) (fun c i q1 _ => hg c i (by omega)) (fun _ => rfl) (fun _ => rfl) rfl⟩
def vd_VH (M N0 : vd_M) (f0 g0 : Nat → Nat → Int32) (to : Int) : vd_M → Unit → Nat × Int32 × Int32 × Int32 → Int → (Nat → Nat → Int32) → (Nat → Nat → Int32) → Prop := fun N' _ a _ f' g' => (a.1 = 1 ∧ N' = N0 ∧ (∃ s : Nat, s < 8 ∧ vd_r M 13 s ≠ none ∧ a.2.1 = vd_I (s : Int) ∧ f' 17 0 = vd_I 1 ∧ f' 17 1 = vd_I (s : Int)) ∧ (∀ c j, ¬ (c = 16 ∧ (j = 1 ∨ j = 3)) → ¬ (c = 17 ∧ j ≤ 1) → f' c j = f0 c j) ∧ (∀ c j, ¬ (c = 63 ∧ (j = 74 ∨ j = 76)) → g' c j = g0 c j)) ∨ (a.1 = 2 ∧ vd_SR N' ∧ ∃ sho rs kd rfr w h kp fx cx ln at_ : Int, vd_Kh M N' N0 f' g' sho rs kd rfr w h ∧ ((kp = 0 ∨ kp = 1) ∧ (fx = 0 ∨ fx = 1) ∧ (0 ≤ cx ∧ cx ≤ 3) ∧ 1 ≤ ln ∧ 0 ≤ at_ ∧ at_ + ln < to) ∧ (f' 17 12 = vd_I kp ∧ f' 17 13 = vd_I fx ∧ f' 17 14 = vd_I cx ∧ f' 17 15 = vd_I at_ ∧ f' 17 16 = vd_I (at_ + ln)) ∧ (g' 63 81 = vd_I kp ∧ g' 63 82 = vd_I fx ∧ g' 63 78 = vd_I cx) ∧ vd_SET (if kd = 2 ∧ rs = 0 then f0 else vd_fgt f0) f' g' ∧ (a.2.2.1 = vd_I ln ∧ a.2.2.2 = vd_I at_))
/-- the second half -/
theorem vd_H29c (hM : vd_SC M ow fa lo lf) (hN : vd_SR N) {N0 : vd_M} {f0 g0 f g : Nat → Nat → Int32} {p to : Int} {sho rs kd rfr w h : Int} (t0 : 0 ≤ to) (t1 : to ≤ 65536) (x5 : Int32) (hT : vd_RT f g) (hp : vd_pb f p (8 * to) 0) (hq : vd_qb g p (8 * to) 0) (k : vd_Kh M N N0 f g sho rs kd rfr w h) (hb : ∀ c j, 27 ≤ c → c ≤ 33 → f c j = f0 c j) : vd_HP M N vd_Tn vd_T174 5 29 139 [.ref 17, .ref 16, .ref 13, .ref 27, .int (vd_I to), .int x5, vd_U] [] 4 174 202 [.ref 63, .int x5, vd_U, vd_U] [] (8 * to) (vd_VH M N0 f0 g0 to) f g := by
  obtain ⟨u139, u144, u152, u161, u173, u179, u220⟩ := vd_U29b hM (vd_I to)
  obtain ⟨b285, b245, b239, b224, b215, b207, b202⟩ := vd_B174b hN
  refine vd_HP.ask (vd_Q32 hM hN 4 3 (by decide) (by decide)) (vd_fU.refl f) (vd_gU.refl g) hT hp hq (u144 x5 vd_U) (b207 x5 vd_U vd_U) (fun d Q => by simp only [vd_S29_139 hM, vd_S29_141 hM]) (fun d Q => by simp only [vd_S174_202 hN, vd_S174_204 hN]) (fun f1 g1 p1 kp hkp hT1 hp1 hq1 F1 G1 => ?_)
  have ok1 : vd_fok .boolean (vd_I kp) = true := by rcases hkp with rfl | rfl <;> decide
  refine vd_HP.ask (f1 := vd_up f1 17 12 (vd_I kp)) (g1 := vd_up g1 63 81 (vd_I kp)) (vd_Q32 hM hN 4 3 (by decide) (by decide)) ((vd_fU.refl f1).up (by omega)) ((vd_gU.refl g1).up (by unfold vd_inH; omega) (by omega)) hT1 hp1 hq1 (u152 x5 vd_U) (b215 x5 vd_U vd_U) (fun d Q => by simp (disch := assumption) only [vd_S29_144 hM, vd_S29_149 hM]) (fun d Q => by simp (disch := assumption) only [vd_S174_207 hN, vd_S174_212 hN]) (fun f2 g2 p2 fx hfx hT2 hp2 hq2 F2 G2 => ?_)
  have ok2 : vd_fok .boolean (vd_I fx) = true := by rcases hfx with rfl | rfl <;> decide
  refine vd_HP.ask (f1 := vd_up f2 17 13 (vd_I fx)) (g1 := vd_up g2 63 82 (vd_I fx)) (vd_Q30 hM hN 4 3 2 (by decide) (by decide)) ((vd_fU.refl f2).up (by omega)) ((vd_gU.refl g2).up (by unfold vd_inH; omega) (by omega)) hT2 hp2 hq2 (u161 x5 vd_U) (b224 x5 vd_U vd_U) (fun d Q => by simp (disch := assumption) only [vd_S29_152 hM, vd_S29_158 hM]) (fun d Q => by simp (disch := assumption) only [vd_S174_215 hN, vd_S174_221 hN]) (fun f3 g3 p3 cx hcx hT3 hp3 hq3 F3 G3 => ?_)
  have hcx := hcx.n (z := 4) (by decide)
  have hf4 : vd_fU f3 (vd_up f3 17 14 (vd_I cx)) := (vd_fU.refl f3).up (by omega)
  have hg4 : vd_gU g3 (vd_up g3 63 78 (vd_I cx)) := (vd_gU.refl g3).up (by unfold vd_inH; omega) (by omega)
  have A4 : ∀ c j, ¬ (c = 16 ∧ (j = 1 ∨ j = 3)) → ¬ (c = 17 ∧ (12 ≤ j ∧ j ≤ 14)) → (vd_up f3 17 14 (vd_I cx)) c j = f c j := fun c j q1 q2 => by rw [vd_up_ne (by omega), F3 c j q1, vd_up_ne (by omega), F2 c j q1, vd_up_ne (by omega), F1 c j q1]
  have D4 : ∀ c j, ¬ (c = 63 ∧ (j = 74 ∨ j = 76 ∨ j = 78 ∨ j = 81 ∨ j = 82)) → (vd_up g3 63 78 (vd_I cx)) c j = g c j := fun c j q1 => by rw [vd_up_ne (by omega), G3 c j (by omega), vd_up_ne (by omega), G2 c j (by omega), vd_up_ne (by omega), G1 c j (by omega)]
  have k12 : (vd_up f3 17 14 (vd_I cx)) 17 12 = vd_I kp := by rw [vd_up_ne (by omega), F3 17 12 (by omega), vd_up_ne (by omega), F2 17 12 (by omega), vd_up_eq]
  have k13 : (vd_up f3 17 14 (vd_I cx)) 17 13 = vd_I fx := by rw [vd_up_ne (by omega), F3 17 13 (by omega), vd_up_eq]
  have k14 : (vd_up f3 17 14 (vd_I cx)) 17 14 = vd_I cx := vd_up_eq _ _ _ _
  have k81 : (vd_up g3 63 78 (vd_I cx)) 63 81 = vd_I kp := by rw [vd_up_ne (by omega), G3 63 81 (by omega), vd_up_ne (by omega), G2 63 81 (by omega), vd_up_eq]
  have k82 : (vd_up g3 63 78 (vd_I cx)) 63 82 = vd_I fx := by rw [vd_up_ne (by omega), G3 63 82 (by omega), vd_up_eq]
  have k78 : (vd_up g3 63 78 (vd_I cx)) 63 78 = vd_I cx := vd_up_eq _ _ _ _
  have kk := k.keep (f' := vd_up f3 17 14 (vd_I cx)) (g' := vd_up g3 63 78 (vd_I cx)) (fun c j q => A4 c j (by omega) (by omega)) (fun c j q => D4 c j (by omega))
  have hT4 := hT3.keepH hf4.1 hg4.1
  have hp4 := hp3.keepU hf4.2
  have hq4 := hq3.keepU hg4.2
  generalize hfe : vd_up f3 17 14 (vd_I cx) = f4 at *
  generalize hge : vd_up g3 63 78 (vd_I cx) = g4 at *
  have haf := fun d Q => vd_P36k (d := d) (Q := Q) hM kk.2.1.2.2.2.1 kk.1.2.2.1.1 kk.1.2.2.1.2 kk.2.1.2.2.1 kk.1.2.1
  have af01 : (if kd = 2 ∧ rs = 0 then (0 : Int) else 1) = 0 ∨ (if kd = 2 ∧ rs = 0 then (0 : Int) else 1) = 1 := by
    split
    · exact Or.inl rfl
    · exact Or.inr rfl
  refine vd_HP.seq (γ := Unit) (δ := Unit) (pc1 := 173) (lz := fun _ => [.ref 17, .ref 16, .ref 13, .ref 27, .int (vd_I to), .int x5, vd_U]) (sz := fun _ => []) (pc1' := 239) (ly := fun _ => [.ref 63, .int x5, vd_U, vd_U]) (sy := fun _ => []) (KC := fun d Q => fun M1 r => vd_rs r [] (fun st => vd_wp (d + 5) 29 173 [.ref 17, .ref 16, .ref 13, .ref 27, .int (vd_I to), .int x5, vd_U] st M1 Q)) (KR := fun d Q => Q) hf4 hg4 (vd_H37 hM hN af01 x5 vd_U vd_U hT4 hp4 hq4) (fun _ => u173 x5 vd_U) (fun N' y hn => (vd_B174b (hN.n3 hn)).2.2.1 x5 vd_U vd_U) (fun d Q => ?_) (fun d Q => ?_) (fun d Q z M' => rfl) (fun d Q y M' => rfl) ?_
  · simp only [vd_S29_161 hM, vd_S29_167 hM, hfe]
    rw [haf]
    simp only [vd_rs_v, vd_rs_n, vd_S29_170 hM]
  · simp only [vd_S174_224 hN, hge]
  rintro f5 g5 N5 z y p5 ⟨rfl, S5, A5, D5⟩ _ hp5 hq5 hF5 hG5
  have A5' : ∀ c j, ¬ (c = 16 ∧ (j = 1 ∨ j = 3)) → ¬ (27 ≤ c ∧ c ≤ 33) → f5 c j = f4 c j := fun c j q1 q2 => by
    rw [A5 c j q1 q2]
    split
    · rfl
    · exact vd_fgt_ne (by omega)
  have S5' : vd_SET (if kd = 2 ∧ rs = 0 then f0 else vd_fgt f0) f5 g5 := S5.keep (fun c j q => by
    have e : ∀ c j, 27 ≤ c → c ≤ 33 → f0 c j = f4 c j := fun c j a b => by rw [A4 c j (by omega) (by omega), hb c j a b]
    by_cases cc : kd = 2 ∧ rs = 0
    · rw [if_pos cc, if_pos (by rw [if_pos cc])]
      exact e c j (by omega) (by omega)
    · rw [if_neg cc, if_neg (by rw [if_neg cc]; decide)]
      unfold vd_fgt
      simp only [vd_up, vd_uf]
      rw [e c j (by omega) (by omega)]) (fun _ _ _ _ => rfl) (fun _ _ _ => rfl)
  have k5 := kk.keep (f' := f5) (g' := g5) (fun c j q => A5' c j (by omega) (by omega)) (fun c j q => D5 c j (by omega) (by omega) (by omega))
  refine vd_HP.ask (vd_Q30 hM hN 4 3 16 (by decide) (by decide)) (vd_fU.refl f5) (vd_gU.refl g5) (hT4.keepH hF5 hG5) hp5 hq5 (u179 x5 vd_U) (b245 x5 vd_U vd_U) (fun d Q => by simp only [vd_S29_173 hM, vd_S29_176 hM]) (fun d Q => by simp only [vd_S174_239 hN, vd_S174_242 hN]) (fun f6 g6 p6 ln hln hT6 hp6 hq6 F6 G6 => ?_)
  have hln := hln.n (z := 65536) (by decide)
  have pb6 := hp6
  obtain ⟨_, _, _, pp0, pp1, pp2, _, _⟩ := pb6
  have qb6 := hq6
  obtain ⟨g74, g75, g76, _⟩ := qb6
  have P45 := fun d Q => vd_P45 (d := d) (Q := Q) hM hp6
  have hat : ∃ at_ : Int, at_ = (p6 + 7) / 8 := ⟨_, rfl⟩
  obtain ⟨at_, hat⟩ := hat
  have at0 : 0 ≤ at_ ∧ at_ ≤ 65537 := by omega
  rw [← hat] at P45
  have g74' : (g6 63 74 + vd_I 7) / vd_I 8 = vd_I at_ := by rw [g74, vd_I_add, vd_I_div (by omega) (by omega) (by omega) (by omega), ← hat]
  have g75' : g6 63 75 / vd_I 8 = vd_I to := by rw [g75, vd_I_div (by omega) (by omega) (by omega) (by omega)]; congr 1; omega
  have hf7 : vd_fU f6 (vd_up (vd_up f6 17 15 (vd_I at_)) 17 16 (vd_I (at_ + ln))) := ((vd_fU.refl f6).up (by omega)).up (by omega)
  by_cases c1 : 0 < ln ∧ at_ + ln < to
  · refine vd_HP.ok (n' := 3) (pc1' := 285) (ls1' := [.ref 63, .int x5, .int (vd_I ln), .int (vd_I at_)]) (st1' := []) hN (x := 7) (by decide) (by decide) (vd_gU.refl g6) hq6 (fun d Q => ?_) (fun g7 hq7 G7 => ?_)
    · simp (disch := omega) only [vd_S174_245 hN, vd_S174_262 hN, vd_S174_275 hN, vd_S174_280 hN, vd_S174_282 hN, g74', g75', vd_I_add, vd_I_toInt, c1.1, c1.2, if_true]
    have FA : ∀ c j, ¬ (c = 16 ∧ (j = 1 ∨ j = 3)) → ¬ (c = 17 ∧ (j = 15 ∨ j = 16)) → (vd_up (vd_up f6 17 15 (vd_I at_)) 17 16 (vd_I (at_ + ln))) c j = f5 c j := fun c j q1 q2 => by rw [vd_up_ne (by omega), vd_up_ne (by omega), F6 c j q1]
    have GA : ∀ c j, ¬ (c = 63 ∧ (j = 74 ∨ j = 76)) → g7 c j = g5 c j := fun c j q1 => by rw [G7 c j q1, G6 c j q1]
    have hz : g7 63 76 = vd_I 0 := hq7.2.2.1
    refine vd_HP.ret () (2, x5, vd_I ln, vd_I at_) hf7 (vd_gU.refl g7) hp6 hq7 (Or.inr ⟨rfl, hN, sho, rs, kd, rfr, w, h, kp, fx, cx, ln, at_, k5.keep (fun c j q => FA c j (by omega) (by omega)) (fun c j q => GA c j (by omega)), ⟨hkp, hfx, by omega, by omega, by omega, c1.2⟩, ⟨?_, ?_, ?_, ?_, vd_up_eq _ _ _ _⟩, ⟨?_, ?_, ?_⟩, S5'.keep (fun _ _ _ => rfl) (fun c j q1 q2 => FA c j (by omega) (by omega)) (fun c j q => GA c j (by omega)), rfl, rfl⟩) (fun d Q => ?_) (fun d Q => ?_)
    · rw [FA 17 12 (by omega) (by omega), A5' 17 12 (by omega) (by omega)]; exact k12
    · rw [FA 17 13 (by omega) (by omega), A5' 17 13 (by omega) (by omega)]; exact k13
    · rw [FA 17 14 (by omega) (by omega), A5' 17 14 (by omega) (by omega)]; exact k14
    · rw [vd_up_ne (by omega), vd_up_eq]
    · rw [GA 63 81 (by omega), D5 63 81 (by omega) (by omega) (by omega)]; exact k81
    · rw [GA 63 82 (by omega), D5 63 82 (by omega) (by omega) (by omega)]; exact k82
    · rw [GA 63 78 (by omega), D5 63 78 (by omega) (by omega) (by omega)]; exact k78
    · simp (disch := omega) only [vd_S29_179 hM, vd_S29_183 hM, vd_S29_186 hM, vd_S29_205 hM, vd_S29_220 hM, P45, vd_rs_v, vd_rs_n, vd_I_add, vd_up_eq, vd_I_toInt, show ¬ (ln = 0) by omega, c1.2, if_true, if_false, vd_Tn, vd_TR]
    · rw [vd_T174_2 hz]
      simp (disch := omega) only [vd_S174_285 hN, hz, vd_I_toInt, eq_self, if_true]
  · refine vd_HP.bad (n := 4) (n' := 3) hM hN (x := 7) (by decide) (by decide) hf7 (vd_gU.refl g6) hp6 hq6 (u220 x5 (vd_I ln)) (b285 x5 (vd_I ln) (vd_I at_)) (fun d Q => ?_) (fun d Q => ?_)
    · by_cases c2 : ln = 0
      · simp (disch := omega) only [vd_S29_179 hM, vd_S29_183 hM, vd_S29_186 hM, vd_S29_214 hM, vd_S29_217 hM, P45, vd_rs_v, vd_rs_n, vd_I_add, vd_I_toInt, c2, eq_self, if_true]
      · simp (disch := omega) only [vd_S29_179 hM, vd_S29_183 hM, vd_S29_186 hM, vd_S29_205 hM, vd_S29_214 hM, vd_S29_217 hM, P45, vd_rs_v, vd_rs_n, vd_I_add, vd_up_eq, vd_I_toInt, c2, show ¬ (at_ + ln < to) by omega, if_false]
    · by_cases c2 : 0 < ln
      · simp (disch := omega) only [vd_S174_245 hN, vd_S174_262 hN, vd_S174_279 hN, vd_S174_280 hN, vd_S174_282 hN, g74', g75', vd_I_add, vd_I_toInt, c2, show ¬ (at_ + ln < to) by omega, if_true, if_false]
      · simp (disch := omega) only [vd_S174_245 hN, vd_S174_279 hN, vd_S174_280 hN, vd_S174_282 hN, g74', vd_I_toInt, c2, if_false]
end VDHD
