/-! ===== the settings of a frame ===== -/
section VDHA
variable {M N : vd_M} {ow fa lo lf : Nat}
def vd_fgt (f : Nat → Nat → Int32) : Nat → Nat → Int32 := vd_up (vd_up (vd_up (vd_uf (vd_uf (vd_uf f 32 0 32 (vd_I 0)) 33 0 32 (vd_I 0)) 28 0 6 (vd_I 0)) 28 0 (vd_I 1)) 28 2 (vd_I (-1))) 28 3 (vd_I (-1))
theorem vd_fgtU (f : Nat → Nat → Int32) : vd_fU f (vd_fgt f) := (((vd_ufU (vd_ufU (vd_ufU (vd_fU.refl f) (by omega)) (by omega)) (by omega)).up (by omega)).up (by omega)).up (by omega)
theorem vd_fgt_ne {f : Nat → Nat → Int32} {c j : Nat} (h : c ≠ 28 ∧ c ≠ 32 ∧ c ≠ 33) : vd_fgt f c j = f c j := by
  unfold vd_fgt
  rw [vd_up_ne (by omega), vd_up_ne (by omega), vd_up_ne (by omega), vd_uf_ne (by omega), vd_uf_ne (by omega), vd_uf_ne (by omega)]
theorem vd_P38 (hM : vd_SC M ow fa lo lf) (f : Nat → Nat → Int32) (d : Nat) (Q : vd_M → (Option Value ⊕ Nat) → Prop) : vd_wp (d + 1) 38 0 [.ref 27] [] (vd_mf M f) Q = Q (vd_mf M (vd_fgt f)) (.inl none) := by
  have e1 := fun (f : Nat → Nat → Int32) (d : Nat) (Q : vd_M → (Option Value ⊕ Nat) → Prop) => vd_F286 (M := M) (d := d) (Q := Q) (f := f) (o := 32) (len := 32) (x := vd_I 0) (by decide) hM.k32 hM.l32 (by decide)
  have e2 := fun (f : Nat → Nat → Int32) (d : Nat) (Q : vd_M → (Option Value ⊕ Nat) → Prop) => vd_F286 (M := M) (d := d) (Q := Q) (f := f) (o := 33) (len := 32) (x := vd_I 0) (by decide) hM.k33 hM.l33 (by decide)
  have e3 := fun (f : Nat → Nat → Int32) (d : Nat) (Q : vd_M → (Option Value ⊕ Nat) → Prop) => vd_F286 (M := M) (d := d) (Q := Q) (f := f) (o := 28) (len := 6) (x := vd_I 0) (by decide) hM.k28 hM.l28 (by decide)
  simp (disch := omega) only [vd_S38_0 hM, vd_S38_5 hM, vd_S38_8 hM, vd_S38_13 hM, vd_S38_16 hM, vd_S38_21 hM, vd_S38_24 hM, vd_S38_30 hM, vd_S38_37 hM, vd_S38_44 hM, e1, e2, e3, vd_rs_v, vd_rs_n]
  rfl
theorem vd_U37s (hM : vd_SC M ow fa lo lf) (x2 : Int32) : vd_UC M vd_Tn 4 37 58 [.ref 27, .ref 16, .int x2, .int (vd_I 3)] [] := by
  have u63 : vd_UC M vd_Tn 4 37 63 [.ref 27, .ref 16, .int x2, .int (vd_I 3)] [] := vd_UC.ret () vd_okI (fun d f Q => by simp only [vd_S37_63 hM, vd_Tn, vd_TR])
  exact vd_UC.call (vd_U41w hM) vd_okI u63 (fun d f Q => by simp only [vd_S37_58 hM, vd_S37_60 hM])
theorem vd_U37m (hM : vd_SC M ow fa lo lf) (x2 : Int32) (a3 : Value) : vd_UC M vd_Tn 4 37 13 [.ref 27, .ref 16, .int x2, a3] [] :=
  vd_UC.seq (γ := Unit) (KC := fun d Q => Q) (lz := fun _ => [.ref 27, .ref 16, .int x2, .int (vd_I 3)]) (sz := fun _ => []) vd_okI (vd_U37w hM x2 a3) (fun _ => vd_U37s hM x2) (fun d f Q => rfl) (fun d Q c M' => rfl)
theorem vd_U37 (hM : vd_SC M ow fa lo lf) (x2 : Int32) : vd_UC M vd_Tn 4 37 0 [.ref 27, .ref 16, .int x2, vd_U] [] := by
  have u8 : vd_UC M vd_Tn 4 37 8 [.ref 27, .ref 16, .int x2, vd_U] [] := vd_UC.call (vd_U39w hM) vd_okI (vd_U37m hM x2 vd_U) (fun d f Q => by simp only [vd_S37_8 hM, vd_S37_10 hM])
  by_cases c : x2.toInt = 0
  · exact vd_UC.s u8 (fun d f Q => by simp only [vd_S37_0 hM, c, if_true])
  · exact vd_UC.go (F := vd_fgt) vd_fgtU u8 (fun d f Q => by simp only [vd_S37_0 hM, vd_S37_4 hM, vd_S37_5 hM, c, if_false, vd_P38 hM, vd_rs_v, vd_rs_n])
/-- the reference's way from the filter's header to the end of the segments' -/
def vd_T239 (x1 : Int32) (a2 a3 : Value) : Unit → vd_Tg := fun _ d Q M' => vd_wp (d + 4) 174 239 [.ref 63, .int x1, a2, a3] [] M' Q
theorem vd_B228 {α : Type} {U : α → vd_Tg} (hN : vd_SR N) (x1 : Int32) (a2 a3 : Value) (b239 : vd_BH N U 4 174 239 [.ref 63, .int x1, a2, a3] []) : vd_BH N U 4 174 228 [.ref 63, .int x1, a2, a3] [.ref 63] ∧ vd_BH N U 4 174 231 [.ref 63, .int x1, a2, a3] [] ∧ vd_BH N U 4 174 235 [.ref 63, .int x1, a2, a3] [] := by
  have b235 : vd_BH N U 4 174 235 [.ref 63, .int x1, a2, a3] [] := vd_BH.call (vd_B184w hN) vd_okJ b239 (fun d f Q _ => by simp only [vd_S174_235 hN, vd_S174_236 hN])
  have b231 : vd_BH N U 4 174 231 [.ref 63, .int x1, a2, a3] [] := vd_BH.call (vd_B183 hN) vd_okJ b235 (fun d f Q _ => by simp only [vd_S174_231 hN, vd_S174_232 hN])
  exact ⟨vd_BH.call (vd_B181 hN) vd_okJ b231 (fun d f Q _ => by simp only [vd_S174_228 hN]), b231, b235⟩
/-- what the settings' header gives; f: the pending settings as they stood (forgotten or not) -/
def vd_SET (f f' g' : Nat → Nat → Int32) : Prop := (∃ lv sh ec : Int, (0 ≤ lv ∧ lv ≤ 63 ∧ 0 ≤ sh ∧ sh ≤ 7 ∧ (ec = 0 ∨ ec = 1)) ∧ (f' 27 0 = vd_I lv ∧ f' 27 1 = vd_I sh ∧ f' 27 2 = vd_I ec) ∧ (g' 63 41 = vd_I lv ∧ g' 63 42 = vd_I sh ∧ g' 63 48 = vd_I ec)) ∧ (∀ j, j < 6 → vd_ext f f' g' j) ∧ (∃ (bs : Int) (dl : Nat → Int) (l : Int), (0 ≤ bs ∧ bs ≤ 255 ∧ f' 27 4 = vd_I bs ∧ g' 63 43 = vd_I bs) ∧ (∀ j, j < 3 → f' 29 j = vd_I (dl j) ∧ g' 85 j = vd_I (dl j) ∧ -16 ≤ dl j ∧ dl j ≤ 16) ∧ g' 63 35 = vd_I l ∧ (l = 0 ∨ l = 1) ∧ (l = 1 ↔ bs = 0 ∧ ∀ j, j < 3 → dl j = 0)) ∧ (∃ iu mt gu ft : Int, ((iu = 0 ∨ iu = 1) ∧ (mt = 0 ∨ mt = 1) ∧ (gu = 0 ∨ gu = 1) ∧ (ft = 0 ∨ ft = 1)) ∧ (f' 27 6 = vd_I iu ∧ f' 27 7 = vd_I mt ∧ f' 27 8 = vd_I gu) ∧ (g' 63 36 = vd_I iu ∧ g' 63 37 = vd_I mt ∧ g' 63 38 = vd_I gu ∧ g' 63 85 = vd_I ft) ∧ (mt = 1 → ∀ j, j < 7 → vd_rlC f' g' 30 86 j) ∧ (gu = 1 → ∀ j, j < 3 → vd_rlC f' g' 31 87 j) ∧ (ft = 1 → (∀ k, k < 32 → vd_feat f' g' k) ∧ ∃ ab : Int, (ab = 0 ∨ ab = 1) ∧ f' 27 11 = vd_I ab ∧ g' 63 86 = vd_I ab) ∧ (ft = 0 → f' 27 11 = f 27 11 ∧ ∀ j, f' 32 j = f 32 j ∧ f' 33 j = f 33 j))
theorem vd_SET.keep {f f' g' h f2 g2 : Nat → Nat → Int32} (s : vd_SET f f' g') (hb : ∀ c j, (c = 28 ∨ c = 32 ∨ c = 33 ∨ (c = 27 ∧ j = 11)) → h c j = f c j) (hf : ∀ c j, 27 ≤ c → c ≤ 33 → f2 c j = f' c j) (hg : ∀ c j, ((c = 63 ∧ ((35 ≤ j ∧ j ≤ 38) ∨ (41 ≤ j ∧ j ≤ 43) ∨ j = 48 ∨ j = 85 ∨ j = 86)) ∨ (85 ≤ c ∧ c ≤ 87) ∨ (113 ≤ c ∧ c ≤ 116)) → g2 c j = g' c j) : vd_SET h f2 g2 := by
  obtain ⟨⟨lv, sh, ec, A1, A2, A3⟩, A4, ⟨bs, dl, l, B1, B2, B3, B4, B5⟩, ⟨iu, mt, gu, ft, C1, C2, C3, C4, C5, C6, C7⟩⟩ := s
  have F : ∀ c j, 27 ≤ c → c ≤ 33 → ∀ v, f' c j = v → f2 c j = v := fun c j x y v q => by rw [hf c j x y]; exact q
  have G : ∀ c j, ((c = 63 ∧ ((35 ≤ j ∧ j ≤ 38) ∨ (41 ≤ j ∧ j ≤ 43) ∨ j = 48 ∨ j = 85 ∨ j = 86)) ∨ (85 ≤ c ∧ c ≤ 87) ∨ (113 ≤ c ∧ c ≤ 116)) → ∀ v, g' c j = v → g2 c j = v := fun c j x v q => by rw [hg c j x]; exact q
  refine ⟨⟨lv, sh, ec, A1, ⟨F _ _ (by omega) (by omega) _ A2.1, F _ _ (by omega) (by omega) _ A2.2.1, F _ _ (by omega) (by omega) _ A2.2.2⟩, ⟨G _ _ (by omega) _ A3.1, G _ _ (by omega) _ A3.2.1, G _ _ (by omega) _ A3.2.2⟩⟩, fun j hj => ?_, ⟨bs, dl, l, ⟨B1.1, B1.2.1, F _ _ (by omega) (by omega) _ B1.2.2.1, G _ _ (by omega) _ B1.2.2.2⟩, fun j hj => ?_, G _ _ (by omega) _ B3, B4, B5⟩, ⟨iu, mt, gu, ft, C1, ⟨F _ _ (by omega) (by omega) _ C2.1, F _ _ (by omega) (by omega) _ C2.2.1, F _ _ (by omega) (by omega) _ C2.2.2⟩, ⟨G _ _ (by omega) _ C3.1, G _ _ (by omega) _ C3.2.1, G _ _ (by omega) _ C3.2.2.1, G _ _ (by omega) _ C3.2.2.2⟩, fun q j hj => ?_, fun q j hj => ?_, fun q => ⟨fun k hk => ?_, ?_⟩, fun q => ⟨?_, fun j => ⟨?_, ?_⟩⟩⟩⟩
  · rcases A4 j hj with ⟨x, y⟩ | ⟨x, z, y1, y2, y3, y4⟩
    · exact Or.inl ⟨G _ _ (by omega) _ x, by rw [hf 28 j (by omega) (by omega), hb 28 j (by omega)]; exact y⟩
    · exact Or.inr ⟨G _ _ (by omega) _ x, z, y1, y2, F _ _ (by omega) (by omega) _ y3, G _ _ (by omega) _ y4⟩
  · obtain ⟨x, y, w⟩ := B2 j hj
    exact ⟨F _ _ (by omega) (by omega) _ x, G _ _ (by omega) _ y, w⟩
  · obtain ⟨z, z1, z2, z3⟩ := C4 q j hj
    exact ⟨z, z1, F _ _ (by omega) (by omega) _ z2, G _ _ (by omega) _ z3⟩
  · obtain ⟨z, z1, z2, z3⟩ := C5 q j hj
    exact ⟨z, z1, F _ _ (by omega) (by omega) _ z2, G _ _ (by omega) _ z3⟩
  · obtain ⟨on, z, z1, z2, z3, z4, z5⟩ := (C6 q).1 k hk
    exact ⟨on, z, z1, z2, F _ _ (by omega) (by omega) _ z3, G _ _ (by omega) _ z4, fun n => ⟨F _ _ (by omega) (by omega) _ (z5 n).1, G _ _ (by omega) _ (z5 n).2⟩⟩
  · obtain ⟨ab, z1, z2, z3⟩ := (C6 q).2
    exact ⟨ab, z1, F _ _ (by omega) (by omega) _ z2, G _ _ (by omega) _ z3⟩
  · rw [hf 27 11 (by omega) (by omega), hb 27 11 (by omega)]; exact (C7 q).1
  · rw [hf 32 j (by omega) (by omega), hb 32 j (by omega)]; exact ((C7 q).2 j).1
  · rw [hf 33 j (by omega) (by omega), hb 33 j (by omega)]; exact ((C7 q).2 j).2
def vd_VS (N : vd_M) (f g : Nat → Nat → Int32) : vd_M → Unit → Unit → Int → (Nat → Nat → Int32) → (Nat → Nat → Int32) → Prop := fun N' _ _ _ f' g' => N' = N ∧ vd_SET f f' g' ∧ (∀ c j, ¬ (c = 16 ∧ (j = 1 ∨ j = 3)) → ¬ (27 ≤ c ∧ c ≤ 33) → f' c j = f c j) ∧ (∀ c j, ¬ (c = 63 ∧ (j = 74 ∨ j = 76 ∨ (35 ≤ j ∧ j ≤ 38) ∨ (41 ≤ j ∧ j ≤ 43) ∨ j = 48 ∨ j = 85 ∨ j = 86)) → ¬ (85 ≤ c ∧ c ≤ 87) → ¬ (113 ≤ c ∧ c ≤ 116) → g' c j = g c j)
theorem vd_H37a (hM : vd_SC M ow fa lo lf) (hN : vd_SR N) {f g : Nat → Nat → Int32} {p e : Int} (x2 x1 : Int32) (a2 a3 : Value) (hT : vd_RT f g) (hp : vd_pb f p e 0) (hq : vd_qb g p e 0) : vd_HP M N vd_Tn (vd_T239 x1 a2 a3) 4 37 8 [.ref 27, .ref 16, .int x2, vd_U] [] 4 174 228 [.ref 63, .int x1, a2, a3] [.ref 63] e (vd_VS N f g) f g := by
  have b239 : ∀ N' : vd_M, vd_BH N' (vd_T239 x1 a2 a3) 4 174 239 [.ref 63, .int x1, a2, a3] [] := fun N' => vd_BH.ret () vd_okJ (fun d g Q _ => rfl)
  refine vd_HP.seq (γ := Unit) (δ := Unit) (pc1 := 13) (lz := fun _ => [.ref 27, .ref 16, .int x2, vd_U]) (sz := fun _ => []) (pc1' := 231) (ly := fun _ => [.ref 63, .int x1, a2, a3]) (sy := fun _ => []) (KC := fun d Q => fun M1 r => vd_rs r [] (fun st => vd_wp (d + 4) 37 13 [.ref 27, .ref 16, .int x2, vd_U] st M1 Q)) (KR := fun d Q => fun M1 r => vd_rs r [] (fun st => vd_wp (d + 4) 174 231 [.ref 63, .int x1, a2, a3] st M1 Q)) (vd_fU.refl f) (vd_gU.refl g) (vd_H39 hM hN hT hp hq) (fun _ => vd_U37m hM x2 vd_U) (fun N' y hn => (vd_B228 (hN.n3 hn) x1 a2 a3 (b239 N')).2.1) (fun d Q => by simp only [vd_S37_8 hM, vd_S37_10 hM]) (fun d Q => by simp only [vd_S174_228 hN]) (fun d Q z M' => rfl) (fun d Q y M' => rfl) ?_
  rintro f1 g1 N1 z y p1 ⟨rfl, ⟨lv, sh, ec, A1, A2, A3⟩, A4, A5, A6⟩ _ hp1 hq1 hF1 hG1
  have hT1 := hT.keepH hF1 hG1
  refine vd_HP.seq (γ := Unit) (δ := Unit) (pc1 := 58) (lz := fun _ => [.ref 27, .ref 16, .int x2, .int (vd_I 3)]) (sz := fun _ => []) (pc1' := 235) (ly := fun _ => [.ref 63, .int x1, a2, a3]) (sy := fun _ => []) (KC := fun d Q => Q) (KR := fun d Q => fun M1 r => vd_rs r [] (fun st => vd_wp (d + 4) 174 235 [.ref 63, .int x1, a2, a3] st M1 Q)) (vd_fU.refl f1) (vd_gU.refl g1) (vd_H37q hM hN x2 vd_U hT1 hp1 hq1) (fun _ => vd_U37s hM x2) (fun N' y hn => (vd_B228 (hN.n3 hn) x1 a2 a3 (b239 N')).2.2) (fun d Q => rfl) (fun d Q => by simp only [vd_S174_231 hN, vd_S174_232 hN]) (fun d Q z M' => rfl) (fun d Q y M' => rfl) ?_
  rintro f2 g2 N2 z y p2 ⟨rfl, ⟨bs, dl, l, B1, B2, B3, B4, B5⟩, B6, B7⟩ _ hp2 hq2 hF2 hG2
  have hT2 := hT1.keepH hF2 hG2
  have u63 : vd_UC M vd_Tn 4 37 63 [.ref 27, .ref 16, .int x2, .int (vd_I 3)] [] := vd_UC.ret () vd_okI (fun d f Q => by simp only [vd_S37_63 hM, vd_Tn, vd_TR])
  refine vd_HP.seq (γ := Unit) (δ := Unit) (pc1 := 63) (lz := fun _ => [.ref 27, .ref 16, .int x2, .int (vd_I 3)]) (sz := fun _ => []) (pc1' := 239) (ly := fun _ => [.ref 63, .int x1, a2, a3]) (sy := fun _ => []) (KC := fun d Q => fun M1 r => vd_rs r [] (fun st => vd_wp (d + 4) 37 63 [.ref 27, .ref 16, .int x2, .int (vd_I 3)] st M1 Q)) (KR := fun d Q => fun M1 r => vd_rs r [] (fun st => vd_wp (d + 4) 174 239 [.ref 63, .int x1, a2, a3] st M1 Q)) (vd_fU.refl f2) (vd_gU.refl g2) (vd_H41 hM hN hT2 hp2 hq2) (fun _ => u63) (fun N' y hn => b239 N') (fun d Q => by simp only [vd_S37_58 hM, vd_S37_60 hM]) (fun d Q => by simp only [vd_S174_235 hN, vd_S174_236 hN]) (fun d Q z M' => rfl) (fun d Q y M' => rfl) ?_
  rintro f3 g3 N3 z y p3 ⟨rfl, ⟨iu, mt, gu, ft, C1, C2, C3, C4, C5, C6, C7⟩, C8, C9⟩ _ hp3 hq3 hF3 hG3
  have FA : ∀ c j, ¬ (c = 16 ∧ (j = 1 ∨ j = 3)) → ¬ (c = 27 ∧ (j = 4 ∨ j = 6 ∨ j = 7 ∨ j = 8 ∨ j = 11)) → ¬ (29 ≤ c ∧ c ≤ 33) → f3 c j = f1 c j := fun c j q1 q2 q3 => by rw [C8 c j q1 (by omega) (by omega), B6 c j q1 (by omega) (by omega)]
  have GA : ∀ c j, ¬ (c = 63 ∧ (j = 74 ∨ j = 76 ∨ (35 ≤ j ∧ j ≤ 38) ∨ j = 43 ∨ j = 85 ∨ j = 86)) → ¬ (85 ≤ c ∧ c ≤ 87) → c ≠ 114 → c ≠ 116 → g3 c j = g1 c j := fun c j q1 q2 q3 q4 => by rw [C9 c j (by omega) (by omega) (by omega) q3 q4, B7 c j (by omega) (by omega)]
  refine vd_HP.ret () () (vd_fU.refl f3) (vd_gU.refl g3) hp3 hq3 ⟨rfl, ⟨⟨lv, sh, ec, A1, ?_, ?_⟩, fun j hj => ?_, ⟨bs, dl, l, ⟨B1.1, B1.2.1, ?_, ?_⟩, fun j hj => ?_, ?_, B4, B5⟩, ⟨iu, mt, gu, ft, C1, C2, C3, C4, C5, C6, fun q => ?_⟩⟩, fun c j q1 q2 => ?_, fun c j q1 q2 q3 => ?_⟩ (fun d Q => by simp only [vd_S37_63 hM, vd_Tn, vd_TR]) (fun d Q => rfl)
  · rw [FA 27 0 (by omega) (by omega) (by omega), FA 27 1 (by omega) (by omega) (by omega), FA 27 2 (by omega) (by omega) (by omega)]; exact A2
  · rw [GA 63 41 (by omega) (by omega) (by omega) (by omega), GA 63 42 (by omega) (by omega) (by omega) (by omega), GA 63 48 (by omega) (by omega) (by omega) (by omega)]; exact A3
  · have e1 := FA 28 j (by omega) (by omega) (by omega)
    have e2 := GA 113 j (by omega) (by omega) (by omega) (by omega)
    have e3 := GA 115 j (by omega) (by omega) (by omega) (by omega)
    rcases A4 j hj with ⟨x, y⟩ | ⟨x, z, y1, y2, y3, y4⟩
    · exact Or.inl ⟨by rw [e2]; exact x, by rw [e1]; exact y⟩
    · exact Or.inr ⟨by rw [e2]; exact x, z, y1, y2, by rw [e1]; exact y3, by rw [e3]; exact y4⟩
  · rw [C8 27 4 (by omega) (by omega) (by omega)]; exact B1.2.2.1
  · rw [C9 63 43 (by omega) (by omega) (by omega) (by omega) (by omega)]; exact B1.2.2.2
  · obtain ⟨x, y, w⟩ := B2 j hj
    exact ⟨by rw [C8 29 j (by omega) (by omega) (by omega)]; exact x, by rw [C9 85 j (by omega) (by omega) (by omega) (by omega) (by omega)]; exact y, w⟩
  · rw [C9 63 35 (by omega) (by omega) (by omega) (by omega) (by omega)]; exact B3
  · obtain ⟨x, y⟩ := C7 q
    refine ⟨by rw [x, B6 27 11 (by omega) (by omega) (by omega), A5 27 11 (by omega) (by omega) (by omega)], fun j => ⟨by rw [(y j).1, B6 32 j (by omega) (by omega) (by omega), A5 32 j (by omega) (by omega) (by omega)], by rw [(y j).2, B6 33 j (by omega) (by omega) (by omega), A5 33 j (by omega) (by omega) (by omega)]⟩⟩
  · rw [FA c j q1 (by omega) (by omega), A5 c j q1 (by omega) (by omega)]
  · rw [GA c j (by omega) q2 (by omega) (by omega), A6 c j (by omega) (by omega) (by omega)]
/-- settings.read, and the three headers -/
theorem vd_H37 (hM : vd_SC M ow fa lo lf) (hN : vd_SR N) {f g : Nat → Nat → Int32} {p e af : Int} (haf : af = 0 ∨ af = 1) (x1 : Int32) (a2 a3 : Value) (hT : vd_RT f g) (hp : vd_pb f p e 0) (hq : vd_qb g p e 0) : vd_HP M N vd_Tn (vd_T239 x1 a2 a3) 4 37 0 [.ref 27, .ref 16, .int (vd_I af), vd_U] [] 4 174 228 [.ref 63, .int x1, a2, a3] [.ref 63] e (vd_VS N (if af = 0 then f else vd_fgt f) g) f g := by
  rcases haf with rfl | rfl
  · rw [if_pos rfl]
    refine vd_HP.s (vd_fU.refl f) (vd_gU.refl g) (vd_H37a hM hN (vd_I 0) x1 a2 a3 hT hp hq) (fun d Q => ?_) (fun d Q => rfl)
    simp (disch := omega) only [vd_S37_0 hM, vd_I_toInt, eq_self, if_true]
  · rw [if_neg (by decide)]
    have hf := vd_fgtU f
    refine vd_HP.s hf (vd_gU.refl g) (vd_H37a hM hN (vd_I 1) x1 a2 a3 (hT.keepH hf.1 (vd_gHd.refl g)) (hp.keepU hf.2) hq) (fun d Q => ?_) (fun d Q => rfl)
    simp (disch := omega) only [vd_S37_0 hM, vd_S37_4 hM, vd_S37_5 hM, vd_I_toInt, show ¬ ((1 : Int) = 0) by decide, if_false, vd_P38 hM, vd_rs_v, vd_rs_n]
end VDHA
