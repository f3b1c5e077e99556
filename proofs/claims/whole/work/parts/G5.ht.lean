/-! ===== readSegments and segmentHeader, both ===== -/
def vd_T65 : Unit → vd_Tg := fun _ d Q M' => vd_wp (d + 3) 41 65 [.ref 27, .ref 16, .int (vd_I 7)] [] M' Q
def vd_T103 : Int32 → vd_Tg := fun x d Q M' => vd_wp (d + 3) 41 103 [.ref 27, .ref 16, .int x] [] M' Q
section VDHT
variable {M N : vd_M} {ow fa lo lf : Nat}
def vd_rlC (f' g' : Nat → Nat → Int32) (cc co j : Nat) : Prop := ∃ z : Int, (1 ≤ z ∧ z ≤ 255) ∧ f' cc j = vd_I z ∧ g' co j = vd_I z
def vd_VCh {β : Type} (N : vd_M) (f g : Nat → Nat → Int32) (cc co L i : Nat) : vd_M → β → Unit → Int → (Nat → Nat → Int32) → (Nat → Nat → Int32) → Prop := fun N' _ _ _ f' g' => N' = N ∧ (∀ j, i ≤ j → j < L → vd_rlC f' g' cc co j) ∧ (∀ c j, ¬ (c = 16 ∧ (j = 1 ∨ j = 3)) → ¬ (c = cc ∧ i ≤ j) → f' c j = f c j) ∧ (∀ c j, ¬ (c = 63 ∧ (j = 74 ∨ j = 76)) → ¬ (c = co ∧ i ≤ j) → g' c j = g c j)
theorem vd_VCh.more {β : Type} {f g f2 g2 : Nat → Nat → Int32} {cc co L i : Nat} {N' : vd_M} {z : β} {a : Unit} {p' : Int} {f' g' : Nat → Nat → Int32} {r : Int} (h : vd_VCh N (vd_up f2 cc i (vd_I r)) (vd_up g2 co i (vd_I r)) cc co L (i + 1) N' z a p' f' g') (hr : vd_bcP r) (F : vd_fP f f2) (G : vd_gP g g2) (hc : cc ≠ 16 ∧ co ≠ 63) : vd_VCh N f g cc co L i N' z a p' f' g' := by
  obtain ⟨v1, v2, v3, v4⟩ := h
  refine ⟨v1, fun j a b => ?_, fun c j q1 q2 => ?_, fun c j q1 q2 => ?_⟩
  · by_cases e : j = i
    · subst e
      exact ⟨r, hr, by rw [v3 cc j (by omega) (by omega), vd_up_eq], by rw [v4 co j (by omega) (by omega), vd_up_eq]⟩
    · exact v2 j (by omega) b
  · rw [v3 c j q1 (by omega), vd_up_ne (by omega), F c j q1]
  · rw [v4 c j q1 (by omega), vd_up_ne (by omega), G c j q1]
theorem vd_treeLoop (hM : vd_SC M ow fa lo lf) (hN : vd_SR N) {e : Int} : ∀ (m i : Nat) (f g : Nat → Nat → Int32) (p : Int), i + m = 7 → vd_RT f g → vd_pb f p e 0 → vd_qb g p e 0 → vd_HP M N vd_T65 (fun _ : Unit => vd_TR) 3 41 43 [.ref 27, .ref 16, .int (vd_I (i : Int))] [] 2 185 2 [.ref 63, .ref 86, .int (vd_I (i : Int))] [] e (vd_VCh N f g 30 86 7 i) f g := by
  intro m
  induction m with
  | zero =>
    intro i f g p hi hT hp hq
    have hi : i = 7 := by omega
    subst hi
    refine vd_HP.ret () () (vd_fU.refl f) (vd_gU.refl g) hp hq ⟨rfl, fun j a b => absurd b (by omega), fun _ _ _ _ => rfl, fun _ _ _ _ => rfl⟩ (fun d Q => ?_) (fun d Q => ?_)
    · simp (disch := omega) only [vd_S41_43 hM, vd_T65, vd_I_toInt, show ¬ (((7 : Nat) : Int) < 7) by decide, if_false]
      rfl
    · have h86 := hN.k86
      simp (disch := omega) only [vd_S185_2 hN, vd_S185_4 hN, vd_S185_40 hN, vd_TR, hN.l86, vd_I_toInt, show ¬ (((7 : Nat) : Int) < ((7 : Nat) : Int)) by decide, if_false]
  | succ m ih =>
    intro i f g p hi hT hp hq
    have hi6 : i < 7 := by omega
    have h86 := hN.k86
    have l86 := hN.l86
    have ei : (i : Int) + 1 = ((i + 1 : Nat) : Int) := by omega
    have u65 : vd_UC M vd_T65 3 41 65 [.ref 27, .ref 16, .int (vd_I 7)] [] := vd_UC.ret () vd_okI (fun d f Q => rfl)
    have uu := (vd_U41a hM u65 (7 - i) i (by omega)).2
    have bb := (vd_B185l hN hN.k86 hN.l86 (by decide) (by decide) (7 - i) i (by omega)).2
    obtain ⟨f2, g2, p2, t2, b, r, s, a1, a2, a3⟩ := vd_chP hM hN hT hp hq
    refine vd_HP.get ⟨f2, g2, p2, t2, b, r, s, fun d Q => ?_, fun d Q => ?_, a3⟩ hT (fun r hr => uu r hi6 hr) (fun s hs => bb s hi6 hs) (fun f3 g3 p3 r hr hT3 hp3 hq3 F3 G3 => ?_)
    · have a1' := a1 (d + 1)
      simp (disch := omega) only [vd_S41_43 hM, vd_S41_49 hM, vd_S41_55 hM, vd_I_toInt, show ((i : Int) < 7) by omega, if_true, a1, vd_rs_v, vd_rs_n]
    · simp (disch := omega) only [vd_S185_2 hN, vd_S185_4 hN, vd_S185_8 hN, h86, l86, vd_I_toInt, show ((i : Int) < ((7 : Nat) : Int)) by omega, if_true, a2]
    have hf : vd_fU f3 (vd_up f3 30 i (vd_I r)) := (vd_fU.refl f3).up (by omega)
    have hg : vd_gU g3 (vd_up g3 86 i (vd_I r)) := (vd_gU.refl g3).up (by unfold vd_inH; omega) (by omega)
    refine vd_HP.s hf hg ((ih (i + 1) _ _ p3 (by omega) (hT3.keepH hf.1 hg.1) (hp3.keepU hf.2) (hq3.keepU hg.2)).mono (fun N' z a p' f' g' h => vd_VCh.more h hr F3 G3 (by decide))) (fun d Q => ?_) (fun d Q => ?_)
    · simp (disch := omega) only [vd_S41_58 hM, Int.toNat_natCast, vd_I_add, ei]
    · simp (disch := omega) only [vd_S185_33 hN, Int.toNat_natCast, vd_I_add, ei]
theorem vd_guessLoop (hM : vd_SC M ow fa lo lf) (hN : vd_SR N) {e : Int} : ∀ (m i : Nat) (f g : Nat → Nat → Int32) (p : Int), i + m = 3 → vd_RT f g → vd_pb f p e 0 → vd_qb g p e 0 → f 27 8 = vd_I 1 → vd_HP M N vd_T103 (fun _ : Unit => vd_TR) 3 41 75 [.ref 27, .ref 16, .int (vd_I (i : Int))] [] 2 185 2 [.ref 63, .ref 87, .int (vd_I (i : Int))] [] e (vd_VCh N f g 31 87 3 i) f g := by
  intro m
  induction m with
  | zero =>
    intro i f g p hi hT hp hq _
    have h87 := hN.k87
    have l87 := hN.l87
    refine vd_HP.ret (vd_I (i : Int)) () (vd_fU.refl f) (vd_gU.refl g) hp hq ⟨rfl, fun j a b => absurd b (by omega), fun _ _ _ _ => rfl, fun _ _ _ _ => rfl⟩ (fun d Q => ?_) (fun d Q => ?_)
    · simp (disch := omega) only [vd_S41_75 hM, vd_T103, vd_I_toInt, show ¬ ((i : Int) < 3) by omega, if_false]
    · simp (disch := omega) only [vd_S185_2 hN, vd_S185_4 hN, vd_S185_40 hN, vd_TR, h87, l87, vd_I_toInt, show ¬ ((i : Int) < ((3 : Nat) : Int)) by omega, if_false]
  | succ m ih =>
    intro i f g p hi hT hp hq h8
    have hi6 : i < 3 := by omega
    have h87 := hN.k87
    have l87 := hN.l87
    have ei : (i : Int) + 1 = ((i + 1 : Nat) : Int) := by omega
    have u103 : ∀ x : Int32, vd_UC M vd_T103 3 41 103 [.ref 27, .ref 16, .int x] [] := fun x => vd_UC.ret x vd_okI (fun d f Q => rfl)
    have uu := (vd_U41b hM u103 (3 - i) i (by omega)).2
    have bb := (vd_B185l hN hN.k87 hN.l87 (by decide) (by decide) (3 - i) i (by omega)).2
    obtain ⟨f2, g2, p2, t2, b, r, s, a1, a2, a3⟩ := vd_chP hM hN hT hp hq
    refine vd_HP.get ⟨f2, g2, p2, t2, b, r, s, fun d Q => ?_, fun d Q => ?_, a3⟩ hT (fun r hr => uu r hi6 hr) (fun s hs => bb s hi6 hs) (fun f3 g3 p3 r hr hT3 hp3 hq3 F3 G3 => ?_)
    · simp (disch := omega) only [vd_S41_75 hM, vd_S41_80 hM, vd_S41_87 hM, vd_S41_93 hM, h8, vd_I_toInt, show ((i : Int) < 3) by omega, if_true, show ¬ ((1 : Int) = 0) by decide, if_false, a1, vd_rs_v, vd_rs_n]
    · simp (disch := omega) only [vd_S185_2 hN, vd_S185_4 hN, vd_S185_8 hN, h87, l87, vd_I_toInt, show ((i : Int) < ((3 : Nat) : Int)) by omega, if_true, a2]
    have hf : vd_fU f3 (vd_up f3 31 i (vd_I r)) := (vd_fU.refl f3).up (by omega)
    have hg : vd_gU g3 (vd_up g3 87 i (vd_I r)) := (vd_gU.refl g3).up (by unfold vd_inH; omega) (by omega)
    refine vd_HP.s hf hg ((ih (i + 1) _ _ p3 (by omega) (hT3.keepH hf.1 hg.1) (hp3.keepU hf.2) (hq3.keepU hg.2) (by rw [vd_up_ne (by omega), F3 27 8 (by omega)]; exact h8)).mono (fun N' z a p' f' g' h => vd_VCh.more h hr F3 G3 (by decide))) (fun d Q => ?_) (fun d Q => ?_)
    · simp (disch := omega) only [vd_S41_96 hM, Int.toNat_natCast, vd_I_add, ei]
    · simp (disch := omega) only [vd_S185_33 hN, Int.toNat_natCast, vd_I_add, ei]
/-- what the end of the segments' header gives: features told or not -/
def vd_VT (N : vd_M) (f g : Nat → Nat → Int32) : vd_M → Unit → Unit → Int → (Nat → Nat → Int32) → (Nat → Nat → Int32) → Prop := fun N' _ _ _ f' g' => N' = N ∧ (∃ ft : Int, (ft = 0 ∨ ft = 1) ∧ g' 63 85 = vd_I ft ∧ (ft = 1 → (∀ k, k < 32 → vd_feat f' g' k) ∧ ∃ ab : Int, (ab = 0 ∨ ab = 1) ∧ f' 27 11 = vd_I ab ∧ g' 63 86 = vd_I ab) ∧ (ft = 0 → f' 27 11 = f 27 11 ∧ ∀ j, f' 32 j = f 32 j ∧ f' 33 j = f 33 j)) ∧ (∀ c j, ¬ (c = 16 ∧ (j = 1 ∨ j = 3)) → ¬ (c = 27 ∧ j = 11) → c ≠ 32 → c ≠ 33 → f' c j = f c j) ∧ (∀ c j, ¬ (c = 63 ∧ (j = 74 ∨ j = 76 ∨ j = 85 ∨ j = 86)) → c ≠ 114 → c ≠ 116 → g' c j = g c j)
theorem vd_H41t (hM : vd_SC M ow fa lo lf) (hN : vd_SR N) {f g : Nat → Nat → Int32} {p e : Int} (x : Int32) (a1 a2 : Value) (hT : vd_RT f g) (hp : vd_pb f p e 0) (hq : vd_qb g p e 0) : vd_HP M N vd_Tn (fun _ : Unit => vd_TR) 3 41 103 [.ref 27, .ref 16, .int x] [] 3 184 77 [.ref 63, a1, a2] [] e (vd_VT N f g) f g := by
  obtain ⟨_, _, _, _, _, u107⟩ := vd_U41 hM
  obtain ⟨_, _, _, _, _, b82⟩ := vd_B184 hN
  refine vd_HP.ask (vd_Q32 hM hN 2 2 (by decide) (by decide)) (vd_fU.refl f) (vd_gU.refl g) hT hp hq (fun r hr => u107 r hr x) (fun s hs => b82 s hs a1 a2) (fun d Q => by simp only [vd_S41_103 hM, vd_S41_104 hM]) (fun d Q => by simp only [vd_S184_77 hN, vd_S184_79 hN]) (fun f2 g2 p2 r hr hT2 hp2 hq2 F2 G2 => ?_)
  have hg : vd_gU g2 (vd_up g2 63 85 (vd_I r)) := (vd_gU.refl g2).up (by unfold vd_inH; omega) (by omega)
  rcases hr with rfl | rfl
  · refine vd_HP.ret () () (vd_fU.refl f2) hg hp2 hq2 ⟨rfl, ⟨0, Or.inl rfl, vd_up_eq _ _ _ _, fun h => absurd h (by decide), fun _ => ⟨F2 27 11 (by omega), fun j => ⟨F2 32 j (by omega), F2 33 j (by omega)⟩⟩⟩, fun c j q1 _ _ _ => F2 c j q1, fun c j q1 _ _ => by rw [vd_up_ne (by omega), G2 c j (by omega)]⟩ (fun d Q => ?_) (fun d Q => ?_)
    · simp (disch := omega) only [vd_S41_107 hM, vd_S41_115 hM, vd_Tn, vd_TR, vd_I_toInt, eq_self, if_true]
    · simp (disch := first | decide | omega) only [vd_S184_82 hN, vd_S184_92 hN, vd_TR, vd_fok0, vd_I_toInt, eq_self, if_true]
  · refine vd_HP.tail (fun _ => ()) (vd_fU.refl f2) hg (vd_H43 hM hN a1 a2 (hT2.keepH (vd_fHd.refl f2) hg.1) hp2 (hq2.keepU hg.2)) (KC := fun d Q => fun M1 r => vd_rs r [] (fun st => vd_wp (d + 3) 41 115 [.ref 27, .ref 16, .int x] st M1 Q)) (fun d Q => ?_) (fun d Q => ?_) (fun d Q y f' => ?_) ?_
    · simp (disch := omega) only [vd_S41_107 hM, vd_S41_110 hM, vd_S41_112 hM, vd_I_toInt, show ¬ ((1 : Int) = 0) by decide, if_false]
    · simp (disch := first | decide | omega) only [vd_S184_82 hN, vd_fok1, vd_I_toInt, show ¬ ((1 : Int) = 0) by decide, if_false]
    · simp only [vd_Tn, vd_TR, vd_rs_v, vd_rs_n, vd_S41_115 hM]
    · rintro N' y a p' f' g' ⟨v1, v2, v3, v4, v5⟩
      refine ⟨v1, ⟨1, Or.inr rfl, ?_, fun _ => ⟨v2, v3⟩, fun h => absurd h (by decide)⟩, fun c j q1 q2 q3 q4 => ?_, fun c j q1 q2 q3 => ?_⟩
      · rw [v5 63 85 (by omega) (by omega) (by omega), vd_up_eq]
      · rw [v4 c j q1 q2 q3 q4, F2 c j q1]
      · rw [v5 c j (by omega) q2 q3, vd_up_ne (by omega), G2 c j (by omega)]
def vd_VG (N : vd_M) (f g : Nat → Nat → Int32) : vd_M → Unit → Unit → Int → (Nat → Nat → Int32) → (Nat → Nat → Int32) → Prop := fun N' _ _ _ f' g' => N' = N ∧ (∃ iu mt gu ft : Int, ((iu = 0 ∨ iu = 1) ∧ (mt = 0 ∨ mt = 1) ∧ (gu = 0 ∨ gu = 1) ∧ (ft = 0 ∨ ft = 1)) ∧ (f' 27 6 = vd_I iu ∧ f' 27 7 = vd_I mt ∧ f' 27 8 = vd_I gu) ∧ (g' 63 36 = vd_I iu ∧ g' 63 37 = vd_I mt ∧ g' 63 38 = vd_I gu ∧ g' 63 85 = vd_I ft) ∧ (mt = 1 → ∀ j, j < 7 → vd_rlC f' g' 30 86 j) ∧ (gu = 1 → ∀ j, j < 3 → vd_rlC f' g' 31 87 j) ∧ (ft = 1 → (∀ k, k < 32 → vd_feat f' g' k) ∧ ∃ ab : Int, (ab = 0 ∨ ab = 1) ∧ f' 27 11 = vd_I ab ∧ g' 63 86 = vd_I ab) ∧ (ft = 0 → f' 27 11 = f 27 11 ∧ ∀ j, f' 32 j = f 32 j ∧ f' 33 j = f 33 j)) ∧ (∀ c j, ¬ (c = 16 ∧ (j = 1 ∨ j = 3)) → ¬ (c = 27 ∧ (j = 6 ∨ j = 7 ∨ j = 8 ∨ j = 11)) → ¬ (30 ≤ c ∧ c ≤ 33) → f' c j = f c j) ∧ (∀ c j, ¬ (c = 63 ∧ (j = 74 ∨ j = 76 ∨ (36 ≤ j ∧ j ≤ 38) ∨ j = 85 ∨ j = 86)) → c ≠ 86 → c ≠ 87 → c ≠ 114 → c ≠ 116 → g' c j = g c j)
/-- the last stretch, after map and guesses -/
theorem vd_VT.fin {f g f2 g2 : Nat → Nat → Int32} {N' : vd_M} {z a : Unit} {p' : Int} {f' g' : Nat → Nat → Int32} (h : vd_VT N f2 g2 N' z a p' f' g') {iu mt gu : Int} (h1 : (iu = 0 ∨ iu = 1) ∧ (mt = 0 ∨ mt = 1) ∧ (gu = 0 ∨ gu = 1)) (h2 : f2 27 6 = vd_I iu ∧ f2 27 7 = vd_I mt ∧ f2 27 8 = vd_I gu) (h3 : g2 63 36 = vd_I iu ∧ g2 63 37 = vd_I mt ∧ g2 63 38 = vd_I gu) (h4 : mt = 1 → ∀ j, j < 7 → vd_rlC f2 g2 30 86 j) (h5 : gu = 1 → ∀ j, j < 3 → vd_rlC f2 g2 31 87 j) (F : ∀ c j, ¬ (c = 16 ∧ (j = 1 ∨ j = 3)) → ¬ (c = 27 ∧ (j = 6 ∨ j = 7 ∨ j = 8)) → ¬ (30 ≤ c ∧ c ≤ 31) → f2 c j = f c j) (G : ∀ c j, ¬ (c = 63 ∧ (j = 74 ∨ j = 76 ∨ (36 ≤ j ∧ j ≤ 38) ∨ j = 85)) → c ≠ 86 → c ≠ 87 → g2 c j = g c j) : vd_VG N f g N' z a p' f' g' := by
  obtain ⟨v1, ⟨ft, w1, w2, w3, w4⟩, v3, v4⟩ := h
  refine ⟨v1, ⟨iu, mt, gu, ft, ⟨h1.1, h1.2.1, h1.2.2, w1⟩, ?_, ?_, fun q j hj => ?_, fun q j hj => ?_, w3, fun q => ?_⟩, fun c j q1 q2 q3 => ?_, fun c j q1 q2 q3 q4 q5 => ?_⟩
  · rw [v3 27 6 (by omega) (by omega) (by omega) (by omega), v3 27 7 (by omega) (by omega) (by omega) (by omega), v3 27 8 (by omega) (by omega) (by omega) (by omega)]
    exact h2
  · rw [v4 63 36 (by omega) (by omega) (by omega), v4 63 37 (by omega) (by omega) (by omega), v4 63 38 (by omega) (by omega) (by omega)]
    exact ⟨h3.1, h3.2.1, h3.2.2, w2⟩
  · obtain ⟨z, z1, z2, z3⟩ := h4 q j hj
    exact ⟨z, z1, by rw [v3 30 j (by omega) (by omega) (by omega) (by omega)]; exact z2, by rw [v4 86 j (by omega) (by omega) (by omega)]; exact z3⟩
  · obtain ⟨z, z1, z2, z3⟩ := h5 q j hj
    exact ⟨z, z1, by rw [v3 31 j (by omega) (by omega) (by omega) (by omega)]; exact z2, by rw [v4 87 j (by omega) (by omega) (by omega)]; exact z3⟩
  · obtain ⟨y1, y2⟩ := w4 q
    refine ⟨by rw [y1, F 27 11 (by omega) (by omega) (by omega)], fun j => ⟨by rw [(y2 j).1, F 32 j (by omega) (by omega) (by omega)], by rw [(y2 j).2, F 33 j (by omega) (by omega) (by omega)]⟩⟩
  · rw [v3 c j q1 (by omega) (by omega) (by omega), F c j q1 (by omega) (by omega)]
  · rw [v4 c j (by omega) q4 q5, G c j (by omega) q2 q3]
/-- readSegments and segmentHeader -/
theorem vd_H41 (hM : vd_SC M ow fa lo lf) (hN : vd_SR N) {f g : Nat → Nat → Int32} {p e : Int} (hT : vd_RT f g) (hp : vd_pb f p e 0) (hq : vd_qb g p e 0) : vd_HP M N vd_Tn (fun _ : Unit => vd_TR) 3 41 0 [.ref 27, .ref 16, vd_U] [] 3 184 0 [.ref 63, vd_U, vd_U] [] e (vd_VG N f g) f g := by
  obtain ⟨u15, u31, u65, u70, u103, u107⟩ := vd_U41 hM
  obtain ⟨b20, b36, b54, b59, b77, b82⟩ := vd_B184 hN
  have hf0 : vd_fU f (vd_up (vd_up f 27 7 (vd_I 0)) 27 8 (vd_I 0)) := ((vd_fU.refl f).up (by omega)).up (by omega)
  have hg0 : vd_gU g (vd_up (vd_up (vd_up g 63 37 (vd_I 0)) 63 38 (vd_I 0)) 63 85 (vd_I 0)) := (((vd_gU.refl g).up (by unfold vd_inH; omega) (by omega)).up (by unfold vd_inH; omega) (by omega)).up (by unfold vd_inH; omega) (by omega)
  refine vd_HP.ask (vd_Q32 hM hN 2 2 (by decide) (by decide)) hf0 hg0 hT hp hq (fun r hr => u15 r hr vd_U) (fun s hs => b20 s hs vd_U vd_U) (fun d Q => by simp only [vd_S41_0 hM, vd_S41_12 hM]) (fun d Q => by simp only [vd_S184_0 hN, vd_S184_17 hN]) (fun f1 g1 p1 iu hiu hT1 hp1 hq1 F1 G1 => ?_)
  have f17 : f1 27 7 = vd_I 0 := by rw [F1 27 7 (by omega), vd_up_ne (by omega), vd_up_eq]
  have f18 : f1 27 8 = vd_I 0 := by rw [F1 27 8 (by omega), vd_up_eq]
  have g137 : g1 63 37 = vd_I 0 := by rw [G1 63 37 (by omega), vd_up_ne (by omega), vd_up_ne (by omega), vd_up_eq]
  have g138 : g1 63 38 = vd_I 0 := by rw [G1 63 38 (by omega), vd_up_ne (by omega), vd_up_eq]
  have g185 : g1 63 85 = vd_I 0 := by rw [G1 63 85 (by omega), vd_up_eq]
  have A1 : ∀ c j, ¬ (c = 16 ∧ (j = 1 ∨ j = 3)) → ¬ (c = 27 ∧ (j = 7 ∨ j = 8)) → f1 c j = f c j := fun c j q1 q2 => by rw [F1 c j q1, vd_up_ne (by omega), vd_up_ne (by omega)]
  have D1 : ∀ c j, ¬ (c = 63 ∧ (j = 74 ∨ j = 76 ∨ (37 ≤ j ∧ j ≤ 38) ∨ j = 85)) → g1 c j = g c j := fun c j q1 => by rw [G1 c j (by omega), vd_up_ne (by omega), vd_up_ne (by omega), vd_up_ne (by omega)]
  have hf1 : vd_fU f1 (vd_up f1 27 6 (vd_I iu)) := (vd_fU.refl f1).up (by omega)
  have hg1 : vd_gU g1 (vd_up g1 63 36 (vd_I iu)) := (vd_gU.refl g1).up (by unfold vd_inH; omega) (by omega)
  rcases hiu with rfl | rfl
  · refine vd_HP.ret () () hf1 hg1 hp1 hq1 ⟨rfl, ⟨0, 0, 0, 0, ⟨Or.inl rfl, Or.inl rfl, Or.inl rfl, Or.inl rfl⟩, ⟨vd_up_eq _ _ _ _, by rw [vd_up_ne (by omega)]; exact f17, by rw [vd_up_ne (by omega)]; exact f18⟩, ⟨vd_up_eq _ _ _ _, by rw [vd_up_ne (by omega)]; exact g137, by rw [vd_up_ne (by omega)]; exact g138, by rw [vd_up_ne (by omega)]; exact g185⟩, fun h => absurd h (by decide), fun h => absurd h (by decide), fun h => absurd h (by decide), fun _ => ⟨by rw [vd_up_ne (by omega), A1 27 11 (by omega) (by omega)], fun j => ⟨by rw [vd_up_ne (by omega), A1 32 j (by omega) (by omega)], by rw [vd_up_ne (by omega), A1 33 j (by omega) (by omega)]⟩⟩⟩, fun c j q1 q2 q3 => by rw [vd_up_ne (by omega), A1 c j q1 (by omega)], fun c j q1 _ _ _ _ => by rw [vd_up_ne (by omega), D1 c j (by omega)]⟩ (fun d Q => ?_) (fun d Q => ?_)
    · simp (disch := first | decide | omega) only [vd_S41_15 hM, vd_S41_25 hM, vd_Tn, vd_TR, vd_fok0, vd_I_toInt, eq_self, if_true]
    · simp (disch := first | decide | omega) only [vd_S184_20 hN, vd_S184_30 hN, vd_TR, vd_fok0, vd_I_toInt, eq_self, if_true]
  · refine vd_HP.ask (vd_Q32 hM hN 2 2 (by decide) (by decide)) hf1 hg1 hT1 hp1 hq1 (fun r hr => u31 r hr vd_U) (fun s hs => b36 s hs vd_U vd_U) (fun d Q => by simp (disch := first | decide | omega) only [vd_S41_15 hM, vd_S41_26 hM, vd_S41_28 hM, vd_fok1, vd_I_toInt, show ¬ ((1 : Int) = 0) by decide, if_false]) (fun d Q => by simp (disch := first | decide | omega) only [vd_S184_20 hN, vd_S184_31 hN, vd_S184_33 hN, vd_fok1, vd_I_toInt, show ¬ ((1 : Int) = 0) by decide, if_false]) (fun f2 g2 p2 mt hmt hT2 hp2 hq2 F2 G2 => ?_)
    have hf2 : vd_fU f2 (vd_up f2 27 7 (vd_I mt)) := (vd_fU.refl f2).up (by omega)
    have hg2 : vd_gU g2 (vd_up g2 63 37 (vd_I mt)) := (vd_gU.refl g2).up (by unfold vd_inH; omega) (by omega)
    have f26 : f2 27 6 = vd_I 1 := by rw [F2 27 6 (by omega), vd_up_eq]
    have f28 : f2 27 8 = vd_I 0 := by rw [F2 27 8 (by omega), vd_up_ne (by omega)]; exact f18
    have g236 : g2 63 36 = vd_I 1 := by rw [G2 63 36 (by omega), vd_up_eq]
    have g238 : g2 63 38 = vd_I 0 := by rw [G2 63 38 (by omega), vd_up_ne (by omega)]; exact g138
    have A2 : ∀ c j, ¬ (c = 16 ∧ (j = 1 ∨ j = 3)) → ¬ (c = 27 ∧ (j = 6 ∨ j = 7 ∨ j = 8)) → f2 c j = f c j := fun c j q1 q2 => by rw [F2 c j q1, vd_up_ne (by omega), A1 c j q1 (by omega)]
    have D2 : ∀ c j, ¬ (c = 63 ∧ (j = 74 ∨ j = 76 ∨ (36 ≤ j ∧ j ≤ 38) ∨ j = 85)) → g2 c j = g c j := fun c j q1 => by rw [G2 c j (by omega), vd_up_ne (by omega), D1 c j (by omega)]
    have hT2' := hT2.keepH hf2.1 hg2.1
    have hp2' := hp2.keepU hf2.2
    have hq2' := hq2.keepU hg2.2
    rcases hmt with rfl | rfl
    · refine vd_HP.s hf2 hg2 ((vd_H41t hM hN (vd_I 0) vd_U vd_U hT2' hp2' hq2').mono (fun N' z a p' f' g' h => vd_VT.fin h (iu := 1) (mt := 0) (gu := 0) (by decide) ⟨by rw [vd_up_ne (by omega)]; exact f26, vd_up_eq _ _ _ _, by rw [vd_up_ne (by omega)]; exact f28⟩ ⟨by rw [vd_up_ne (by omega)]; exact g236, vd_up_eq _ _ _ _, by rw [vd_up_ne (by omega)]; exact g238⟩ (fun h => absurd h (by decide)) (fun h => absurd h (by decide)) (fun c j q1 q2 q3 => by rw [vd_up_ne (by omega), A2 c j q1 q2]) (fun c j q1 q2 q3 => by rw [vd_up_ne (by omega), D2 c j q1]))) (fun d Q => ?_) (fun d Q => ?_)
      · simp (disch := first | decide | omega) only [vd_S41_31 hM, vd_S41_73 hM, vd_S41_75 hM, vd_S41_80 hM, vd_fok0, vd_I_toInt, vd_up_ne (show ¬ (27 = 27 ∧ 8 = 7) by decide), f28, show ((0 : Int) < 3) by decide, eq_self, if_true]
      · simp (disch := first | decide | omega) only [vd_S184_36 hN, vd_fok0, vd_I_toInt, eq_self, if_true]
    · refine vd_HP.seq (γ := Unit) (δ := Unit) (pc1 := 65) (lz := fun _ => [.ref 27, .ref 16, .int (vd_I 7)]) (sz := fun _ => []) (pc1' := 54) (ly := fun _ => [.ref 63, vd_U, vd_U]) (sy := fun _ => []) (KC := fun d Q => Q) (KR := fun d Q => fun M1 r => vd_rs r [] (fun st => vd_wp (d + 3) 184 54 [.ref 63, vd_U, vd_U] st M1 Q)) hf2 hg2 (vd_treeLoop hM hN 7 0 _ _ p2 rfl hT2' hp2' hq2') (fun _ => u65) (fun N' y hN' => ?_) (fun d Q => ?_) (fun d Q => ?_) (fun d Q z M' => rfl) (fun d Q y M' => rfl) ?_
      · exact (vd_B184 (hN.n3 hN')).2.2.1 vd_U vd_U
      · simp (disch := first | decide | omega) only [vd_S41_31 hM, vd_S41_41 hM, vd_fok1, vd_I_toInt, show ¬ ((1 : Int) = 0) by decide, if_false]; rfl
      · simp (disch := first | decide | omega) only [vd_S184_36 hN, vd_S184_46 hN, vd_S184_51 hN, vd_S185_0 hN, vd_fok1, vd_I_toInt, show ¬ ((1 : Int) = 0) by decide, if_false]; rfl
      rintro f3 g3 N2 z y p3 ⟨rfl, v2, v3, v4⟩ _ hp3 hq3 hF3 hG3
      have hT3 := hT2'.keepH hF3 hG3
      refine vd_HP.ask (vd_Q32 hM hN 2 2 (by decide) (by decide)) (vd_fU.refl f3) (vd_gU.refl g3) hT3 hp3 hq3 u70 (fun s hs => b59 s hs vd_U vd_U) (fun d Q => by simp only [vd_S41_65 hM, vd_S41_67 hM]) (fun d Q => by simp only [vd_S184_54 hN, vd_S184_56 hN]) (fun f4 g4 p4 gu hgu hT4 hp4 hq4 F4 G4 => ?_)
      have hf4 : vd_fU f4 (vd_up f4 27 8 (vd_I gu)) := (vd_fU.refl f4).up (by omega)
      have hg4 : vd_gU g4 (vd_up g4 63 38 (vd_I gu)) := (vd_gU.refl g4).up (by unfold vd_inH; omega) (by omega)
      have hT4' := hT4.keepH hf4.1 hg4.1
      have hp4' := hp4.keepU hf4.2
      have hq4' := hq4.keepU hg4.2
      have f46 : (vd_up f4 27 8 (vd_I gu)) 27 6 = vd_I 1 := by rw [vd_up_ne (by omega), F4 27 6 (by omega), v3 27 6 (by omega) (by omega), vd_up_ne (by omega)]; exact f26
      have f47 : (vd_up f4 27 8 (vd_I gu)) 27 7 = vd_I 1 := by rw [vd_up_ne (by omega), F4 27 7 (by omega), v3 27 7 (by omega) (by omega), vd_up_eq]
      have g46 : (vd_up g4 63 38 (vd_I gu)) 63 36 = vd_I 1 := by rw [vd_up_ne (by omega), G4 63 36 (by omega), v4 63 36 (by omega) (by omega), vd_up_ne (by omega)]; exact g236
      have g47 : (vd_up g4 63 38 (vd_I gu)) 63 37 = vd_I 1 := by rw [vd_up_ne (by omega), G4 63 37 (by omega), v4 63 37 (by omega) (by omega), vd_up_eq]
      have A4 : ∀ c j, ¬ (c = 16 ∧ (j = 1 ∨ j = 3)) → ¬ (c = 27 ∧ (j = 6 ∨ j = 7 ∨ j = 8)) → c ≠ 30 → (vd_up f4 27 8 (vd_I gu)) c j = f c j := fun c j q1 q2 q3 => by rw [vd_up_ne (by omega), F4 c j q1, v3 c j q1 (by omega), vd_up_ne (by omega), A2 c j q1 q2]
      have D4 : ∀ c j, ¬ (c = 63 ∧ (j = 74 ∨ j = 76 ∨ (36 ≤ j ∧ j ≤ 38) ∨ j = 85)) → c ≠ 86 → (vd_up g4 63 38 (vd_I gu)) c j = g c j := fun c j q1 q2 => by rw [vd_up_ne (by omega), G4 c j (by omega), v4 c j (by omega) (by omega), vd_up_ne (by omega), D2 c j q1]
      have t4 : ∀ j, j < 7 → vd_rlC (vd_up f4 27 8 (vd_I gu)) (vd_up g4 63 38 (vd_I gu)) 30 86 j := fun j hj => by
        obtain ⟨z, z1, z2, z3⟩ := v2 j (by omega) hj
        exact ⟨z, z1, by rw [vd_up_ne (by omega), F4 30 j (by omega)]; exact z2, by rw [vd_up_ne (by omega), G4 86 j (by omega)]; exact z3⟩
      rcases hgu with rfl | rfl
      · refine vd_HP.s hf4 hg4 ((vd_H41t hM hN (vd_I 0) vd_U vd_U hT4' hp4' hq4').mono (fun N' z a p' f' g' h => vd_VT.fin h (iu := 1) (mt := 1) (gu := 0) (by decide) ⟨f46, f47, vd_up_eq _ _ _ _⟩ ⟨g46, g47, vd_up_eq _ _ _ _⟩ (fun _ => t4) (fun h => absurd h (by decide)) (fun c j q1 q2 q3 => A4 c j q1 q2 (by omega)) (fun c j q1 q2 q3 => D4 c j q1 q2))) (fun d Q => ?_) (fun d Q => ?_)
        · simp (disch := first | decide | omega) only [vd_S41_70 hM, vd_S41_73 hM, vd_S41_75 hM, vd_S41_80 hM, vd_fok0, vd_I_toInt, vd_up_eq, show ((0 : Int) < 3) by decide, eq_self, if_true]
        · simp (disch := first | decide | omega) only [vd_S184_59 hN, vd_fok0, vd_I_toInt, eq_self, if_true]
      · refine vd_HP.seq (γ := Int32) (δ := Unit) (pc1 := 103) (lz := fun x => [.ref 27, .ref 16, .int x]) (sz := fun _ => []) (pc1' := 77) (ly := fun _ => [.ref 63, vd_U, vd_U]) (sy := fun _ => []) (KC := fun d Q => Q) (KR := fun d Q => fun M1 r => vd_rs r [] (fun st => vd_wp (d + 3) 184 77 [.ref 63, vd_U, vd_U] st M1 Q)) hf4 hg4 (vd_guessLoop hM hN 3 0 _ _ p4 rfl hT4' hp4' hq4' (vd_up_eq _ _ _ _)) (fun x => u103 x) (fun N' y hN' => ?_) (fun d Q => ?_) (fun d Q => ?_) (fun d Q z M' => rfl) (fun d Q y M' => rfl) ?_
        · exact (vd_B184 (hN.n3 hN')).2.2.2.2.1 vd_U vd_U
        · simp (disch := first | decide | omega) only [vd_S41_70 hM, vd_S41_73 hM, vd_fok1]; rfl
        · simp (disch := first | decide | omega) only [vd_S184_59 hN, vd_S184_69 hN, vd_S184_74 hN, vd_S185_0 hN, vd_fok1, vd_I_toInt, show ¬ ((1 : Int) = 0) by decide, if_false]; rfl
        rintro f5 g5 N2 x y p5 ⟨rfl, w2, w3, w4⟩ _ hp5 hq5 hF5 hG5
        refine (vd_H41t hM hN x vd_U vd_U (hT4'.keepH hF5 hG5) hp5 hq5).mono (fun N' z a p' f' g' h => vd_VT.fin h (iu := 1) (mt := 1) (gu := 1) (by decide) ⟨?_, ?_, ?_⟩ ⟨?_, ?_, ?_⟩ (fun _ j hj => ?_) (fun _ j hj => w2 j (by omega) hj) (fun c j q1 q2 q3 => ?_) (fun c j q1 q2 q3 => ?_))
        · rw [w3 27 6 (by omega) (by omega)]; exact f46
        · rw [w3 27 7 (by omega) (by omega)]; exact f47
        · rw [w3 27 8 (by omega) (by omega), vd_up_eq]
        · rw [w4 63 36 (by omega) (by omega)]; exact g46
        · rw [w4 63 37 (by omega) (by omega)]; exact g47
        · rw [w4 63 38 (by omega) (by omega), vd_up_eq]
        · obtain ⟨z, z1, z2, z3⟩ := t4 j hj
          exact ⟨z, z1, by rw [w3 30 j (by omega) (by omega)]; exact z2, by rw [w4 86 j (by omega) (by omega)]; exact z3⟩
        · rw [w3 c j q1 (by omega)]; exact A4 c j q1 q2 (by omega)
        · rw [w4 c j (by omega) (by omega)]; exact D4 c j q1 q2
end VDHT
