/-! ===== a frame's header: from its first bit ===== -/
section VDHE
variable {M N : vd_M} {ow fa lo lf : Nat}
/-- what is the same since the header began: all but the header's own cells -/
def vd_HZ (f0 g0 f g : Nat → Nat → Int32) : Prop := (∀ c j, ¬ (c = 16 ∧ (j = 1 ∨ j = 3)) → ¬ (c = 17 ∧ j ≤ 7) → f c j = f0 c j) ∧ (∀ c j, ¬ (c = 63 ∧ (j = 74 ∨ j = 76 ∨ j = 77 ∨ (79 ≤ j ∧ j ≤ 80) ∨ (83 ≤ j ∧ j ≤ 84))) → g c j = g0 c j)
theorem vd_sdm.keep {f g f' g' : Nat → Nat → Int32} {r : Nat} (h : vd_sdm M N f g r) (hf : ∀ c j, 197 ≤ c → f' c j = f c j) (hg : ∀ c j, 129 ≤ c → g' c j = g c j) : vd_sdm M N f' g' r := by
  rcases h with h | ⟨p, q, w, hh, a1, a2, ⟨a3, a4⟩, ⟨a5, a6⟩, a7, ⟨a8, a9⟩, a10, a11⟩
  · exact Or.inl h
  · exact Or.inr ⟨p, q, w, hh, a1, a2, ⟨a3, a4⟩, ⟨a5, a6⟩, a7, ⟨by rw [hf p 0 a4]; exact a8, by rw [hf p 1 a4]; exact a9⟩, by rw [hg q 0 a6]; exact a10, by rw [hg q 1 a6]; exact a11⟩
theorem vd_slk.of {f g : Nat → Nat → Int32} (h : ∀ r, r < 8 → vd_sdm M N f g r) : vd_slk M := fun r hr => by
  rcases h r hr with ⟨a, _⟩ | ⟨p, q, w, hh, a1, a2, ⟨a3, a4⟩, _⟩
  · exact Or.inl a
  · exact Or.inr ⟨p, a1, a3, a4⟩
/-- kind of frame known: sizes or references -/
theorem vd_H29b (hM : vd_SC M ow fa lo lf) (hN : vd_SR N) {f0 g0 f g : Nat → Nat → Int32} {p to : Int} {sho rs kd rfr : Int} (t0 : 0 ≤ to) (t1 : to ≤ 65536) (x5 : Int32) (hsd : ∀ r, r < 8 → vd_sdm M N f0 g0 r) (hT : vd_RT f g) (hp : vd_pb f p (8 * to) 0) (hq : vd_qb g p (8 * to) 0) (hz : vd_HZ f0 g0 f g) (k0 : (sho = 0 ∨ sho = 1) ∧ (rs = 0 ∨ rs = 1) ∧ (0 ≤ kd ∧ kd ≤ 2) ∧ (0 ≤ rfr ∧ rfr ≤ 255)) (k1 : f 17 0 = vd_I 0 ∧ f 17 2 = vd_I sho ∧ f 17 3 = vd_I rs ∧ f 17 4 = vd_I kd ∧ f 17 7 = vd_I rfr) (k2 : g 63 77 = vd_I rfr ∧ g 63 79 = vd_I sho ∧ g 63 80 = vd_I rs ∧ g 63 83 = vd_I (if kd = 1 then 1 else 0) ∧ g 63 84 = vd_I (if kd = 0 then 1 else 0)) : vd_HP M N vd_Tn vd_T174 5 29 118 [.ref 17, .ref 16, .ref 13, .ref 27, .int (vd_I to), .int x5, vd_U] [] 4 174 161 [.ref 63, .int x5, vd_U, vd_U] [] (8 * to) (vd_VH M N f0 g0 to) f g := by
  obtain ⟨u139, _⟩ := vd_U29b hM (vd_I to)
  have hs : vd_slk M := vd_slk.of hsd
  have P33 := fun d Q => vd_P33k (d := d) (Q := Q) hM k1.2.2.2.1 k0.2.2.1.1 k0.2.2.1.2
  obtain ⟨a0, a2, a3, a4, a7⟩ := k1
  obtain ⟨b77, b79, b80, b83, b84⟩ := k2
  by_cases c : kd = 2
  · subst c
    rw [if_pos rfl] at P33
    have hg1 : vd_gU g (vd_up g 63 33 (vd_I 0)) := (vd_gU.refl g).up (by unfold vd_inH; omega) (by omega)
    refine vd_HP.seq (γ := Unit) (δ := Unit) (pc1 := 139) (lz := fun _ => [.ref 17, .ref 16, .ref 13, .ref 27, .int (vd_I to), .int x5, vd_U]) (sz := fun _ => []) (pc1' := 202) (ly := fun _ => [.ref 63, .int x5, vd_U, vd_U]) (sy := fun _ => []) (KC := fun d Q => fun M1 r => vd_rs r [] (fun st => vd_wp (d + 5) 29 139 [.ref 17, .ref 16, .ref 13, .ref 27, .int (vd_I to), .int x5, vd_U] st M1 Q)) (KR := fun d Q => fun M1 r => vd_rs r [] (fun st => vd_wp (d + 4) 174 202 [.ref 63, .int x5, vd_U, vd_U] st M1 Q)) (vd_fU.refl f) hg1 (vd_H35 hM hs hN (fun r hr => (hsd r hr).keep (fun c j q => hz.1 c j (by omega) (by omega)) (fun c j q => by rw [vd_up_ne (by omega)]; exact hz.2 c j (by omega))) (hT.keepH (vd_fHd.refl f) hg1.1) hp (hq.keepU hg1.2)) (fun _ => u139 x5 vd_U) (fun N' y hn => (vd_B174b (hN.n3 hn)).2.2.2.2.2.2 x5 vd_U vd_U) (fun d Q => ?_) (fun d Q => ?_) (fun d Q z M' => rfl) (fun d Q y M' => rfl) ?_
    · simp (disch := omega) only [vd_S29_118 hM, vd_S29_119 hM, P33, vd_rs_v, vd_rs_n, vd_S29_122 hM, vd_S29_133 hM, vd_S29_136 hM, vd_I_toInt, eq_self, if_true]
    · rw [if_neg (by decide)] at b83 b84
      simp (disch := first | decide | omega) only [vd_S174_161 hN, vd_S174_169 hN, vd_S174_180 hN, vd_S174_181 hN, vd_S174_198 hN, vd_S174_199 hN, b83, b84, vd_fok0, vd_I_toInt, eq_self, if_true]
    rintro f2 g2 N2 z y p2 ⟨hN2, ⟨w, h, fi, ke, W1, W2, W3, ⟨w5, w6, w10, w11⟩, ⟨v24, v25, v34, v40⟩⟩, F2, G2⟩ hn2 hp2 hq2 hF2 hG2
    refine vd_H29c hM hN2 t0 t1 x5 ((hT.keepH (vd_fHd.refl f) hg1.1).keepH hF2 hG2) hp2 hq2 ⟨⟨k0.1, k0.2.1, k0.2.2.1, k0.2.2.2, W1⟩, ⟨?_, ?_, ?_, ?_, w5, w6, ?_⟩, ⟨v24, v25, ?_, ?_, ?_, ?_, ?_, ?_⟩, fun _ => ⟨fi, ke, W3, ⟨w10, w11, v34, v40⟩, W2⟩, fun q => absurd rfl q⟩ (fun c j q1 q2 => ?_)
    · rw [F2 17 0 (by omega) (by omega) (by omega) (by omega)]; exact a0
    · rw [F2 17 2 (by omega) (by omega) (by omega) (by omega)]; exact a2
    · rw [F2 17 3 (by omega) (by omega) (by omega) (by omega)]; exact a3
    · rw [F2 17 4 (by omega) (by omega) (by omega) (by omega)]; exact a4
    · rw [F2 17 7 (by omega) (by omega) (by omega) (by omega)]; exact a7
    · rw [G2 63 33 (by omega) (by omega), vd_up_eq, if_pos rfl]
    · rw [G2 63 77 (by omega) (by omega), vd_up_ne (by omega)]; exact b77
    · rw [G2 63 79 (by omega) (by omega), vd_up_ne (by omega)]; exact b79
    · rw [G2 63 80 (by omega) (by omega), vd_up_ne (by omega)]; exact b80
    · rw [G2 63 83 (by omega) (by omega), vd_up_ne (by omega)]; exact b83
    · rw [G2 63 84 (by omega) (by omega), vd_up_ne (by omega)]; exact b84
    · rw [F2 c j (by omega) (by omega) (by omega) (by omega)]; exact hz.1 c j (by omega) (by omega)
  · rw [if_neg c] at P33
    have hg1 : vd_gU g (vd_up g 63 33 (vd_I 1)) := (vd_gU.refl g).up (by unfold vd_inH; omega) (by omega)
    have u130 : vd_UC M vd_Tn 5 29 130 [.ref 17, .ref 16, .ref 13, .ref 27, .int (vd_I to), .int x5, vd_U] [] := vd_UC.s (u139 x5 vd_U) (fun d f Q => by simp only [vd_S29_130 hM])
    refine vd_HP.seq (γ := Unit) (δ := Unit) (pc1 := 130) (lz := fun _ => [.ref 17, .ref 16, .ref 13, .ref 27, .int (vd_I to), .int x5, vd_U]) (sz := fun _ => []) (pc1' := 195) (ly := fun _ => [.ref 63, .int x5, vd_U, vd_U]) (sy := fun _ => []) (KC := fun d Q => fun M1 r => vd_rs r [] (fun st => vd_wp (d + 5) 29 130 [.ref 17, .ref 16, .ref 13, .ref 27, .int (vd_I to), .int x5, vd_U] st M1 Q)) (KR := fun d Q => fun M1 r => vd_rs r [] (fun st => vd_wp (d + 4) 174 195 [.ref 63, .int x5, vd_U, vd_U] st M1 Q)) (vd_fU.refl f) hg1 (vd_H34 hM hN (hT.keepH (vd_fHd.refl f) hg1.1) hp (hq.keepU hg1.2)) (fun _ => u130) (fun N' y hn => (vd_B174a (hN.n3 hn)).2.2.2.2.2.2.2.2.2.2 x5 vd_U vd_U) (fun d Q => ?_) (fun d Q => ?_) (fun d Q z M' => rfl) (fun d Q y M' => rfl) ?_
    · simp (disch := omega) only [vd_S29_118 hM, vd_S29_119 hM, P33, vd_rs_v, vd_rs_n, vd_S29_122 hM, vd_S29_125 hM, vd_S29_127 hM, vd_I_toInt, show ¬ ((1 : Int) = 0) by decide, if_false]
    · by_cases c0 : kd = 0
      · rw [if_pos c0] at b84
        simp (disch := first | decide | omega) only [vd_S174_161 hN, vd_S174_176 hN, vd_S174_181 hN, vd_S174_191 hN, vd_S174_192 hN, b84, vd_fok1, vd_I_toInt, show ¬ ((1 : Int) = 0) by decide, if_false]
      · rw [if_neg c0] at b84
        rw [if_pos (by omega)] at b83
        simp (disch := first | decide | omega) only [vd_S174_161 hN, vd_S174_169 hN, vd_S174_176 hN, vd_S174_181 hN, vd_S174_191 hN, vd_S174_192 hN, b83, b84, vd_fok1, vd_I_toInt, eq_self, if_true, show ¬ ((1 : Int) = 0) by decide, if_false]
    rintro f2 g2 N2 z y p2 ⟨rfl, ⟨w, h, W1, ⟨w5, w6⟩, ⟨v24, v25⟩⟩, F2, G2⟩ hn2 hp2 hq2 hF2 hG2
    refine vd_HP.s (vd_fU.refl f2) (vd_gU.refl g2) (vd_H29c hM hN t0 t1 x5 ((hT.keepH (vd_fHd.refl f) hg1.1).keepH hF2 hG2) hp2 hq2 ⟨⟨k0.1, k0.2.1, k0.2.2.1, k0.2.2.2, W1⟩, ⟨?_, ?_, ?_, ?_, w5, w6, ?_⟩, ⟨v24, v25, ?_, ?_, ?_, ?_, ?_, ?_⟩, fun q => absurd q c, fun _ => rfl⟩ (fun c j q1 q2 => ?_)) (fun d Q => by simp only [vd_S29_130 hM]) (fun d Q => by simp only [vd_S174_195 hN])
    · rw [F2 17 0 (by omega) (by omega)]; exact a0
    · rw [F2 17 2 (by omega) (by omega)]; exact a2
    · rw [F2 17 3 (by omega) (by omega)]; exact a3
    · rw [F2 17 4 (by omega) (by omega)]; exact a4
    · rw [F2 17 7 (by omega) (by omega)]; exact a7
    · rw [G2 63 33 (by omega), vd_up_eq, if_neg c]
    · rw [G2 63 77 (by omega), vd_up_ne (by omega)]; exact b77
    · rw [G2 63 79 (by omega), vd_up_ne (by omega)]; exact b79
    · rw [G2 63 80 (by omega), vd_up_ne (by omega)]; exact b80
    · rw [G2 63 83 (by omega), vd_up_ne (by omega)]; exact b83
    · rw [G2 63 84 (by omega), vd_up_ne (by omega)]; exact b84
    · rw [F2 c j (by omega) (by omega)]; exact hz.1 c j (by omega) (by omega)
/-- not a picture again -/
theorem vd_H29a (hM : vd_SC M ow fa lo lf) (hN : vd_SR N) {f0 g0 f g : Nat → Nat → Int32} {p to : Int} (t0 : 0 ≤ to) (t1 : to ≤ 65536) (hsd : ∀ r, r < 8 → vd_sdm M N f0 g0 r) (hT : vd_RT f g) (hp : vd_pb f p (8 * to) 0) (hq : vd_qb g p (8 * to) 0) (hz : vd_HZ f0 g0 f g) (h0 : f 17 0 = vd_I 0) : vd_HP M N vd_Tn vd_T174 5 29 53 [.ref 17, .ref 16, .ref 13, .ref 27, .int (vd_I to), vd_U, vd_U] [] 4 174 93 [.ref 63, vd_U, vd_U, vd_U] [] (8 * to) (vd_VH M N f0 g0 to) f g := by
  obtain ⟨_, _, _, _, _, u57, u64, u72, u97, u115⟩ := vd_U29a hM (vd_slk.of hsd) (vd_I to)
  obtain ⟨_, _, _, _, _, b97, b103, b111, b148, b158, _⟩ := vd_B174a hN
  refine vd_HP.ask (vd_Q32 hM hN 4 3 (by decide) (by decide)) (vd_fU.refl f) (vd_gU.refl g) hT hp hq (u57 vd_U vd_U) (b97 vd_U vd_U vd_U) (fun d Q => by simp only [vd_S29_53 hM, vd_S29_54 hM]) (fun d Q => by simp only [vd_S174_93 hN, vd_S174_94 hN]) (fun f1 g1 p1 it hit hT1 hp1 hq1 F1 G1 => ?_)
  refine vd_HP.ask (vd_Q32 hM hN 4 3 (by decide) (by decide)) (vd_fU.refl f1) (vd_gU.refl g1) hT1 hp1 hq1 (u64 (vd_I it) vd_U) (b103 (vd_I it) vd_U vd_U) (fun d Q => by simp only [vd_S29_57 hM, vd_S29_61 hM]) (fun d Q => by simp only [vd_S174_97 hN, vd_S174_100 hN]) (fun f2 g2 p2 sho hsho hT2 hp2 hq2 F2 G2 => ?_)
  have ok2 : vd_fok .boolean (vd_I sho) = true := by rcases hsho with rfl | rfl <;> decide
  refine vd_HP.ask (f1 := vd_up f2 17 2 (vd_I sho)) (g1 := vd_up g2 63 79 (vd_I sho)) (vd_Q32 hM hN 4 3 (by decide) (by decide)) ((vd_fU.refl f2).up (by omega)) ((vd_gU.refl g2).up (by unfold vd_inH; omega) (by omega)) hT2 hp2 hq2 (u72 (vd_I it) vd_U) (b111 (vd_I it) vd_U vd_U) (fun d Q => by simp (disch := assumption) only [vd_S29_64 hM, vd_S29_69 hM]) (fun d Q => by simp (disch := assumption) only [vd_S174_103 hN, vd_S174_108 hN]) (fun f3 g3 p3 rs hrs hT3 hp3 hq3 F3 G3 => ?_)
  have ok3 : vd_fok .boolean (vd_I rs) = true := by rcases hrs with rfl | rfl <;> decide
  have Fa : ∀ c j, ¬ (c = 16 ∧ (j = 1 ∨ j = 3)) → ¬ (c = 17 ∧ j = 2) → f3 c j = f c j := fun c j q1 q2 => by rw [F3 c j q1, vd_up_ne (by omega), F2 c j q1, F1 c j q1]
  have Ga : ∀ c j, ¬ (c = 63 ∧ (j = 74 ∨ j = 76 ∨ j = 79)) → g3 c j = g c j := fun c j q1 => by rw [G3 c j (by omega), vd_up_ne (by omega), G2 c j (by omega), G1 c j (by omega)]
  have f30 : f3 17 0 = vd_I 0 := by rw [Fa 17 0 (by omega) (by omega)]; exact h0
  have f32 : f3 17 2 = vd_I sho := by rw [F3 17 2 (by omega), vd_up_eq]
  have g379 : g3 63 79 = vd_I sho := by rw [G3 63 79 (by omega), vd_up_eq]
  have hf4 : vd_fU f3 (vd_up (vd_up (vd_up f3 17 3 (vd_I rs)) 17 4 (vd_I 0)) 17 7 (vd_I 255)) := (((vd_fU.refl f3).up (by omega)).up (by omega)).up (by omega)
  have hg4 : ∀ y : Int, vd_gU g3 (vd_up (vd_up (vd_up (vd_up g3 63 80 (vd_I rs)) 63 84 (vd_I y)) 63 83 (vd_I 0)) 63 77 (vd_I 255)) := fun y => ((((vd_gU.refl g3).up (by unfold vd_inH; omega) (by omega)).up (by unfold vd_inH; omega) (by omega)).up (by unfold vd_inH; omega) (by omega)).up (by unfold vd_inH; omega) (by omega)
  rcases hit with rfl | rfl
  · refine vd_HP.s hf4 (hg4 1) (vd_H29b hM hN (sho := sho) (rs := rs) (kd := 0) (rfr := 255) t0 t1 (vd_I 0) hsd (hT3.keepH hf4.1 (hg4 1).1) (hp3.keepU hf4.2) (hq3.keepU (hg4 1).2) ⟨fun c j q1 q2 => ?_, fun c j q1 => ?_⟩ ⟨hsho, hrs, by decide, by decide⟩ ⟨?_, ?_, ?_, ?_, vd_up_eq _ _ _ _⟩ ⟨vd_up_eq _ _ _ _, ?_, ?_, ?_, ?_⟩) (fun d Q => ?_) (fun d Q => ?_)
    · rw [vd_up_ne (by omega), vd_up_ne (by omega), vd_up_ne (by omega), Fa c j q1 (by omega)]; exact hz.1 c j q1 q2
    · rw [vd_up_ne (by omega), vd_up_ne (by omega), vd_up_ne (by omega), vd_up_ne (by omega), Ga c j (by omega)]; exact hz.2 c j q1
    · rw [vd_up_ne (by omega), vd_up_ne (by omega), vd_up_ne (by omega)]; exact f30
    · rw [vd_up_ne (by omega), vd_up_ne (by omega), vd_up_ne (by omega)]; exact f32
    · rw [vd_up_ne (by omega), vd_up_ne (by omega), vd_up_eq]
    · rw [vd_up_ne (by omega), vd_up_eq]
    · rw [vd_up_ne (by omega), vd_up_ne (by omega), vd_up_ne (by omega), vd_up_ne (by omega)]; exact g379
    · rw [vd_up_ne (by omega), vd_up_ne (by omega), vd_up_ne (by omega), vd_up_eq]
    · rw [vd_up_ne (by omega), vd_up_eq, if_neg (by decide)]
    · rw [vd_up_ne (by omega), vd_up_ne (by omega), vd_up_eq, if_pos rfl]
    · simp (disch := first | assumption | omega) only [vd_S29_72 hM, vd_I_toInt, eq_self, if_true]
    · simp (disch := first | assumption | decide | omega) only [vd_S174_111 hN, vd_S174_119 hN, vd_S174_124 hN, vd_fok1, vd_I_toInt, eq_self, if_true]
  · refine vd_HP.ask (vd_Q32 hM hN 4 3 (by decide) (by decide)) hf4 (hg4 0) hT3 hp3 hq3 (u97 (vd_I 1) vd_U) (b148 (vd_I 1) vd_U vd_U) (fun d Q => by simp (disch := first | assumption | omega) only [vd_S29_72 hM, vd_S29_92 hM, vd_S29_94 hM, vd_I_toInt, show ¬ ((1 : Int) = 0) by decide, if_false]) (fun d Q => by simp (disch := first | assumption | decide | omega) only [vd_S174_111 hN, vd_S174_123 hN, vd_S174_124 hN, vd_S174_143 hN, vd_S174_145 hN, vd_fok0, vd_I_toInt, show ¬ ((1 : Int) = 0) by decide, if_false]) (fun f5 g5 p5 io hio hT5 hp5 hq5 F5 G5 => ?_)
    have ok5 : vd_fok .boolean (vd_I io) = true := by rcases hio with rfl | rfl <;> decide
    have hf6 : ∀ kd : Int, vd_fU f5 (vd_up f5 17 4 (vd_I kd)) := fun kd => (vd_fU.refl f5).up (by omega)
    have hg6 : vd_gU g5 (vd_up g5 63 83 (vd_I io)) := (vd_gU.refl g5).up (by unfold vd_inH; omega) (by omega)
    have hkd : ∃ kd : Int, kd = (if io = 0 then 2 else 1) := ⟨_, rfl⟩
    obtain ⟨kd, hkd⟩ := hkd
    refine vd_HP.ask (f1 := vd_up f5 17 4 (vd_I kd)) (vd_Q30 hM hN 4 3 8 (by decide) (by decide)) (hf6 kd) hg6 hT5 hp5 hq5 (u115 (vd_I 1) vd_U) (b158 (vd_I 1) vd_U vd_U) (fun d Q => ?_) (fun d Q => by simp (disch := assumption) only [vd_S174_148 hN, vd_S174_155 hN]) (fun f7 g7 p7 rfr hrfr hT7 hp7 hq7 F7 G7 => ?_)
    · rcases hio with rfl | rfl
      · rw [hkd, if_pos rfl]
        simp (disch := omega) only [vd_S29_97 hM, vd_S29_104 hM, vd_S29_105 hM, vd_S29_112 hM, vd_I_toInt, eq_self, if_true]
      · rw [hkd, if_neg (by decide)]
        simp (disch := omega) only [vd_S29_97 hM, vd_S29_100 hM, vd_S29_105 hM, vd_S29_112 hM, vd_I_toInt, show ¬ ((1 : Int) = 0) by decide, if_false]
    have hrfr := hrfr.n (z := 256) (by decide)
    have hf8 : vd_fU f7 (vd_up f7 17 7 (vd_I rfr)) := (vd_fU.refl f7).up (by omega)
    have hg8 : vd_gU g7 (vd_up g7 63 77 (vd_I rfr)) := (vd_gU.refl g7).up (by unfold vd_inH; omega) (by omega)
    have kdb : (kd = 1 ∧ io = 1) ∨ (kd = 2 ∧ io = 0) := by
      rcases hio with rfl | rfl
      · exact Or.inr ⟨by rw [hkd, if_pos rfl], rfl⟩
      · exact Or.inl ⟨by rw [hkd, if_neg (by decide)], rfl⟩
    refine vd_HP.s hf8 hg8 (vd_H29b hM hN (sho := sho) (rs := rs) (kd := kd) (rfr := rfr) t0 t1 (vd_I 1) hsd (hT7.keepH hf8.1 hg8.1) (hp7.keepU hf8.2) (hq7.keepU hg8.2) ⟨fun c j q1 q2 => ?_, fun c j q1 => ?_⟩ ⟨hsho, hrs, by omega, by omega⟩ ⟨?_, ?_, ?_, ?_, vd_up_eq _ _ _ _⟩ ⟨vd_up_eq _ _ _ _, ?_, ?_, ?_, ?_⟩) (fun d Q => by simp only [vd_S29_115 hM]) (fun d Q => by simp only [vd_S174_158 hN])
    · rw [vd_up_ne (by omega), F7 c j q1, vd_up_ne (by omega), F5 c j q1, vd_up_ne (by omega), vd_up_ne (by omega), vd_up_ne (by omega), Fa c j q1 (by omega)]; exact hz.1 c j q1 q2
    · rw [vd_up_ne (by omega), G7 c j (by omega), vd_up_ne (by omega), G5 c j (by omega), vd_up_ne (by omega), vd_up_ne (by omega), vd_up_ne (by omega), vd_up_ne (by omega), Ga c j (by omega)]; exact hz.2 c j q1
    · rw [vd_up_ne (by omega), F7 17 0 (by omega), vd_up_ne (by omega), F5 17 0 (by omega), vd_up_ne (by omega), vd_up_ne (by omega), vd_up_ne (by omega)]; exact f30
    · rw [vd_up_ne (by omega), F7 17 2 (by omega), vd_up_ne (by omega), F5 17 2 (by omega), vd_up_ne (by omega), vd_up_ne (by omega), vd_up_ne (by omega)]; exact f32
    · rw [vd_up_ne (by omega), F7 17 3 (by omega), vd_up_ne (by omega), F5 17 3 (by omega), vd_up_ne (by omega), vd_up_ne (by omega), vd_up_eq]
    · rw [vd_up_ne (by omega), F7 17 4 (by omega), vd_up_eq]
    · rw [vd_up_ne (by omega), G7 63 79 (by omega), vd_up_ne (by omega), G5 63 79 (by omega), vd_up_ne (by omega), vd_up_ne (by omega), vd_up_ne (by omega), vd_up_ne (by omega)]; exact g379
    · rw [vd_up_ne (by omega), G7 63 80 (by omega), vd_up_ne (by omega), G5 63 80 (by omega), vd_up_ne (by omega), vd_up_ne (by omega), vd_up_ne (by omega), vd_up_eq]
    · rw [vd_up_ne (by omega), G7 63 83 (by omega), vd_up_eq]
      congr 1
      split <;> omega
    · rw [vd_up_ne (by omega), G7 63 84 (by omega), vd_up_ne (by omega), G5 63 84 (by omega), vd_up_ne (by omega), vd_up_ne (by omega), vd_up_eq, if_neg (by omega)]
/-- header.read, and the reference's frame up to the picture or the work -/
theorem vd_H29 (hM : vd_SC M ow fa lo lf) (hN : vd_SR N) {f g : Nat → Nat → Int32} {p to : Int} (t0 : 0 ≤ to) (t1 : to ≤ 65536) (hsd : ∀ r, r < 8 → vd_sdm M N f g r) (hT : vd_RT f g) (hp : vd_pb f p (8 * to) 0) (hq : vd_qb g p (8 * to) 0) : vd_HP M N vd_Tn vd_T174 5 29 0 [.ref 17, .ref 16, .ref 13, .ref 27, .int (vd_I to), vd_U, vd_U] [] 4 174 0 [.ref 63, vd_U, vd_U, vd_U] [] (8 * to) (vd_VH M N f g to) f g := by
  obtain ⟨u5, u14, u19, u35, u52, u57, _⟩ := vd_U29a hM (vd_slk.of hsd) (vd_I to)
  obtain ⟨b6, b19, b31, b39, b59, _⟩ := vd_B174a hN
  refine vd_HP.ask (vd_Q30 hM hN 4 3 2 (by decide) (by decide)) (vd_fU.refl f) (vd_gU.refl g) hT hp hq (u5 vd_U vd_U) (b6 vd_U vd_U vd_U) (fun d Q => by simp only [vd_S29_0 hM, vd_S29_2 hM]) (fun d Q => by simp only [vd_S174_0 hN, vd_S174_3 hN]) (fun f1 g1 p1 r hr hT1 hp1 hq1 F1 G1 => ?_)
  have hr := hr.n (z := 4) (by decide)
  by_cases c : r = 2
  · refine vd_HP.ok (n' := 3) (pc1' := 19) (ls1' := [.ref 63, vd_U, vd_U, vd_U]) (st1' := []) hN (x := 2) (by decide) (by decide) (vd_gU.refl g1) hq1 (fun d Q => ?_) (fun g2 hq2 G2 => ?_)
    · simp (disch := omega) only [vd_S174_6 hN, vd_S174_10 hN, vd_S174_15 hN, vd_S174_16 hN, vd_I_toInt, c, eq_self, if_true]
    have hz2 : g2 63 76 = vd_I 0 := hq2.2.2.1
    refine vd_HP.ask (vd_Q32 hM hN 4 3 (by decide) (by decide)) (vd_fU.refl f1) (vd_gU.refl g2) (hT1.keepH (vd_fHd.refl f1) G2.hd) hp1 hq2 (u19 vd_U vd_U) (b31 vd_U vd_U vd_U) (fun d Q => ?_) (fun d Q => ?_) (fun f3 g3 p3 ag hag hT3 hp3 hq3 F3 G3 => ?_)
    · simp (disch := omega) only [vd_S29_5 hM, vd_S29_14 hM, vd_S29_16 hM, vd_I_toInt, c, eq_self, if_true]
    · simp (disch := omega) only [vd_S174_19 hN, vd_S174_27 hN, vd_S174_28 hN, hz2, vd_I_toInt, eq_self, if_true]
    have hf4 : vd_fU f3 (vd_up f3 17 0 (vd_I ag)) := (vd_fU.refl f3).up (by omega)
    rcases hag with rfl | rfl
    · refine vd_HP.s hf4 (vd_gU.refl g3) (vd_H29a hM hN t0 t1 hsd (hT3.keepH hf4.1 (vd_gHd.refl g3)) (hp3.keepU hf4.2) hq3 ⟨fun c j q1 q2 => ?_, fun c j q1 => ?_⟩ (vd_up_eq _ _ _ _)) (fun d Q => ?_) (fun d Q => ?_)
      · rw [vd_up_ne (by omega), F3 c j q1, F1 c j q1]
      · rw [G3 c j (by omega), G2 c j (by omega), G1 c j (by omega)]
      · simp (disch := first | decide | omega) only [vd_S29_19 hM, vd_fok0, vd_I_toInt, eq_self, if_true]
      · simp (disch := omega) only [vd_S174_31 hN, vd_I_toInt, eq_self, if_true]
    · refine vd_HP.ask (vd_Q30 hM hN 4 3 3 (by decide) (by decide)) hf4 (vd_gU.refl g3) hT3 hp3 hq3 (u35 vd_U vd_U) (b39 vd_U vd_U vd_U) (fun d Q => ?_) (fun d Q => ?_) (fun f5 g5 p5 s hs hT5 hp5 hq5 F5 G5 => ?_)
      · simp (disch := first | decide | omega) only [vd_S29_19 hM, vd_S29_29 hM, vd_S29_32 hM, vd_fok1, vd_I_toInt, show ¬ ((1 : Int) = 0) by decide, if_false]
      · simp (disch := omega) only [vd_S174_31 hN, vd_S174_34 hN, vd_S174_36 hN, vd_I_toInt, show ¬ ((1 : Int) = 0) by decide, if_false]
      have hs := hs.n (z := 8) (by decide)
      obtain ⟨sn, rfl⟩ := Int.eq_ofNat_of_zero_le hs.1
      have hf6 : vd_fU f5 (vd_up f5 17 1 (vd_I (sn : Int))) := (vd_fU.refl f5).up (by omega)
      rcases hsd sn (by omega) with ⟨h1, h2⟩ | ⟨pp, qq, w, h, h1, h2, _⟩
      · refine vd_HP.bad (n := 4) (n' := 3) hM hN (x := 3) (by decide) (by decide) hf6 (vd_gU.refl g5) hp5 hq5 (u52 vd_U vd_U) (b59 (vd_I (sn : Int)) vd_U vd_U) (fun d Q => ?_) (fun d Q => ?_)
        · simp (disch := omega) only [vd_S29_35 hM, vd_S29_43 hM, Int.toNat_natCast, h1, vd_vr_none, vd_S29_44n hM, vd_S29_47 hM, vd_S29_49 hM]
        · simp (disch := omega) only [vd_S174_39 hN, vd_S174_46 hN, Int.toNat_natCast, h2, vd_vr_none, vd_S174_47n hN, vd_S174_54 hN, vd_S174_55 hN, vd_S174_56 hN]
      · refine vd_HP.ok (n' := 3) (pc1' := 59) (ls1' := [.ref 63, .int (vd_I (sn : Int)), vd_U, vd_U]) (st1' := []) hN (x := 3) (by decide) (by decide) (vd_gU.refl g5) hq5 (fun d Q => ?_) (fun g6 hq6 G6 => ?_)
        · simp (disch := omega) only [vd_S174_39 hN, vd_S174_46 hN, Int.toNat_natCast, h2, vd_vr_some, vd_S174_47 hN, vd_S174_50 hN, vd_S174_55 hN, vd_S174_56 hN]
        have hz6 : g6 63 76 = vd_I 0 := hq6.2.2.1
        refine vd_HP.ret () (1, vd_I (sn : Int), 0, 0) hf6 (vd_gU.refl g6) hp5 hq6 (Or.inl ⟨rfl, rfl, ⟨sn, by omega, by rw [h1]; simp, rfl, ?_, vd_up_eq _ _ _ _⟩, fun c j q1 q2 => ?_, fun c j q1 => ?_⟩) (fun d Q => ?_) (fun d Q => ?_)
        · rw [vd_up_ne (by omega), F5 17 0 (by omega), vd_up_eq]
        · rw [vd_up_ne (by omega), F5 c j q1, vd_up_ne (by omega), F3 c j q1, F1 c j q1]
        · rw [G6 c j q1, G5 c j q1, G3 c j q1, G2 c j q1, G1 c j q1]
        · simp (disch := omega) only [vd_S29_35 hM, vd_S29_43 hM, Int.toNat_natCast, h1, vd_vr_some, vd_S29_44 hM, vd_S29_52 hM, vd_Tn, vd_TR]
        · rw [vd_T174_1 hz6]
          simp (disch := omega) only [vd_S174_59 hN, hz6, vd_I_toInt, eq_self, if_true]
  · refine vd_HP.bad (n := 4) (n' := 3) hM hN (x := 2) (by decide) (by decide) (vd_fU.refl f1) (vd_gU.refl g1) hp1 hq1 (u14 vd_U vd_U) (b19 vd_U vd_U vd_U) (fun d Q => ?_) (fun d Q => ?_)
    · simp (disch := omega) only [vd_S29_5 hM, vd_S29_9 hM, vd_S29_11 hM, vd_I_toInt, c, if_false]
    · simp (disch := omega) only [vd_S174_6 hN, vd_S174_14 hN, vd_S174_15 hN, vd_S174_16 hN, vd_I_toInt, c, if_false]
end VDHE
