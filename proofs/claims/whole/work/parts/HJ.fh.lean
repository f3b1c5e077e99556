/-! ===== a frame: its header, a fault, a picture again ===== -/
section VDFH
variable {M N : vd_M} {ow fa lo lf : Nat} {Z : Nat → Nat → Nat → Nat} {f g : Nat → Nat → Int32}
/-- the settings that a header starts from -/
def vd_H0 (f f0 : Nat → Nat → Int32) : Prop := (∀ c i, c ≠ 16 → ¬ (27 ≤ c ∧ c ≤ 33) → f0 c i = f c i) ∧ f0 27 11 = f 20 11 ∧ (∀ i, i < 6 → f0 28 i = f 21 i) ∧ (∀ i, i < 32 → f0 32 i = f 25 i) ∧ (∀ i, i < 32 → f0 33 i = f 26 i)
theorem vd_frH (hI : vd_INV M N ow fa lo lf Z f g) {fr to : Int} (f0 : 0 ≤ fr) (f1 : fr < to) (t1 : to ≤ 65536) : ∃ (F F1 G G1 : Nat → Nat → Int32) (N1 : vd_M) (a : Nat × Int32 × Int32 × Int32) (b t : Int), (∀ d Q, vd_wp (d + 6) 26 0 [.ref 10, .int (vd_I fr), .int (vd_I to), vd_U, vd_U, vd_U] [] (vd_mf M f) Q = vd_wp (d + 6) 26 40 [.ref 10, .int (vd_I fr), .int (vd_I to), vd_U, vd_U, vd_U] [] (vd_mf M F1) Q) ∧ (∀ x3 d Q, vd_wp (d + 5) 173 0 [.ref 63, .int (vd_I fr), .int (vd_I to), .int x3] [] (vd_mf N g) Q = vd_T174 a d (fun M1 r => vd_rs r [] (fun st => vd_wp (d + 5) 173 25 [.ref 63, .int (vd_I fr), .int (vd_I to), .int x3] st M1 Q)) (vd_mf N1 G1)) ∧ (vd_H0 f F ∧ ∀ c i, ¬ (c = 63 ∧ 74 ≤ i ∧ i ≤ 76) → G c i = g c i) ∧ (vd_pb F1 t (8 * to) b ∨ b ≠ 0) ∧ (F1 16 3 = vd_I b ∧ 0 ≤ b ∧ b ≤ 8) ∧ (G1 63 75 = vd_I (8 * to) ∧ G1 63 76 = vd_I b) ∧ (b = 0 → vd_VH M N F G to N1 () a t F1 G1) ∧ vd_N3 N N1 ∧ (∀ c i, c ≠ 16 → c ≠ 17 → c ≠ 18 → c ≠ 19 → ¬ (27 ≤ c ∧ c ≤ 33) → F1 c i = f c i) ∧ (∀ c i, ¬ vd_inH c i → ¬ (c = 63 ∧ 74 ≤ i ∧ i ≤ 76) → G1 c i = g c i) ∧ vd_INV M N1 ow fa lo lf Z F1 G1 := by
  have hI' := hI
  obtain ⟨⟨hM, hN, hP, hn1⟩, ⟨hT, hC, hJ⟩, ⟨hp, hd⟩, ⟨hs, hb⟩, hG, hc, hZ⟩ := hI
  obtain ⟨fa1, hfa⟩ : ∃ fa1, fa1 = vd_up (vd_up (vd_up f 16 1 (vd_I fr * vd_I 8)) 16 2 (vd_I to * vd_I 8)) 16 3 (vd_I 0) := ⟨_, rfl⟩
  have kfa : ∀ c i, c ≠ 16 → fa1 c i = f c i := fun c i q => by rw [hfa, vd_up_ne (by omega), vd_up_ne (by omega), vd_up_ne (by omega)]
  obtain ⟨ab, ab1, ab2, ab3⟩ := hs.2.2
  obtain ⟨F, eF, kF, ⟨_, _, _, _, _, _, _, c11⟩, ⟨c28, _, _, _, c32, c33⟩⟩ := vd_P28_27 hM (f := fa1) (by rw [kfa _ _ (by omega)]; exact hb.1) (by rw [kfa _ _ (by omega)]; exact hb.2.1) (by rw [kfa _ _ (by omega)]; exact hb.2.2.1) (by rw [kfa _ _ (by omega)]; exact hb.2.2.2) (by rw [kfa _ _ (by omega), ab2]; exact vd_fok01 ab1)
  obtain ⟨G, hGd⟩ : ∃ G, G = vd_up (vd_up (vd_up g 63 74 (vd_I 8 * vd_I fr)) 63 75 (vd_I 8 * vd_I to)) 63 76 (vd_I 0) := ⟨_, rfl⟩
  have kG : ∀ c i, ¬ (c = 63 ∧ 74 ≤ i ∧ i ≤ 76) → G c i = g c i := fun c i q => by rw [hGd, vd_up_ne (by omega), vd_up_ne (by omega), vd_up_ne (by omega)]
  have kFf : ∀ c i, c ≠ 16 → ¬ (27 ≤ c ∧ c ≤ 33) → F c i = f c i := fun c i q1 q2 => by rw [kF c i q2, kfa c i q1]
  have hsd : ∀ r, r < 8 → vd_sdm M N F G r := fun r hr => ((hp r (by omega)).sdm hN hr).keep (fun c j q => kFf c j (by omega) (by omega)) (fun c j q => kG c j (by omega))
  have hT' : vd_RT F G := fun i hi => by rw [kFf _ _ (by omega) (by omega), kG _ _ (by omega)]; exact hT i hi
  have hpb : vd_pb F (8 * fr) (8 * to) 0 := by
    refine ⟨?_, ?_, ?_, by omega, by omega, by omega, by decide, by decide⟩
    · rw [kF _ _ (by omega), hfa, vd_up_ne (by omega), vd_up_ne (by omega), vd_up_eq, vd_I_mul, Int.mul_comm]
    · rw [kF _ _ (by omega), hfa, vd_up_ne (by omega), vd_up_eq, vd_I_mul, Int.mul_comm]
    · rw [kF _ _ (by omega), hfa, vd_up_eq]
  have hqb : vd_qb G (8 * fr) (8 * to) 0 := by
    refine ⟨?_, ?_, ?_, by omega, by omega, by omega, by decide, by decide⟩
    · rw [hGd, vd_up_ne (by omega), vd_up_ne (by omega), vd_up_eq, vd_I_mul]
    · rw [hGd, vd_up_ne (by omega), vd_up_eq, vd_I_mul]
    · rw [hGd, vd_up_eq]
  obtain ⟨F1, G1, N1, z, a, t, t', b, e1, e2, pb1, qb1, hV, hF1, hG1, hn3⟩ := vd_H29 hM hN (to := to) (by omega) t1 hsd hT' hpb hqb
  have kF1 : ∀ c i, c ≠ 16 → c ≠ 17 → c ≠ 18 → c ≠ 19 → ¬ (27 ≤ c ∧ c ≤ 33) → F1 c i = f c i := fun c i q1 q2 q3 q4 q5 => by rw [hF1.1 c i (by omega) (by omega) q3 q4 q5, kFf c i q1 q5]
  have kG1 : ∀ c i, ¬ vd_inH c i → ¬ (c = 63 ∧ 74 ≤ i ∧ i ≤ 76) → G1 c i = g c i := fun c i q1 q2 => by rw [hG1 c i q1, kG c i q2]
  have hJ1 : vd_J18 3 F1 := hF1.2 (hJ.keep (fun j => kFf 18 j (by omega) (by omega)))
  refine ⟨F, F1, G, G1, N1, a, b, t, fun d Q => ?_, fun x3 d Q => ?_, ⟨⟨kFf, ?_, fun i hi => ?_, fun i hi => ?_, fun i hi => ?_⟩, kG⟩, Or.inl pb1, ⟨pb1.2.2.1, pb1.2.2.2.2.2.2⟩, ⟨qb1.2.1, qb1.2.2.1⟩, fun q => (hV q).2, hn3, kF1, kG1, hI'.hdr hn3 kF1 hJ1 kG1⟩
  · have e1' : ∀ Q, vd_wp (d + 5) 29 0 [.ref 17, .ref 16, .ref 13, .ref 27, .int (vd_I to), vd_U, vd_U] [] (vd_mf M F) Q = Q (vd_mf M F1) (.inl none) := fun Q => e1 d Q
    simp only [vd_S26_0 hM, vd_S26_6 hM, vd_S27_0 hM, vd_rs_v, vd_rs_n, ← hfa, vd_S26_9 hM, vd_S26_17 hM, eF, vd_S26_20 hM, vd_S26_37 hM, e1']
  · simp only [vd_S173_0 hN, vd_S173_22 hN, ← hGd, e2]
  · rw [c11, kfa _ _ (by omega)]
  · rw [c28 i hi, kfa _ _ (by omega)]
  · rw [c32 i hi, kfa _ _ (by omega)]
  · rw [c33 i hi, kfa _ _ (by omega)]
/-- a frame that shows a picture again -/
theorem vd_frA (hI : vd_INV M N ow fa lo lf Z f g) {s : Nat} (hs : s < 8) (hne : vd_r M 13 s ≠ none) (h0 : f 17 0 = vd_I 1) (h1 : f 17 1 = vd_I (s : Int)) (x1 x2 : Int32) : ∃ (M' N' : vd_M) (f' g' : Nat → Nat → Int32), (∀ d Q, vd_wp (d + 1) 26 58 [.ref 10, .int x1, .int x2, vd_U, vd_U, vd_U] [] (vd_mf M f) Q = Q (vd_mf M' f') (.inl (some (.int (vd_I 0))))) ∧ (∀ d Q, vd_wp (d + 1) 174 67 [.ref 63, .int (vd_I (s : Int)), vd_U, vd_U] [] (vd_mf N g) Q = Q (vd_mf N' g') (.inl none)) ∧ g' 63 76 = g 63 76 ∧ vd_INV M' N' ow fa lo lf Z f' g' ∧ vd_Lc M M' f f' ∧ vd_Lr N N' g g' 0 0 := by
  obtain ⟨⟨hM, hN, hP, hn1⟩, ⟨hT, hC, hJ⟩, ⟨hp, hd⟩, ⟨hse, hb⟩, hG, ⟨⟨c1, c2, c3⟩, c4⟩, hZ⟩ := hI
  have par := hM.par
  have o1 : vd_hol M s = vd_r M 13 s := if_pos hs
  have o2 : vd_hor N s = vd_r N 66 s := if_pos hs
  have ps := hp s (by omega)
  have ps' := ps
  unfold vd_pic at ps'
  rw [o1, o2] at ps'
  rcases ps' with ⟨q, _⟩ | ⟨p, sp, k, w, hh, P, ⟨a1, a2⟩, ⟨b1, b2⟩, _⟩
  · exact absurd q hne
  obtain ⟨g1, e178, hd1, n21, kg1⟩ := vd_P178 hN hd b1
  have hM' := hM.sr10 (some p)
  have hN' := hN.sr637 (some (129 + 5 * k))
  obtain ⟨f1, hf1⟩ : ∃ f1, f1 = vd_up f 10 4 (f 10 4 + vd_I 1) := ⟨_, rfl⟩
  have f117 : ∀ i, f1 17 i = f 17 i := fun i => by rw [hf1, vd_up_ne (by omega)]
  obtain ⟨f2, hf2⟩ : ∃ f2, f2 = vd_up (vd_up f1 10 5 (f1 10 5 + vd_I 1)) 37 5 (vd_I 0) := ⟨_, rfl⟩
  have kf2 : ∀ c i, ¬ (c = 10 ∧ (i = 4 ∨ i = 5)) → ¬ (c = 37 ∧ i = 5) → f2 c i = f c i := fun c i q1 q2 => by rw [hf2, vd_up_ne (by omega), vd_up_ne (by omega), hf1, vd_up_ne (by omega)]
  obtain ⟨g2, hg2⟩ : ∃ g2, g2 = vd_up (vd_up g1 63 20 (g1 63 20 + vd_I 1)) 63 16 (vd_I 0) := ⟨_, rfl⟩
  have kg2 : ∀ c i, ¬ (c = 63 ∧ (i = 16 ∨ i = 20 ∨ i = 21)) → ¬ (129 ≤ c ∧ i = 3 ∧ c ≤ 179 ∧ c % 5 = 4) → g2 c i = g c i := fun c i q1 q2 => by rw [hg2, vd_up_ne (by omega), vd_up_ne (by omega), kg1 c i (by omega) q2]
  have hol : ∀ x, x < 8 → vd_hol (vd_sr M 10 9 (some p)) x = vd_hol M x := fun x hx => by
    unfold vd_hol
    rw [if_pos hx, if_pos hx, vd_r_sr, if_neg (by omega)]
  have hol8 : vd_hol (vd_sr M 10 9 (some p)) 8 = some p := by
    show vd_r (vd_sr M 10 9 (some p)) 10 9 = _
    rw [vd_r_sr, if_pos ⟨rfl, rfl⟩]
  have hor : ∀ x, x < 8 → vd_hor (vd_sr N 63 7 (some (129 + 5 * k))) x = vd_hor N x := fun x hx => by
    unfold vd_hor
    rw [if_pos hx, if_pos hx, vd_r_sr, if_neg (by omega)]
  have hor8 : vd_hor (vd_sr N 63 7 (some (129 + 5 * k))) 8 = some (129 + 5 * k) := by
    show vd_r (vd_sr N 63 7 (some (129 + 5 * k))) 63 7 = _
    rw [vd_r_sr, if_pos ⟨rfl, rfl⟩]
  have kPC : ∀ p' s', vd_PC M p' s' → vd_PC (vd_sr M 10 9 (some p)) p' s' ∧ ∀ c i, c = p' ∨ c = s' → f2 c i = f c i := fun p' s' q => by
    have q' := q
    obtain ⟨⟨q1, q2⟩, q3, q4⟩ := q
    refine ⟨⟨⟨q1, ?_⟩, q3, q4⟩, fun c i e => kf2 c i (by omega) (by omega)⟩
    rw [vd_r_sr, if_neg (by omega)]
    exact q2
  have kg3 : ∀ k', k' < 11 → ∀ c i, (c = 129 + 5 * k' ∧ i ≤ 1) ∨ (129 + 5 * k' + 2 ≤ c ∧ c ≤ 129 + 5 * k' + 4) → g2 c i = g c i := fun k' hk' c i q => kg2 c i (by omega) (by omega)
  have pk : ∀ x, x < 8 → vd_pic (vd_sr M 10 9 (some p)) (vd_sr N 63 7 (some (129 + 5 * k))) f2 g2 x := fun x hx => (hp x (by omega)).keep (hol x hx) (hor x hx) (fun p' s' _ q => kPC p' s' q) (fun k' hk' _ => kg3 k' hk')
  have p8 : vd_pic (vd_sr M 10 9 (some p)) (vd_sr N 63 7 (some (129 + 5 * k))) f2 g2 8 := by
    have y := pk s hs
    unfold vd_pic at y
    rw [hol s hs, hor s hs, o1, o2, a1, b2] at y
    unfold vd_pic
    rw [hol8, hor8]
    exact y
  refine ⟨vd_sr M 10 9 (some p), vd_sr N 63 7 (some (129 + 5 * k)), f2, g2, fun d Q => ?_, fun d Q => ?_, kg2 63 76 (by omega) (by omega), ⟨⟨hM', hN', ?_, hn1⟩, ⟨fun i hi => ?_, hC.keep (fun i => kf2 _ _ (by omega) (by omega)) (fun c i q1 q2 => kg2 c i (by omega) (by omega)), hJ.keep (fun j => kf2 _ _ (by omega) (by omega))⟩, ⟨fun x hx => ?_, hd1.keep (fun _ _ => rfl) (fun k' hk' => by rw [hg2, vd_up_ne (by omega), vd_up_ne (by omega)])⟩, ⟨hse.keep (fun i _ => by rw [vd_r_sr, if_neg (by omega)]) (fun c i q1 q2 => kf2 c i (by omega) (by omega)) (fun c i q => kg2 c i (by omega) (by omega)), hb.keep (fun i => kf2 _ _ (by omega) (by omega))⟩, hG.keep (lm := 0) (fun c i q => kf2 c i (by omega) (by omega)) (fun c i q => kg2 c i (by omega) (by omega)) ?_ ?_ (Or.inl rfl), ⟨⟨?_, ?_, ?_⟩, ?_⟩, hZ.keep (fun c i q => kf2 c i (by omega) (by omega)) (fun c i q => kg2 c i (by omega) (by omega))⟩, vd_Lc.ms (fun c i q => kf2 c i (by omega) (by omega)) (vd_Ms.sr M 10 9 _) (fun c i q => by rw [vd_r_sr, if_neg (by omega)]), vd_Lr.ms (fun c i q => kg2 c i (by omega) ?_) (vd_Ms.sr N 63 7 _) (fun c i q => by rw [vd_r_sr, if_neg (by omega)])⟩
  · have e91 : vd_vr (vd_r M 13 s) = .ref p := by rw [a1, vd_vr_some]
    simp (disch := omega) only [vd_S26_58 hM, ← hf1, h0, vd_I_toInt, show ¬ ((1 : Int) = 0) by decide, if_false, vd_S26_78 hM, f117, h1, vd_S26_90 hM, Int.toNat_natCast, e91, vd_S26_91 hM, vd_S46_0 hM, vd_S46_5 hM', vd_rs_v, vd_rs_n, vd_S26_94 hM', vd_S26_98 hM', vd_S47_0 hM', ← hf2, vd_S26_101 hM']
  · have e74 : vd_vr (vd_r N 66 s) = .ref (129 + 5 * k) := by rw [b2, vd_vr_some]
    simp (disch := omega) only [vd_S174_67 hN, vd_S174_73 hN, Int.toNat_natCast, e74, vd_S174_74 hN, e178, vd_rs_v, vd_rs_n, vd_S174_77 hN', ← hg2]
  · refine hP.hol (Nat.le_refl _) (fun _ _ _ => rfl) (fun _ _ _ => rfl) (fun c i q => by have := hP.2.2.2; rw [vd_r_sr, if_neg (by omega)]) (fun x k' hx e => ?_)
    by_cases c : x < 8
    · rw [hol x c] at e
      exact hP.2.2.1 x k' hx e
    · have : x = 8 := by omega
      subst this
      rw [hol8] at e
      exact hP.2.2.1 s k' (by omega) (by rw [o1, a1]; exact e)
  · rw [kf2 _ _ (by omega) (by omega), kg2 _ _ (by omega) (by omega)]
    exact hT i hi
  · by_cases c : x < 8
    · exact pk x c
    · have : x = 8 := by omega
      subst this
      exact p8
  · rw [hf2, vd_up_eq]
  · rw [hg2, vd_up_eq]
  · rw [hf2, vd_up_ne (by omega), vd_up_ne (by omega), hf1, vd_up_eq, hg2, vd_up_ne (by omega), vd_up_eq, kg1 63 20 (by omega) (by omega), c1]
  · rw [hf2, vd_up_ne (by omega), vd_up_eq, hf1, vd_up_ne (by omega), hg2, vd_up_ne (by omega), vd_up_ne (by omega), n21, c2]
  · rw [kf2 _ _ (by omega) (by omega), kg2 _ _ (by omega) (by omega)]
    exact c3
  · rw [kf2 _ _ (by omega) (by omega), kg2 _ _ (by omega) (by omega), kf2 _ _ (by omega) (by omega), kg2 _ _ (by omega) (by omega), kf2 _ _ (by omega) (by omega), kg2 _ _ (by omega) (by omega), kf2 _ _ (by omega) (by omega), kg2 _ _ (by omega) (by omega)]
    exact c4
  · omega
end VDFH
