/-! ===== the quantiser's header ===== -/
def vd_T37 (x2 : Int32) : Unit → vd_Tg := fun _ d Q M' => vd_wp (d + 4) 37 58 [.ref 27, .ref 16, .int x2, .int (vd_I 3)] [] M' Q
section VDHQ
variable {M N : vd_M} {ow fa lo lf : Nat}
theorem vd_U37q (hM : vd_SC M ow fa lo lf) (x2 : Int32) : (∀ (a3 : Value) (r : Int), vd_bnP 8 r → vd_UC M (vd_T37 x2) 4 37 20 [.ref 27, .ref 16, .int x2, a3] [.int (vd_I r), .ref 27]) ∧ (∀ (i : Nat) (r : Int), i < 3 → vd_b01P r → vd_UC M (vd_T37 x2) 4 37 39 [.ref 27, .ref 16, .int x2, .int (vd_I (i : Int))] [.int (vd_I r), .int (vd_I (i : Int)), .ref 29]) ∧ (∀ (i : Nat) (r : Int), i < 3 → vd_bsP 4 r → vd_UC M (vd_T37 x2) 4 37 47 [.ref 27, .ref 16, .int x2, .int (vd_I (i : Int))] [.int (vd_I r), .int (vd_I (i : Int)), .ref 29]) := by
  have lp : ∀ (m i : Nat), i + m = 3 → vd_UC M (vd_T37 x2) 4 37 25 [.ref 27, .ref 16, .int x2, .int (vd_I (i : Int))] [] ∧ (∀ r : Int, i < 3 → vd_b01P r → vd_UC M (vd_T37 x2) 4 37 39 [.ref 27, .ref 16, .int x2, .int (vd_I (i : Int))] [.int (vd_I r), .int (vd_I (i : Int)), .ref 29]) ∧ (∀ r : Int, i < 3 → vd_bsP 4 r → vd_UC M (vd_T37 x2) 4 37 47 [.ref 27, .ref 16, .int x2, .int (vd_I (i : Int))] [.int (vd_I r), .int (vd_I (i : Int)), .ref 29]) := by
    intro m
    induction m with
    | zero =>
      intro i hi
      have hi : i = 3 := by omega
      subst hi
      refine ⟨vd_UC.ret () vd_okI (fun d f Q => ?_), fun r h => absurd h (by omega), fun r h => absurd h (by omega)⟩
      simp (disch := omega) only [vd_S37_25 hM, vd_T37, vd_I_toInt, show ¬ (((3 : Nat) : Int) < 3) by decide, if_false]
      rfl
    | succ m ih =>
      intro i hi
      have ei : (i : Int) + 1 = ((i + 1 : Nat) : Int) := by omega
      have u51 : ∀ r : Int, vd_UC M (vd_T37 x2) 4 37 51 [.ref 27, .ref 16, .int x2, .int (vd_I (i : Int))] [.int (vd_I r), .int (vd_I (i : Int)), .ref 29] := fun r => vd_UC.go (vd_ok1 (c := 29) (i := i) (v := vd_I r) (by omega)) (ih (i + 1) (by omega)).1 (fun d f Q => by simp (disch := omega) only [vd_S37_51 hM, Int.toNat_natCast, vd_I_add, ei])
      have u47 : ∀ r : Int, vd_bsP 4 r → vd_UC M (vd_T37 x2) 4 37 47 [.ref 27, .ref 16, .int x2, .int (vd_I (i : Int))] [.int (vd_I r), .int (vd_I (i : Int)), .ref 29] := fun r _ => vd_UC.s (u51 r) (fun d f Q => by simp only [vd_S37_47 hM])
      have u39 : ∀ r : Int, vd_b01P r → vd_UC M (vd_T37 x2) 4 37 39 [.ref 27, .ref 16, .int x2, .int (vd_I (i : Int))] [.int (vd_I r), .int (vd_I (i : Int)), .ref 29] := fun r hr => by
        rcases hr with rfl | rfl
        · exact vd_UC.s (u51 0) (fun d f Q => by simp (disch := omega) only [vd_S37_39 hM, vd_S37_50 hM, vd_I_toInt, eq_self, if_true])
        · exact vd_UC.ask (vd_U40 hM 3 (by decide) 4 (by decide) (by decide)) vd_okI u47 (fun d f Q => by simp (disch := omega) only [vd_S37_39 hM, vd_S37_42 hM, vd_S37_44 hM, vd_I_toInt, show ¬ ((1 : Int) = 0) by decide, if_false])
      refine ⟨vd_UC.ask (vd_U32 hM 3 (by decide)) vd_okI u39 (fun d f Q => ?_), fun r _ h => u39 r h, fun r _ h => u47 r h⟩
      simp (disch := omega) only [vd_S37_25 hM, vd_S37_30 hM, vd_S37_36 hM, vd_I_toInt, show ((i : Int) < 3) by omega, if_true]
  exact ⟨fun a3 r _ => vd_UC.go (vd_ok1 (c := 27) (i := 4) (v := vd_I r) (by omega)) (lp 3 0 rfl).1 (fun d f Q => by simp only [vd_S37_20 hM]; rfl), fun i r hi hr => (lp (3 - i) i (by omega)).2.1 r hi hr, fun i r hi hr => (lp (3 - i) i (by omega)).2.2 r hi hr⟩
theorem vd_B183f (hN : vd_SR N) : (∀ (a1 : Value) (s : Int), vd_bnP 8 s → vd_BH N (fun _ : Unit => vd_TR) 3 183 7 [.ref 63, a1] [.int (vd_I s), .ref 63]) ∧ (∀ (i : Nat) (s : Int), i < 3 → vd_b01P s → vd_BH N (fun _ : Unit => vd_TR) 3 183 42 [.ref 63, .int (vd_I (i : Int))] [.int (vd_I s), .int (vd_I (i : Int)), .ref 85]) ∧ (∀ (i : Nat) (s : Int), i < 3 → vd_bsP 4 s → vd_BH N (fun _ : Unit => vd_TR) 3 183 50 [.ref 63, .int (vd_I (i : Int))] [.int (vd_I s), .int (vd_I (i : Int)), .ref 85]) := by
  have lp : ∀ (m i : Nat), i + m = 3 → vd_BH N (fun _ : Unit => vd_TR) 3 183 28 [.ref 63, .int (vd_I (i : Int))] [] ∧ (∀ s : Int, i < 3 → vd_b01P s → vd_BH N (fun _ : Unit => vd_TR) 3 183 42 [.ref 63, .int (vd_I (i : Int))] [.int (vd_I s), .int (vd_I (i : Int)), .ref 85]) ∧ (∀ s : Int, i < 3 → vd_bsP 4 s → vd_BH N (fun _ : Unit => vd_TR) 3 183 50 [.ref 63, .int (vd_I (i : Int))] [.int (vd_I s), .int (vd_I (i : Int)), .ref 85]) := by
    intro m
    induction m with
    | zero =>
      intro i hi
      refine ⟨vd_BH.ret () vd_okJ (fun d f Q _ => ?_), fun r h => absurd h (by omega), fun r h => absurd h (by omega)⟩
      simp (disch := omega) only [vd_S183_28 hN, vd_S183_75 hN, vd_TR, vd_I_toInt, show ¬ ((i : Int) < 3) by omega, if_false]
    | succ m ih =>
      intro i hi
      have ei : (i : Int) + 1 = ((i + 1 : Nat) : Int) := by omega
      have b69 : vd_BH N (fun _ : Unit => vd_TR) 3 183 69 [.ref 63, .int (vd_I (i : Int))] [] := vd_BH.go vd_okJ (ih (i + 1) (by omega)).1 (fun d f Q _ => by simp only [vd_S183_69 hN, vd_I_add, ei])
      have b64 : vd_BH N (fun _ : Unit => vd_TR) 3 183 64 [.ref 63, .int (vd_I (i : Int))] [] := vd_BH.go (vd_okg1 (c := 63) (i := 35) (v := vd_I 0) (by unfold vd_inH; omega) (by omega)) b69 (fun d f Q _ => by simp only [vd_S183_64 hN])
      have b54 : ∀ s : Int, vd_bsP 4 s → vd_BH N (fun _ : Unit => vd_TR) 3 183 54 [.ref 63, .int (vd_I (i : Int))] [.int (vd_I s), .int (vd_I (i : Int)), .ref 85] := fun s hs => by
        have hs := hs.n (z := 16) (by decide)
        by_cases h0 : s = 0
        · exact vd_BH.go (vd_okg1 (c := 85) (i := i) (v := vd_I s) (by unfold vd_inH; omega) (by omega)) b69 (fun d f Q _ => by simp (disch := omega) only [vd_S183_54 hN, vd_S183_60 hN, Int.toNat_natCast, vd_up_eq, vd_I_toInt, h0, eq_self, if_true])
        · exact vd_BH.go (vd_okg1 (c := 85) (i := i) (v := vd_I s) (by unfold vd_inH; omega) (by omega)) b64 (fun d f Q _ => by simp (disch := omega) only [vd_S183_54 hN, vd_S183_60 hN, Int.toNat_natCast, vd_up_eq, vd_I_toInt, h0, if_false])
      have b50 : ∀ s : Int, vd_bsP 4 s → vd_BH N (fun _ : Unit => vd_TR) 3 183 50 [.ref 63, .int (vd_I (i : Int))] [.int (vd_I s), .int (vd_I (i : Int)), .ref 85] := fun s hs => vd_BH.go vd_okJ (b54 s hs) (fun d f Q _ => by simp only [vd_S183_50 hN])
      have b42 : ∀ s : Int, vd_b01P s → vd_BH N (fun _ : Unit => vd_TR) 3 183 42 [.ref 63, .int (vd_I (i : Int))] [.int (vd_I s), .int (vd_I (i : Int)), .ref 85] := fun s hs => by
        rcases hs with rfl | rfl
        · exact vd_BH.go vd_okJ (b54 0 (by unfold vd_bsP; decide)) (fun d f Q _ => by simp (disch := omega) only [vd_S183_42 hN, vd_S183_53 hN, vd_I_toInt, eq_self, if_true])
        · exact vd_BH.ask (vd_B182 hN 2 (by decide) 4 (by decide) (by decide)) vd_okJ (b50 0 (by unfold vd_bsP; decide)) (fun d f Q _ => by simp (disch := omega) only [vd_S183_42 hN, vd_S183_45 hN, vd_S183_47 hN, vd_I_toInt, show ¬ ((1 : Int) = 0) by decide, if_false])
      refine ⟨vd_BH.ask (vd_B177 hN 2 (by decide)) vd_okJ (b42 0 (Or.inl rfl)) (fun d f Q _ => ?_), fun r _ h => b42 r h, fun r _ h => b50 r h⟩
      simp (disch := omega) only [vd_S183_28 hN, vd_S183_33 hN, vd_S183_39 hN, vd_I_toInt, show ((i : Int) < 3) by omega, if_true]
  have b28 : vd_BH N (fun _ : Unit => vd_TR) 3 183 28 [.ref 63, .int (vd_I 0)] [] := (lp 3 0 rfl).1
  refine ⟨fun a1 s hs => ?_, fun i r hi hr => (lp (3 - i) i (by omega)).2.1 r hi hr, fun i r hi hr => (lp (3 - i) i (by omega)).2.2 r hi hr⟩
  have hs := hs.n (z := 256) (by decide)
  by_cases h0 : s = 0
  · exact vd_BH.go (F := fun g => vd_up (vd_up g 63 43 (vd_I s)) 63 35 (vd_I 1)) (fun g => ((vd_gU.refl g).up (by unfold vd_inH; omega) (by omega)).up (by unfold vd_inH; omega) (by omega)) b28 (fun d f Q _ => by simp (disch := first | decide | omega) only [vd_S183_7 hN, vd_S183_18 hN, vd_S183_23 hN, vd_fok1, vd_I_toInt, h0, eq_self, if_true])
  · exact vd_BH.go (F := fun g => vd_up (vd_up g 63 43 (vd_I s)) 63 35 (vd_I 0)) (fun g => ((vd_gU.refl g).up (by unfold vd_inH; omega) (by omega)).up (by unfold vd_inH; omega) (by omega)) b28 (fun d f Q _ => by simp (disch := first | decide | omega) only [vd_S183_7 hN, vd_S183_22 hN, vd_S183_23 hN, vd_fok0, vd_I_toInt, h0, if_false])
theorem vd_B183 (hN : vd_SR N) : vd_BH N (fun _ : Unit => vd_TR) 3 183 0 [.ref 63, vd_U] [] := vd_BH.ask (vd_B175 hN 2 8 (by decide) (by decide)) vd_okJ ((vd_B183f hN).1 vd_U 0 (by unfold vd_bnP; decide)) (fun d f Q _ => by simp only [vd_S183_0 hN, vd_S183_4 hN])
theorem vd_U37w (hM : vd_SC M ow fa lo lf) (x2 : Int32) (a3 : Value) : vd_UC M (vd_T37 x2) 4 37 13 [.ref 27, .ref 16, .int x2, a3] [] := vd_UC.ask (vd_U30 hM 3 8 (by decide) (by decide)) vd_okI ((vd_U37q hM x2).1 a3) (fun d f Q => by simp only [vd_S37_13 hM, vd_S37_17 hM])
/-- the rest of the deltas, and lossless -/
def vd_VQ (N : vd_M) (f g : Nat → Nat → Int32) (i : Nat) (l : Int) : vd_M → Unit → Unit → Int → (Nat → Nat → Int32) → (Nat → Nat → Int32) → Prop := fun N' _ _ _ f' g' => N' = N ∧ (∃ (dl : Nat → Int) (l' : Int), (∀ j, i ≤ j → j < 3 → f' 29 j = vd_I (dl j) ∧ g' 85 j = vd_I (dl j) ∧ -16 ≤ dl j ∧ dl j ≤ 16) ∧ g' 63 35 = vd_I l' ∧ (l' = 0 ∨ l' = 1) ∧ (l' = 1 ↔ l = 1 ∧ ∀ j, i ≤ j → j < 3 → dl j = 0)) ∧ (∀ c j, ¬ (c = 16 ∧ (j = 1 ∨ j = 3)) → ¬ (c = 29 ∧ i ≤ j) → f' c j = f c j) ∧ (∀ c j, ¬ (c = 63 ∧ (j = 74 ∨ j = 76 ∨ j = 35)) → ¬ (c = 85 ∧ i ≤ j) → g' c j = g c j)
theorem vd_dlLoop (hM : vd_SC M ow fa lo lf) (hN : vd_SR N) {e : Int} (x2 : Int32) : ∀ (m i : Nat) (f g : Nat → Nat → Int32) (p l : Int), i + m = 3 → vd_RT f g → vd_pb f p e 0 → vd_qb g p e 0 → g 63 35 = vd_I l → (l = 0 ∨ l = 1) → vd_HP M N (vd_T37 x2) (fun _ : Unit => vd_TR) 4 37 25 [.ref 27, .ref 16, .int x2, .int (vd_I (i : Int))] [] 3 183 28 [.ref 63, .int (vd_I (i : Int))] [] e (vd_VQ N f g i l) f g := by
  intro m
  induction m with
  | zero =>
    intro i f g p l hi hT hp hq h35 hl
    have hi : i = 3 := by omega
    subst hi
    refine vd_HP.ret () () (vd_fU.refl f) (vd_gU.refl g) hp hq ⟨rfl, ⟨fun _ => 0, l, fun j a b => absurd b (by omega), h35, hl, ⟨fun q => ⟨q, fun _ _ _ => rfl⟩, fun q => q.1⟩⟩, fun _ _ _ _ => rfl, fun _ _ _ _ => rfl⟩ (fun d Q => ?_) (fun d Q => ?_)
    · simp (disch := omega) only [vd_S37_25 hM, vd_T37, vd_I_toInt, show ¬ (((3 : Nat) : Int) < 3) by decide, if_false]
      rfl
    · simp (disch := omega) only [vd_S183_28 hN, vd_S183_75 hN, vd_TR, vd_I_toInt, show ¬ (((3 : Nat) : Int) < 3) by decide, if_false]
  | succ m ih =>
    intro i f g p l hi hT hp hq h35 hl
    have hi6 : i < 3 := by omega
    have c6 : ((i : Int) < 3) := by omega
    have ei : (i : Int) + 1 = ((i + 1 : Nat) : Int) := by omega
    obtain ⟨_, u39, u47⟩ := vd_U37q hM x2
    obtain ⟨_, b42, b50⟩ := vd_B183f hN
    -- the end of a turn
    have fin : ∀ {f2 g2 : Nat → Nat → Int32} {p2 z : Int} {pc pc' : Nat} {st st' : List Value}, vd_RT f2 g2 → vd_pb f2 p2 e 0 → vd_qb g2 p2 e 0 → vd_fP f f2 → vd_gP g g2 → -16 ≤ z → z ≤ 16 → (∀ d Q, vd_wp (d + 4) 37 pc [.ref 27, .ref 16, .int x2, .int (vd_I (i : Int))] st (vd_mf M f2) Q = vd_wp (d + 4) 37 51 [.ref 27, .ref 16, .int x2, .int (vd_I (i : Int))] [.int (vd_I z), .int (vd_I (i : Int)), .ref 29] (vd_mf M f2) Q) → (∀ d Q, vd_wp (d + 3) 183 pc' [.ref 63, .int (vd_I (i : Int))] st' (vd_mf N g2) Q = vd_wp (d + 3) 183 54 [.ref 63, .int (vd_I (i : Int))] [.int (vd_I z), .int (vd_I (i : Int)), .ref 85] (vd_mf N g2) Q) → vd_HP M N (vd_T37 x2) (fun _ : Unit => vd_TR) 4 37 pc [.ref 27, .ref 16, .int x2, .int (vd_I (i : Int))] st 3 183 pc' [.ref 63, .int (vd_I (i : Int))] st' e (vd_VQ N f g i l) f2 g2 := by
      intro f2 g2 p2 z pc pc' st st' hT2 hp2 hq2 F2 G2 z0 z1 hc hr
      have hf2 : vd_fU f2 (vd_up f2 29 i (vd_I z)) := (vd_fU.refl f2).up (by omega)
      by_cases h0 : z = 0
      · have hg2 : vd_gU g2 (vd_up g2 85 i (vd_I z)) := (vd_gU.refl g2).up (by unfold vd_inH; omega) (by omega)
        refine vd_HP.s hf2 hg2 ((ih (i + 1) _ _ p2 l (by omega) (hT2.keepH hf2.1 hg2.1) (hp2.keepU hf2.2) (hq2.keepU hg2.2) (by rw [vd_up_ne (by omega), G2 63 35 (by omega)]; exact h35) hl).mono ?_) (fun d Q => ?_) (fun d Q => ?_)
        · rintro N' a0 a p' f' g' ⟨v1, ⟨dl, l', w1, w2, w3, w4⟩, v3, v4⟩
          refine ⟨v1, ⟨fun j => if j = i then z else dl j, l', fun j a b => ?_, w2, w3, ?_⟩, fun c j q1 q2 => ?_, fun c j q1 q2 => ?_⟩
          · by_cases hj : j = i
            · subst hj
              simp only [if_true]
              exact ⟨by rw [v3 29 j (by omega) (by omega), vd_up_eq], by rw [v4 85 j (by omega) (by omega), vd_up_eq], z0, z1⟩
            · simp only [if_neg hj]
              exact w1 j (by omega) b
          · rw [w4]
            refine ⟨fun q => ⟨q.1, fun j a b => ?_⟩, fun q => ⟨q.1, fun j a b => ?_⟩⟩
            · by_cases hj : j = i
              · simp only [if_pos hj]; exact h0
              · simp only [if_neg hj]; exact q.2 j (by omega) b
            · have hji : j ≠ i := by omega
              have := q.2 j (by omega) b
              simp only [if_neg hji] at this
              exact this
          · rw [v3 c j q1 (by omega), vd_up_ne (by omega), F2 c j q1]
          · rw [v4 c j q1 (by omega), vd_up_ne (by omega), G2 c j (by omega)]
        · rw [hc]
          simp (disch := omega) only [vd_S37_51 hM, Int.toNat_natCast, vd_I_add, ei]
        · rw [hr]
          simp (disch := omega) only [vd_S183_54 hN, vd_S183_60 hN, vd_S183_69 hN, Int.toNat_natCast, vd_up_eq, vd_I_toInt, h0, eq_self, if_true, vd_I_add, ei]
      · have hg2 : vd_gU g2 (vd_up (vd_up g2 85 i (vd_I z)) 63 35 (vd_I 0)) := ((vd_gU.refl g2).up (by unfold vd_inH; omega) (by omega)).up (by unfold vd_inH; omega) (by omega)
        refine vd_HP.s hf2 hg2 ((ih (i + 1) _ _ p2 0 (by omega) (hT2.keepH hf2.1 hg2.1) (hp2.keepU hf2.2) (hq2.keepU hg2.2) (vd_up_eq _ _ _ _) (Or.inl rfl)).mono ?_) (fun d Q => ?_) (fun d Q => ?_)
        · rintro N' a0 a p' f' g' ⟨v1, ⟨dl, l', w1, w2, w3, w4⟩, v3, v4⟩
          refine ⟨v1, ⟨fun j => if j = i then z else dl j, l', fun j a b => ?_, w2, w3, ?_⟩, fun c j q1 q2 => ?_, fun c j q1 q2 => ?_⟩
          · by_cases hj : j = i
            · subst hj
              simp only [if_true]
              exact ⟨by rw [v3 29 j (by omega) (by omega), vd_up_eq], by rw [v4 85 j (by omega) (by omega), vd_up_ne (by omega), vd_up_eq], z0, z1⟩
            · simp only [if_neg hj]
              exact w1 j (by omega) b
          · rw [w4]
            refine ⟨fun q => absurd q.1 (by decide), fun q => absurd (q.2 i (by omega) hi6) (by simp only [if_true]; exact h0)⟩
          · rw [v3 c j q1 (by omega), vd_up_ne (by omega), F2 c j q1]
          · rw [v4 c j q1 (by omega), vd_up_ne (by omega), vd_up_ne (by omega), G2 c j (by omega)]
        · rw [hc]
          simp (disch := omega) only [vd_S37_51 hM, Int.toNat_natCast, vd_I_add, ei]
        · rw [hr]
          simp (disch := omega) only [vd_S183_54 hN, vd_S183_60 hN, vd_S183_64 hN, vd_S183_69 hN, Int.toNat_natCast, vd_up_eq, vd_I_toInt, h0, if_false, vd_I_add, ei]
    refine vd_HP.ask (vd_Q32 hM hN 3 2 (by decide) (by decide)) (vd_fU.refl f) (vd_gU.refl g) hT hp hq (fun r hr => u39 i r hi6 hr) (fun s hs => b42 i s hi6 hs) (fun d Q => ?_) (fun d Q => ?_) (fun f2 g2 p2 r hr hT2 hp2 hq2 F2 G2 => ?_)
    · simp (disch := omega) only [vd_S37_25 hM, vd_S37_30 hM, vd_S37_36 hM, vd_I_toInt, c6, if_true]
    · simp (disch := omega) only [vd_S183_28 hN, vd_S183_33 hN, vd_S183_39 hN, vd_I_toInt, c6, if_true]
    rcases hr with rfl | rfl
    · refine fin hT2 hp2 hq2 F2 G2 (z := 0) (by decide) (by decide) (fun d Q => ?_) (fun d Q => ?_)
      · simp (disch := omega) only [vd_S37_39 hM, vd_S37_50 hM, vd_I_toInt, eq_self, if_true]
      · simp (disch := omega) only [vd_S183_42 hN, vd_S183_53 hN, vd_I_toInt, eq_self, if_true]
    · refine vd_HP.ask (vd_Q40 hM hN 3 2 (by decide) (by decide) 4 (by decide) (by decide)) (vd_fU.refl f2) (vd_gU.refl g2) hT2 hp2 hq2 (fun r hr => u47 i r hi6 hr) (fun s hs => b50 i s hi6 hs) (fun d Q => ?_) (fun d Q => ?_) (fun f3 g3 p3 z hz hT3 hp3 hq3 F3 G3 => ?_)
      · simp (disch := omega) only [vd_S37_39 hM, vd_S37_42 hM, vd_S37_44 hM, vd_I_toInt, show ¬ ((1 : Int) = 0) by decide, if_false]
      · simp (disch := omega) only [vd_S183_42 hN, vd_S183_45 hN, vd_S183_47 hN, vd_I_toInt, show ¬ ((1 : Int) = 0) by decide, if_false]
      have hz := hz.n (z := 16) (by decide)
      refine fin hT3 hp3 hq3 (F2.trans F3) (G2.trans G3) (z := z) (by omega) (by omega) (fun d Q => ?_) (fun d Q => ?_)
      · simp only [vd_S37_47 hM]
      · simp only [vd_S183_50 hN]
def vd_VQ1 (N : vd_M) (f g : Nat → Nat → Int32) : vd_M → Unit → Unit → Int → (Nat → Nat → Int32) → (Nat → Nat → Int32) → Prop := fun N' _ _ _ f' g' => N' = N ∧ (∃ (bs : Int) (dl : Nat → Int) (l : Int), (0 ≤ bs ∧ bs ≤ 255 ∧ f' 27 4 = vd_I bs ∧ g' 63 43 = vd_I bs) ∧ (∀ j, j < 3 → f' 29 j = vd_I (dl j) ∧ g' 85 j = vd_I (dl j) ∧ -16 ≤ dl j ∧ dl j ≤ 16) ∧ g' 63 35 = vd_I l ∧ (l = 0 ∨ l = 1) ∧ (l = 1 ↔ bs = 0 ∧ ∀ j, j < 3 → dl j = 0)) ∧ (∀ c j, ¬ (c = 16 ∧ (j = 1 ∨ j = 3)) → ¬ (c = 27 ∧ j = 4) → c ≠ 29 → f' c j = f c j) ∧ (∀ c j, ¬ (c = 63 ∧ (j = 74 ∨ j = 76 ∨ j = 35 ∨ j = 43)) → c ≠ 85 → g' c j = g c j)
theorem vd_H37q (hM : vd_SC M ow fa lo lf) (hN : vd_SR N) {f g : Nat → Nat → Int32} {p e : Int} (x2 : Int32) (a3 : Value) (hT : vd_RT f g) (hp : vd_pb f p e 0) (hq : vd_qb g p e 0) : vd_HP M N (vd_T37 x2) (fun _ : Unit => vd_TR) 4 37 13 [.ref 27, .ref 16, .int x2, a3] [] 3 183 0 [.ref 63, vd_U] [] e (vd_VQ1 N f g) f g := by
  refine vd_HP.ask (vd_Q30 hM hN 3 2 8 (by decide) (by decide)) (vd_fU.refl f) (vd_gU.refl g) hT hp hq ((vd_U37q hM x2).1 a3) ((vd_B183f hN).1 vd_U) (fun d Q => by simp only [vd_S37_13 hM, vd_S37_17 hM]) (fun d Q => by simp only [vd_S183_0 hN, vd_S183_4 hN]) (fun f1 g1 p1 bs hbs hT1 hp1 hq1 F1 G1 => ?_)
  have hbs := hbs.n (z := 256) (by decide)
  have hf : vd_fU f1 (vd_up f1 27 4 (vd_I bs)) := (vd_fU.refl f1).up (by omega)
  have hg : ∀ l : Int, vd_gU g1 (vd_up (vd_up g1 63 43 (vd_I bs)) 63 35 (vd_I l)) := fun l => ((vd_gU.refl g1).up (by unfold vd_inH; omega) (by omega)).up (by unfold vd_inH; omega) (by omega)
  have go : ∀ l : Int, (l = 0 ∨ l = 1) → (l = 1 ↔ bs = 0) → vd_HP M N (vd_T37 x2) (fun _ : Unit => vd_TR) 4 37 25 [.ref 27, .ref 16, .int x2, .int (vd_I ((0 : Nat) : Int))] [] 3 183 28 [.ref 63, .int (vd_I ((0 : Nat) : Int))] [] e (vd_VQ1 N f g) (vd_up f1 27 4 (vd_I bs)) (vd_up (vd_up g1 63 43 (vd_I bs)) 63 35 (vd_I l)) := fun l hl hb => by
    refine (vd_dlLoop hM hN x2 3 0 _ _ p1 l rfl (hT1.keepH hf.1 (hg l).1) (hp1.keepU hf.2) (hq1.keepU (hg l).2) (vd_up_eq _ _ _ _) hl).mono ?_
    rintro N' a0 a p' f' g' ⟨v1, ⟨dl, l', w1, w2, w3, w4⟩, v3, v4⟩
    refine ⟨v1, ⟨bs, dl, l', ⟨by omega, by omega, ?_, ?_⟩, fun j hj => w1 j (by omega) hj, w2, w3, ?_⟩, fun c j q1 q2 q3 => ?_, fun c j q1 q2 => ?_⟩
    · rw [v3 27 4 (by omega) (by omega), vd_up_eq]
    · rw [v4 63 43 (by omega) (by omega), vd_up_ne (by omega), vd_up_eq]
    · rw [w4, hb]
      exact ⟨fun q => ⟨q.1, fun j hj => q.2 j (by omega) hj⟩, fun q => ⟨q.1, fun j _ hj => q.2 j hj⟩⟩
    · rw [v3 c j q1 (by omega), vd_up_ne (by omega), F1 c j q1]
    · rw [v4 c j (by omega) (by omega), vd_up_ne (by omega), vd_up_ne (by omega), G1 c j (by omega)]
  by_cases h0 : bs = 0
  · refine vd_HP.s hf (hg 1) (go 1 (Or.inr rfl) (by simp [h0])) (fun d Q => ?_) (fun d Q => ?_)
    · simp only [vd_S37_20 hM]; rfl
    · simp (disch := first | decide | omega) only [vd_S183_7 hN, vd_S183_18 hN, vd_S183_23 hN, vd_fok1, vd_I_toInt, h0, eq_self, if_true]; rfl
  · refine vd_HP.s hf (hg 0) (go 0 (Or.inl rfl) (by simp [h0])) (fun d Q => ?_) (fun d Q => ?_)
    · simp only [vd_S37_20 hM]; rfl
    · simp (disch := first | decide | omega) only [vd_S183_7 hN, vd_S183_22 hN, vd_S183_23 hN, vd_fok0, vd_I_toInt, h0, if_false]; rfl
end VDHQ
