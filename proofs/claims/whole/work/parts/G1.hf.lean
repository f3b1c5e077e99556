/-! ===== readFilter and filterHeader ===== -/
section VDHF
variable {M N : vd_M} {ow fa lo lf : Nat}
/-- readFilter behind a fault, from each place where a call has answered -/
theorem vd_U39 (hM : vd_SC M ow fa lo lf) (a : Value) : (∀ r, vd_bnP 6 r → vd_UC M vd_Tn 3 39 7 [.ref 27, .ref 16, a] [.int (vd_I r), .ref 27]) ∧ (∀ r, vd_bnP 3 r → vd_UC M vd_Tn 3 39 16 [.ref 27, .ref 16, a] [.int (vd_I r), .ref 27]) ∧ (∀ r, vd_b01P r → vd_UC M vd_Tn 3 39 24 [.ref 27, .ref 16, a] [.int (vd_I r), .ref 27]) ∧ (∀ r, vd_b01P r → vd_UC M vd_Tn 3 39 38 [.ref 27, .ref 16, a] [.int (vd_I r)]) ∧ (∀ (i : Nat) (r : Int), i < 6 → vd_b01P r → vd_UC M vd_Tn 3 39 53 [.ref 27, .ref 16, .int (vd_I (i : Int))] [.int (vd_I r)]) ∧ (∀ (i : Nat) (r : Int), i < 6 → vd_bsP 6 r → vd_UC M vd_Tn 3 39 67 [.ref 27, .ref 16, .int (vd_I (i : Int))] [.int (vd_I r), .int (vd_I (i : Int)), .ref 28]) := by
  have u74 : ∀ a, vd_UC M vd_Tn 3 39 74 [.ref 27, .ref 16, a] [] := fun a => vd_UC.ret () vd_okI (fun d f Q => by simp only [vd_S39_74 hM, vd_Tn, vd_TR])
  have lp : ∀ (m i : Nat), i + m = 6 → vd_UC M vd_Tn 3 39 43 [.ref 27, .ref 16, .int (vd_I (i : Int))] [] ∧ (∀ r : Int, i < 6 → vd_b01P r → vd_UC M vd_Tn 3 39 53 [.ref 27, .ref 16, .int (vd_I (i : Int))] [.int (vd_I r)]) ∧ (∀ r : Int, i < 6 → vd_bsP 6 r → vd_UC M vd_Tn 3 39 67 [.ref 27, .ref 16, .int (vd_I (i : Int))] [.int (vd_I r), .int (vd_I (i : Int)), .ref 28]) := by
    intro m
    induction m with
    | zero =>
      intro i hi
      refine ⟨vd_UC.s (u74 (.int (vd_I (i : Int)))) (fun d f Q => ?_), fun r h => absurd h (by omega), fun r h => absurd h (by omega)⟩
      simp (disch := omega) only [vd_S39_43 hM, vd_I_toInt, show ¬ ((i : Int) < 6) by omega, if_false]
    | succ m ih =>
      intro i hi
      have ei : (i : Int) + 1 = ((i + 1 : Nat) : Int) := by omega
      have u68 : vd_UC M vd_Tn 3 39 68 [.ref 27, .ref 16, .int (vd_I (i : Int))] [] := vd_UC.s (ih (i + 1) (by omega)).1 (fun d f Q => by simp only [vd_S39_68 hM, vd_I_add, ei])
      have u67 : ∀ r : Int, vd_bsP 6 r → vd_UC M vd_Tn 3 39 67 [.ref 27, .ref 16, .int (vd_I (i : Int))] [.int (vd_I r), .int (vd_I (i : Int)), .ref 28] := fun r _ => vd_UC.go (vd_ok1 (c := 28) (i := i) (v := vd_I r) (by omega)) u68 (fun d f Q => by simp (disch := omega) only [vd_S39_67 hM, Int.toNat_natCast])
      have u53 : ∀ r : Int, vd_b01P r → vd_UC M vd_Tn 3 39 53 [.ref 27, .ref 16, .int (vd_I (i : Int))] [.int (vd_I r)] := fun r hr => by
        rcases hr with rfl | rfl
        · exact vd_UC.s u68 (fun d f Q => by simp (disch := omega) only [vd_S39_53 hM, vd_I_toInt, eq_self, if_true])
        · exact vd_UC.ask (vd_U40 hM 2 (by decide) 6 (by decide) (by decide)) vd_okI u67 (fun d f Q => by simp (disch := omega) only [vd_S39_53 hM, vd_S39_56 hM, vd_S39_64 hM, vd_I_toInt, show ¬ ((1 : Int) = 0) by decide, if_false])
      refine ⟨vd_UC.ask (vd_U32 hM 2 (by decide)) vd_okI u53 (fun d f Q => ?_), fun r _ h => u53 r h, fun r _ h => u67 r h⟩
      simp (disch := omega) only [vd_S39_43 hM, vd_S39_49 hM, vd_S39_50 hM, vd_I_toInt, show ((i : Int) < 6) by omega, if_true]
  have u41 : ∀ a, vd_UC M vd_Tn 3 39 41 [.ref 27, .ref 16, a] [] := fun a => vd_UC.s (lp 6 0 rfl).1 (fun d f Q => by simp only [vd_S39_41 hM]; rfl)
  have u38 : ∀ r, vd_b01P r → vd_UC M vd_Tn 3 39 38 [.ref 27, .ref 16, a] [.int (vd_I r)] := fun r hr => by
    rcases hr with rfl | rfl
    · exact vd_UC.s (u74 a) (fun d f Q => by simp (disch := omega) only [vd_S39_38 hM, vd_I_toInt, eq_self, if_true])
    · exact vd_UC.s (u41 a) (fun d f Q => by simp (disch := omega) only [vd_S39_38 hM, vd_I_toInt, show ¬ ((1 : Int) = 0) by decide, if_false])
  have u24 : ∀ r, vd_b01P r → vd_UC M vd_Tn 3 39 24 [.ref 27, .ref 16, a] [.int (vd_I r), .ref 27] := fun r hr => by
    rcases hr with rfl | rfl
    · exact vd_UC.go (vd_ok1 (c := 27) (i := 2) (v := vd_I 0) (by omega)) (u74 a) (fun d f Q => by simp (disch := first | decide | omega) only [vd_S39_24 hM, vd_fok0, vd_I_toInt, eq_self, if_true])
    · exact vd_UC.ask (vd_U32 hM 2 (by decide)) (vd_ok1 (c := 27) (i := 2) (v := vd_I 1) (by omega)) u38 (fun d f Q => by simp (disch := first | decide | omega) only [vd_S39_24 hM, vd_S39_34 hM, vd_S39_35 hM, vd_fok1, vd_I_toInt, show ¬ ((1 : Int) = 0) by decide, if_false])
  have u16 : ∀ r, vd_bnP 3 r → vd_UC M vd_Tn 3 39 16 [.ref 27, .ref 16, a] [.int (vd_I r), .ref 27] := fun r _ => vd_UC.ask (vd_U32 hM 2 (by decide)) (vd_ok1 (c := 27) (i := 1) (v := vd_I r) (by omega)) u24 (fun d f Q => by simp only [vd_S39_16 hM, vd_S39_21 hM])
  have u7 : ∀ r, vd_bnP 6 r → vd_UC M vd_Tn 3 39 7 [.ref 27, .ref 16, a] [.int (vd_I r), .ref 27] := fun r _ => vd_UC.ask (vd_U30 hM 2 3 (by decide) (by decide)) (vd_ok1 (c := 27) (i := 0) (v := vd_I r) (by omega)) u16 (fun d f Q => by simp only [vd_S39_7 hM, vd_S39_13 hM])
  exact ⟨u7, u16, u24, u38, fun i r hi hr => (lp (6 - i) i (by omega)).2.1 r hi hr, fun i r hi hr => (lp (6 - i) i (by omega)).2.2 r hi hr⟩
/-- filterHeader behind a fault -/
theorem vd_B181f (hN : vd_SR N) : (∀ (a1 a2 : Value) (s : Int), vd_bnP 6 s → vd_BH N (fun _ : Unit => vd_TR) 3 181 7 [.ref 63, a1, a2] [.int (vd_I s), .ref 63]) ∧ (∀ (a1 a2 : Value) (s : Int), vd_bnP 3 s → vd_BH N (fun _ : Unit => vd_TR) 3 181 16 [.ref 63, a1, a2] [.int (vd_I s), .ref 63]) ∧ (∀ (a1 a2 : Value) (s : Int), vd_b01P s → vd_BH N (fun _ : Unit => vd_TR) 3 181 24 [.ref 63, a1, a2] [.int (vd_I s), .ref 63]) ∧ (∀ (a1 a2 : Value) (s : Int), vd_b01P s → vd_BH N (fun _ : Unit => vd_TR) 3 181 38 [.ref 63, a1, a2] [.int (vd_I s)]) ∧ (∀ (i : Nat) (s : Int), i < 6 → vd_b01P s → vd_BH N (fun _ : Unit => vd_TR) 3 181 68 [.ref 63, .int (vd_I 1), .int (vd_I (i : Int))] [.int (vd_I s), .int (vd_I (i : Int)), .ref 113]) ∧ (∀ (i : Nat) (s : Int), i < 6 → vd_bsP 6 s → vd_BH N (fun _ : Unit => vd_TR) 3 181 97 [.ref 63, .int (vd_I 1), .int (vd_I (i : Int))] [.int (vd_I s), .int (vd_I (i : Int)), .ref 115]) := by
  have b104 : ∀ a1 a2, vd_BH N (fun _ : Unit => vd_TR) 3 181 104 [.ref 63, .int a1, .int a2] [] := fun a1 a2 => vd_BH.ret () vd_okJ (fun d g Q _ => by simp only [vd_S181_104 hN, vd_TR])
  have lp : ∀ (m i : Nat), i + m = 6 → (∀ x1 : Int, vd_b01P x1 → vd_BH N (fun _ : Unit => vd_TR) 3 181 49 [.ref 63, .int (vd_I x1), .int (vd_I (i : Int))] []) ∧ (∀ s : Int, i < 6 → vd_b01P s → vd_BH N (fun _ : Unit => vd_TR) 3 181 68 [.ref 63, .int (vd_I 1), .int (vd_I (i : Int))] [.int (vd_I s), .int (vd_I (i : Int)), .ref 113]) ∧ (∀ s : Int, i < 6 → vd_bsP 6 s → vd_BH N (fun _ : Unit => vd_TR) 3 181 97 [.ref 63, .int (vd_I 1), .int (vd_I (i : Int))] [.int (vd_I s), .int (vd_I (i : Int)), .ref 115]) := by
    intro m
    induction m with
    | zero =>
      intro i hi
      refine ⟨fun x1 _ => vd_BH.go vd_okJ (b104 (vd_I x1) (vd_I (i : Int))) (fun d f Q _ => ?_), fun r h => absurd h (by omega), fun r h => absurd h (by omega)⟩
      simp (disch := omega) only [vd_S181_49 hN, vd_I_toInt, show ¬ ((i : Int) < 6) by omega, if_false]
    | succ m ih =>
      intro i hi
      have ei : (i : Int) + 1 = ((i + 1 : Nat) : Int) := by omega
      have b98 : ∀ x1 : Int, vd_b01P x1 → vd_BH N (fun _ : Unit => vd_TR) 3 181 98 [.ref 63, .int (vd_I x1), .int (vd_I (i : Int))] [] := fun x1 hx => vd_BH.go vd_okJ ((ih (i + 1) (by omega)).1 x1 hx) (fun d f Q _ => by simp only [vd_S181_98 hN, vd_I_add, ei])
      have b97 : ∀ s : Int, vd_bsP 6 s → vd_BH N (fun _ : Unit => vd_TR) 3 181 97 [.ref 63, .int (vd_I 1), .int (vd_I (i : Int))] [.int (vd_I s), .int (vd_I (i : Int)), .ref 115] := fun s _ => vd_BH.go (vd_okg1 (c := 115) (i := i) (v := vd_I s) (by unfold vd_inH; omega) (by omega)) (b98 1 (Or.inr rfl)) (fun d f Q _ => by simp (disch := omega) only [vd_S181_97 hN, Int.toNat_natCast])
      have b68 : ∀ s : Int, vd_b01P s → vd_BH N (fun _ : Unit => vd_TR) 3 181 68 [.ref 63, .int (vd_I 1), .int (vd_I (i : Int))] [.int (vd_I s), .int (vd_I (i : Int)), .ref 113] := fun s hs => by
        rcases hs with rfl | rfl
        · exact vd_BH.go (vd_okg1 (c := 113) (i := i) (v := vd_I 0) (by unfold vd_inH; omega) (by omega)) (b98 1 (Or.inr rfl)) (fun d f Q _ => by simp (disch := omega) only [vd_S181_68 hN, vd_S181_75 hN, vd_S181_76 hN, vd_S181_82 hN, Int.toNat_natCast, vd_a01, vd_up_eq, vd_I_toInt, eq_self, if_true])
        · exact vd_BH.ask (vd_B182 hN 2 (by decide) 6 (by decide) (by decide)) (vd_okg1 (c := 113) (i := i) (v := vd_I 1) (by unfold vd_inH; omega) (by omega)) (b97 0 (by unfold vd_bsP; decide)) (fun d f Q _ => by simp (disch := omega) only [vd_S181_68 hN, vd_S181_71 hN, vd_S181_76 hN, vd_S181_82 hN, vd_S181_86 hN, vd_S181_94 hN, Int.toNat_natCast, vd_a11, vd_up_eq, vd_I_toInt, show ¬ ((1 : Int) = 0) by decide, if_false])
      refine ⟨fun x1 hx => ?_, fun r _ h => b68 r h, fun r _ h => b97 r h⟩
      rcases hx with rfl | rfl
      · exact vd_BH.go (vd_okg1 (c := 113) (i := i) (v := vd_I 0) (by unfold vd_inH; omega) (by omega)) (b98 0 (Or.inl rfl)) (fun d f Q _ => by simp (disch := omega) only [vd_S181_49 hN, vd_S181_55 hN, vd_S181_75 hN, vd_S181_76 hN, vd_S181_82 hN, Int.toNat_natCast, vd_a01, vd_up_eq, vd_I_toInt, show ((i : Int) < 6) by omega, eq_self, if_true])
      · exact vd_BH.ask (vd_B177 hN 2 (by decide)) vd_okJ (b68 0 (Or.inl rfl)) (fun d f Q _ => by simp (disch := omega) only [vd_S181_49 hN, vd_S181_55 hN, vd_S181_64 hN, vd_S181_65 hN, vd_I_toInt, show ((i : Int) < 6) by omega, show ¬ ((1 : Int) = 0) by decide, if_false, if_true])
  have b46 : ∀ (a1 a2 : Value) (s : Int), vd_b01P s → vd_BH N (fun _ : Unit => vd_TR) 3 181 46 [.ref 63, a1, a2] [.int (vd_I s)] := fun a1 a2 s hs => vd_BH.go vd_okJ ((lp 6 0 rfl).1 s hs) (fun d f Q _ => by simp only [vd_S181_46 hN]; rfl)
  have b38 : ∀ (a1 a2 : Value) (s : Int), vd_b01P s → vd_BH N (fun _ : Unit => vd_TR) 3 181 38 [.ref 63, a1, a2] [.int (vd_I s)] := fun a1 a2 s hs => by
    rcases hs with rfl | rfl
    · exact vd_BH.go vd_okJ (b46 a1 a2 0 (Or.inl rfl)) (fun d f Q _ => by simp (disch := omega) only [vd_S181_38 hN, vd_S181_45 hN, vd_I_toInt, eq_self, if_true])
    · exact vd_BH.go vd_okJ (b46 a1 a2 1 (Or.inr rfl)) (fun d f Q _ => by simp (disch := omega) only [vd_S181_38 hN, vd_S181_41 hN, vd_I_toInt, show ¬ ((1 : Int) = 0) by decide, if_false])
  have b24 : ∀ (a1 a2 : Value) (s : Int), vd_b01P s → vd_BH N (fun _ : Unit => vd_TR) 3 181 24 [.ref 63, a1, a2] [.int (vd_I s), .ref 63] := fun a1 a2 s hs => by
    rcases hs with rfl | rfl
    · exact vd_BH.go (vd_okg1 (c := 63) (i := 48) (v := vd_I 0) (by unfold vd_inH; omega) (by omega)) (b46 a1 a2 0 (Or.inl rfl)) (fun d f Q _ => by simp (disch := first | decide | omega) only [vd_S181_24 hN, vd_S181_45 hN, vd_fok0, vd_I_toInt, eq_self, if_true])
    · exact vd_BH.ask (vd_B177 hN 2 (by decide)) (vd_okg1 (c := 63) (i := 48) (v := vd_I 1) (by unfold vd_inH; omega) (by omega)) (b38 a1 a2 0 (Or.inl rfl)) (fun d f Q _ => by simp (disch := first | decide | omega) only [vd_S181_24 hN, vd_S181_34 hN, vd_S181_35 hN, vd_fok1, vd_I_toInt, show ¬ ((1 : Int) = 0) by decide, if_false])
  have b16 : ∀ (a1 a2 : Value) (s : Int), vd_bnP 3 s → vd_BH N (fun _ : Unit => vd_TR) 3 181 16 [.ref 63, a1, a2] [.int (vd_I s), .ref 63] := fun a1 a2 s _ => vd_BH.ask (vd_B177 hN 2 (by decide)) (vd_okg1 (c := 63) (i := 42) (v := vd_I s) (by unfold vd_inH; omega) (by omega)) (b24 a1 a2 0 (Or.inl rfl)) (fun d f Q _ => by simp only [vd_S181_16 hN, vd_S181_21 hN])
  have b7 : ∀ (a1 a2 : Value) (s : Int), vd_bnP 6 s → vd_BH N (fun _ : Unit => vd_TR) 3 181 7 [.ref 63, a1, a2] [.int (vd_I s), .ref 63] := fun a1 a2 s _ => vd_BH.ask (vd_B175 hN 2 3 (by decide) (by decide)) (vd_okg1 (c := 63) (i := 41) (v := vd_I s) (by unfold vd_inH; omega) (by omega)) (b16 a1 a2 0 (by unfold vd_bnP; decide)) (fun d f Q _ => by simp only [vd_S181_7 hN, vd_S181_13 hN])
  exact ⟨b7, b16, b24, b38, fun i r hi hr => (lp (6 - i) i (by omega)).2.1 r hi hr, fun i r hi hr => (lp (6 - i) i (by omega)).2.2 r hi hr⟩
/-- whole, behind a fault -/
theorem vd_B181 (hN : vd_SR N) : vd_BH N (fun _ : Unit => vd_TR) 3 181 0 [.ref 63, vd_U, vd_U] [] := vd_BH.ask (vd_B175 hN 2 6 (by decide) (by decide)) vd_okJ ((vd_B181f hN).1 vd_U vd_U 0 (by unfold vd_bnP; decide)) (fun d f Q _ => by simp only [vd_S181_0 hN, vd_S181_4 hN])
theorem vd_U39w (hM : vd_SC M ow fa lo lf) : vd_UC M vd_Tn 3 39 0 [.ref 27, .ref 16, vd_U] [] := vd_UC.ask (vd_U30 hM 2 6 (by decide) (by decide)) vd_okI (vd_U39 hM vd_U).1 (fun d f Q => by simp only [vd_S39_0 hM, vd_S39_4 hM])
/-- an extra's new amount, told or not -/
def vd_ext (f f' g' : Nat → Nat → Int32) (i : Nat) : Prop := (g' 113 i = vd_I 0 ∧ f' 28 i = f 28 i) ∨ (g' 113 i = vd_I 1 ∧ ∃ z : Int, -64 ≤ z ∧ z ≤ 64 ∧ f' 28 i = vd_I z ∧ g' 115 i = vd_I z)
def vd_VL (N : vd_M) (f g : Nat → Nat → Int32) (i : Nat) : vd_M → Unit → Unit → Int → (Nat → Nat → Int32) → (Nat → Nat → Int32) → Prop := fun N' _ _ _ f' g' => N' = N ∧ (∀ j, i ≤ j → j < 6 → vd_ext f f' g' j) ∧ (∀ c j, ¬ (c = 16 ∧ (j = 1 ∨ j = 3)) → ¬ (c = 28 ∧ i ≤ j) → f' c j = f c j) ∧ (∀ c j, ¬ (c = 63 ∧ (j = 74 ∨ j = 76)) → ¬ (c = 113 ∧ i ≤ j) → ¬ (c = 115 ∧ i ≤ j) → g' c j = g c j)
theorem vd_extLoop (hM : vd_SC M ow fa lo lf) (hN : vd_SR N) {e : Int} : ∀ (m i : Nat) (f g : Nat → Nat → Int32) (p : Int), i + m = 6 → vd_RT f g → vd_pb f p e 0 → vd_qb g p e 0 → vd_HP M N vd_Tn (fun _ : Unit => vd_TR) 3 39 43 [.ref 27, .ref 16, .int (vd_I (i : Int))] [] 3 181 49 [.ref 63, .int (vd_I 1), .int (vd_I (i : Int))] [] e (vd_VL N f g i) f g := by
  intro m
  induction m with
  | zero =>
    intro i f g p hi hT hp hq
    refine vd_HP.ret () () (vd_fU.refl f) (vd_gU.refl g) hp hq ⟨rfl, fun j a b => absurd b (by omega), fun _ _ _ _ => rfl, fun _ _ _ _ _ => rfl⟩ (fun d Q => ?_) (fun d Q => ?_)
    · simp (disch := omega) only [vd_S39_43 hM, vd_S39_74 hM, vd_Tn, vd_TR, vd_I_toInt, show ¬ ((i : Int) < 6) by omega, if_false]
    · simp (disch := omega) only [vd_S181_49 hN, vd_S181_104 hN, vd_TR, vd_I_toInt, show ¬ ((i : Int) < 6) by omega, if_false]
  | succ m ih =>
    intro i f g p hi hT hp hq
    have hi6 : i < 6 := by omega
    have c6 : ((i : Int) < 6) := by omega
    have ei : (i : Int) + 1 = ((i + 1 : Nat) : Int) := by omega
    obtain ⟨_, _, _, _, u53, u67⟩ := vd_U39 hM (.int (vd_I (i : Int)))
    obtain ⟨_, _, _, _, b68, b97⟩ := vd_B181f hN
    refine vd_HP.ask (vd_Q32 hM hN 2 2 (by decide) (by decide)) (vd_fU.refl f) (vd_gU.refl g) hT hp hq (fun r hr => u53 i r hi6 hr) (fun s hs => b68 i s hi6 hs) (fun d Q => ?_) (fun d Q => ?_) (fun f2 g2 p2 r hr hT2 hp2 hq2 F2 G2 => ?_)
    · simp (disch := omega) only [vd_S39_43 hM, vd_S39_49 hM, vd_S39_50 hM, vd_I_toInt, c6, if_true]
    · simp (disch := omega) only [vd_S181_49 hN, vd_S181_55 hN, vd_S181_64 hN, vd_S181_65 hN, vd_I_toInt, c6, show ¬ ((1 : Int) = 0) by decide, if_false, if_true]
    rcases hr with rfl | rfl
    · have hg1 : vd_gU g2 (vd_up g2 113 i (vd_I 0)) := (vd_gU.refl g2).up (by unfold vd_inH; omega) (by omega)
      refine vd_HP.s (vd_fU.refl f2) hg1 ((ih (i + 1) f2 (vd_up g2 113 i (vd_I 0)) p2 (by omega) (hT2.keepH (vd_fHd.refl f2) hg1.1) hp2 (hq2.keepU hg1.2)).mono ?_) (fun d Q => ?_) (fun d Q => ?_)
      · rintro N' a0 a p' f' g' ⟨v1, v2, v3, v4⟩
        refine ⟨v1, fun j a b => ?_, fun c j q1 q2 => ?_, fun c j q1 q2 q3 => ?_⟩
        · by_cases hj : j = i
          · subst hj
            refine Or.inl ⟨?_, ?_⟩
            · rw [v4 113 j (by omega) (by omega) (by omega), vd_up_eq]
            · rw [v3 28 j (by omega) (by omega), F2 28 j (by omega)]
          · rcases v2 j (by omega) b with ⟨x, y⟩ | ⟨x, y⟩
            · exact Or.inl ⟨x, by rw [y, F2 28 j (by omega)]⟩
            · exact Or.inr ⟨x, y⟩
        · rw [v3 c j q1 (by omega), F2 c j q1]
        · rw [v4 c j q1 (by omega) (by omega), vd_up_ne (by omega), G2 c j q1]
      · simp (disch := omega) only [vd_S39_53 hM, vd_S39_68 hM, vd_I_toInt, eq_self, if_true, vd_I_add, ei]
      · simp (disch := omega) only [vd_S181_68 hN, vd_S181_75 hN, vd_S181_76 hN, vd_S181_82 hN, vd_S181_98 hN, Int.toNat_natCast, vd_a01, vd_up_eq, vd_I_toInt, eq_self, if_true, vd_I_add, ei]
    · have hg1 : vd_gU g2 (vd_up g2 113 i (vd_I 1)) := (vd_gU.refl g2).up (by unfold vd_inH; omega) (by omega)
      refine vd_HP.ask (vd_Q40 hM hN 2 2 (by decide) (by decide) 6 (by decide) (by decide)) (vd_fU.refl f2) hg1 hT2 hp2 hq2 (fun r hr => u67 i r hi6 hr) (fun s hs => b97 i s hi6 hs) (fun d Q => ?_) (fun d Q => ?_) (fun f3 g3 p3 z hz hT3 hp3 hq3 F3 G3 => ?_)
      · simp (disch := omega) only [vd_S39_53 hM, vd_S39_56 hM, vd_S39_64 hM, vd_I_toInt, show ¬ ((1 : Int) = 0) by decide, if_false]
      · simp (disch := omega) only [vd_S181_68 hN, vd_S181_71 hN, vd_S181_76 hN, vd_S181_82 hN, vd_S181_86 hN, vd_S181_94 hN, Int.toNat_natCast, vd_a11, vd_up_eq, vd_I_toInt, show ¬ ((1 : Int) = 0) by decide, if_false]
      have hz := hz.n (z := 64) (by decide)
      have hf2 : vd_fU f3 (vd_up f3 28 i (vd_I z)) := (vd_fU.refl f3).up (by omega)
      have hg2 : vd_gU g3 (vd_up g3 115 i (vd_I z)) := (vd_gU.refl g3).up (by unfold vd_inH; omega) (by omega)
      refine vd_HP.s hf2 hg2 ((ih (i + 1) _ _ p3 (by omega) (hT3.keepH hf2.1 hg2.1) (hp3.keepU hf2.2) (hq3.keepU hg2.2)).mono ?_) (fun d Q => ?_) (fun d Q => ?_)
      · rintro N' a0 a p' f' g' ⟨v1, v2, v3, v4⟩
        refine ⟨v1, fun j a b => ?_, fun c j q1 q2 => ?_, fun c j q1 q2 q3 => ?_⟩
        · by_cases hj : j = i
          · subst hj
            refine Or.inr ⟨?_, z, by omega, by omega, ?_, ?_⟩
            · rw [v4 113 j (by omega) (by omega) (by omega), vd_up_ne (by omega), G3 113 j (by omega), vd_up_eq]
            · rw [v3 28 j (by omega) (by omega), vd_up_eq]
            · rw [v4 115 j (by omega) (by omega) (by omega), vd_up_eq]
          · rcases v2 j (by omega) b with ⟨x, y⟩ | ⟨x, y⟩
            · exact Or.inl ⟨x, by rw [y, vd_up_ne (by omega), F3 28 j (by omega), F2 28 j (by omega)]⟩
            · exact Or.inr ⟨x, y⟩
        · rw [v3 c j q1 (by omega), vd_up_ne (by omega), F3 c j q1, F2 c j q1]
        · rw [v4 c j q1 (by omega) (by omega), vd_up_ne (by omega), G3 c j q1, vd_up_ne (by omega), G2 c j q1]
      · simp (disch := omega) only [vd_S39_67 hM, vd_S39_68 hM, Int.toNat_natCast, vd_I_add, ei]
      · simp (disch := omega) only [vd_S181_97 hN, vd_S181_98 hN, Int.toNat_natCast, vd_I_add, ei]
/-- no extra is told: the reference's loop alone -/
theorem vd_extNone (hN : vd_SR N) : ∀ (m i : Nat) (g : Nat → Nat → Int32), i + m = 6 → ∃ g' : Nat → Nat → Int32, (∀ d Q, vd_wp (d + 3) 181 49 [.ref 63, .int (vd_I 0), .int (vd_I (i : Int))] [] (vd_mf N g) Q = Q (vd_mf N g') (.inl none)) ∧ (∀ j, i ≤ j → j < 6 → g' 113 j = vd_I 0) ∧ (∀ c j, ¬ (c = 113 ∧ i ≤ j) → g' c j = g c j) := by
  intro m
  induction m with
  | zero =>
    intro i g hi
    refine ⟨g, fun d Q => ?_, fun j a b => absurd b (by omega), fun _ _ _ => rfl⟩
    simp (disch := omega) only [vd_S181_49 hN, vd_S181_104 hN, vd_I_toInt, show ¬ ((i : Int) < 6) by omega, if_false]
  | succ m ih =>
    intro i g hi
    have c6 : ((i : Int) < 6) := by omega
    have ei : (i : Int) + 1 = ((i + 1 : Nat) : Int) := by omega
    obtain ⟨g', q1, q2, q3⟩ := ih (i + 1) (vd_up g 113 i (vd_I 0)) (by omega)
    refine ⟨g', fun d Q => ?_, fun j a b => ?_, fun c j h => ?_⟩
    · refine Eq.trans ?_ (q1 d Q)
      conv => lhs; rw [vd_S181_49 hN]
      simp (disch := omega) only [vd_S181_55 hN, vd_S181_75 hN, vd_S181_76 hN, vd_S181_82 hN, vd_S181_98 hN, Int.toNat_natCast, vd_a01, vd_up_eq, vd_I_toInt, c6, eq_self, if_true, vd_I_add, ei]
    · by_cases hj : j = i
      · subst hj
        rw [q3 113 j (by omega), vd_up_eq]
      · exact q2 j (by omega) b
    · rw [q3 c j (by omega), vd_up_ne (by omega)]
def vd_VF1 (N : vd_M) (f g : Nat → Nat → Int32) : vd_M → Unit → Unit → Int → (Nat → Nat → Int32) → (Nat → Nat → Int32) → Prop := fun N' _ _ _ f' g' => N' = N ∧ (∃ lv sh ec : Int, (0 ≤ lv ∧ lv ≤ 63 ∧ 0 ≤ sh ∧ sh ≤ 7 ∧ (ec = 0 ∨ ec = 1)) ∧ (f' 27 0 = vd_I lv ∧ f' 27 1 = vd_I sh ∧ f' 27 2 = vd_I ec) ∧ (g' 63 41 = vd_I lv ∧ g' 63 42 = vd_I sh ∧ g' 63 48 = vd_I ec)) ∧ (∀ j, j < 6 → vd_ext f f' g' j) ∧ (∀ c j, ¬ (c = 16 ∧ (j = 1 ∨ j = 3)) → ¬ (c = 27 ∧ j ≤ 2) → c ≠ 28 → f' c j = f c j) ∧ (∀ c j, ¬ (c = 63 ∧ (j = 74 ∨ j = 76 ∨ j = 41 ∨ j = 42 ∨ j = 48)) → c ≠ 113 → c ≠ 115 → g' c j = g c j)
/-- readFilter and filterHeader -/
theorem vd_H39 (hM : vd_SC M ow fa lo lf) (hN : vd_SR N) {f g : Nat → Nat → Int32} {p e : Int} (hT : vd_RT f g) (hp : vd_pb f p e 0) (hq : vd_qb g p e 0) : vd_HP M N vd_Tn (fun _ : Unit => vd_TR) 3 39 0 [.ref 27, .ref 16, vd_U] [] 3 181 0 [.ref 63, vd_U, vd_U] [] e (vd_VF1 N f g) f g := by
  obtain ⟨u7, u16, u24, u38, _, _⟩ := vd_U39 hM vd_U
  obtain ⟨b7, b16, b24, b38, _, _⟩ := vd_B181f hN
  refine vd_HP.ask (vd_Q30 hM hN 2 2 6 (by decide) (by decide)) (vd_fU.refl f) (vd_gU.refl g) hT hp hq u7 (b7 vd_U vd_U) (fun d Q => by simp only [vd_S39_0 hM, vd_S39_4 hM]) (fun d Q => by simp only [vd_S181_0 hN, vd_S181_4 hN]) (fun f1 g1 p1 lv hlv hT1 hp1 hq1 F1 G1 => ?_)
  have hlv := hlv.n (z := 64) (by decide)
  refine vd_HP.ask (f1 := vd_up f1 27 0 (vd_I lv)) (g1 := vd_up g1 63 41 (vd_I lv)) (vd_Q30 hM hN 2 2 3 (by decide) (by decide)) ((vd_fU.refl f1).up (by omega)) ((vd_gU.refl g1).up (by unfold vd_inH; omega) (by omega)) hT1 hp1 hq1 u16 (b16 vd_U vd_U) (fun d Q => by simp only [vd_S39_7 hM, vd_S39_13 hM]) (fun d Q => by simp only [vd_S181_7 hN, vd_S181_13 hN]) (fun f2 g2 p2 sh hsh hT2 hp2 hq2 F2 G2 => ?_)
  have hsh := hsh.n (z := 8) (by decide)
  refine vd_HP.ask (f1 := vd_up f2 27 1 (vd_I sh)) (g1 := vd_up g2 63 42 (vd_I sh)) (vd_Q32 hM hN 2 2 (by decide) (by decide)) ((vd_fU.refl f2).up (by omega)) ((vd_gU.refl g2).up (by unfold vd_inH; omega) (by omega)) hT2 hp2 hq2 u24 (b24 vd_U vd_U) (fun d Q => by simp only [vd_S39_16 hM, vd_S39_21 hM]) (fun d Q => by simp only [vd_S181_16 hN, vd_S181_21 hN]) (fun f3 g3 p3 ec hec hT3 hp3 hq3 F3 G3 => ?_)
  -- what stands there so far
  have A : ∀ (ec : Int), (vd_up f3 27 2 (vd_I ec)) 27 0 = vd_I lv ∧ (vd_up f3 27 2 (vd_I ec)) 27 1 = vd_I sh ∧ (vd_up f3 27 2 (vd_I ec)) 27 2 = vd_I ec := fun ec => ⟨by rw [vd_up_ne (by omega), F3 27 0 (by omega), vd_up_ne (by omega), F2 27 0 (by omega), vd_up_eq], by rw [vd_up_ne (by omega), F3 27 1 (by omega), vd_up_eq], vd_up_eq _ _ _ _⟩
  have Bq : ∀ (ec : Int), (vd_up g3 63 48 (vd_I ec)) 63 41 = vd_I lv ∧ (vd_up g3 63 48 (vd_I ec)) 63 42 = vd_I sh ∧ (vd_up g3 63 48 (vd_I ec)) 63 48 = vd_I ec := fun ec => ⟨by rw [vd_up_ne (by omega), G3 63 41 (by omega), vd_up_ne (by omega), G2 63 41 (by omega), vd_up_eq], by rw [vd_up_ne (by omega), G3 63 42 (by omega), vd_up_eq], vd_up_eq _ _ _ _⟩
  have FF : ∀ (ec : Int) c j, ¬ (c = 16 ∧ (j = 1 ∨ j = 3)) → ¬ (c = 27 ∧ j ≤ 2) → (vd_up f3 27 2 (vd_I ec)) c j = f c j := fun ec c j q1 q2 => by rw [vd_up_ne (by omega), F3 c j q1, vd_up_ne (by omega), F2 c j q1, vd_up_ne (by omega), F1 c j q1]
  have GG : ∀ (ec : Int) c j, ¬ (c = 63 ∧ (j = 74 ∨ j = 76 ∨ j = 41 ∨ j = 42 ∨ j = 48)) → (vd_up g3 63 48 (vd_I ec)) c j = g c j := fun ec c j q1 => by rw [vd_up_ne (by omega), G3 c j (by omega), vd_up_ne (by omega), G2 c j (by omega), vd_up_ne (by omega), G1 c j (by omega)]
  rcases hec with rfl | rfl
  · -- extras don't count
    have hf3 : vd_fU f3 (vd_up f3 27 2 (vd_I 0)) := (vd_fU.refl f3).up (by omega)
    obtain ⟨g', q1, q2, q3⟩ := vd_extNone hN 6 0 (vd_up g3 63 48 (vd_I 0)) rfl
    have hg3 : vd_gU g3 g' := ⟨fun c j h => by rw [q3 c j (by unfold vd_inH at h; omega), vd_up_ne (by unfold vd_inH at h; omega)], fun j a b => by rw [q3 63 j (by omega), vd_up_ne (by omega)]⟩
    refine vd_HP.ret () () hf3 hg3 hp3 hq3 ⟨rfl, ⟨lv, sh, 0, by omega, A 0, ?_⟩, fun j hj => Or.inl ⟨q2 j (by omega) hj, FF 0 28 j (by omega) (by omega)⟩, fun c j a b _ => FF 0 c j a b, fun c j a b _ => ?_⟩ (fun d Q => ?_) (fun d Q => ?_)
    · rw [q3 63 41 (by omega), q3 63 42 (by omega), q3 63 48 (by omega)]
      exact Bq 0
    · rw [q3 c j (by omega)]
      exact GG 0 c j a
    · simp (disch := first | decide | omega) only [vd_S39_24 hM, vd_S39_74 hM, vd_Tn, vd_TR, vd_fok0, vd_I_toInt, eq_self, if_true]
    · simp (disch := first | decide | omega) only [vd_S181_24 hN, vd_S181_45 hN, vd_S181_46 hN, vd_TR, vd_fok0, vd_I_toInt, eq_self, if_true]
      exact q1 d Q
  · refine vd_HP.ask (f1 := vd_up f3 27 2 (vd_I 1)) (g1 := vd_up g3 63 48 (vd_I 1)) (vd_Q32 hM hN 2 2 (by decide) (by decide)) ((vd_fU.refl f3).up (by omega)) ((vd_gU.refl g3).up (by unfold vd_inH; omega) (by omega)) hT3 hp3 hq3 u38 (b38 vd_U vd_U) (fun d Q => ?_) (fun d Q => ?_) (fun f4 g4 p4 mo hmo hT4 hp4 hq4 F4 G4 => ?_)
    · simp (disch := first | decide | omega) only [vd_S39_24 hM, vd_S39_34 hM, vd_S39_35 hM, vd_fok1, vd_I_toInt, show ¬ ((1 : Int) = 0) by decide, if_false]
    · simp (disch := first | decide | omega) only [vd_S181_24 hN, vd_S181_34 hN, vd_S181_35 hN, vd_fok1, vd_I_toInt, show ¬ ((1 : Int) = 0) by decide, if_false]
    rcases hmo with rfl | rfl
    · obtain ⟨g', q1, q2, q3⟩ := vd_extNone hN 6 0 g4 rfl
      have hg3 : vd_gU g4 g' := ⟨fun c j h => by rw [q3 c j (by unfold vd_inH at h; omega)], fun j a b => by rw [q3 63 j (by omega)]⟩
      refine vd_HP.ret () () (vd_fU.refl f4) hg3 hp4 hq4 ⟨rfl, ⟨lv, sh, 1, by omega, ?_, ?_⟩, fun j hj => Or.inl ⟨q2 j (by omega) hj, ?_⟩, fun c j a b _ => ?_, fun c j a b _ => ?_⟩ (fun d Q => ?_) (fun d Q => ?_)
      · rw [F4 27 0 (by omega), F4 27 1 (by omega), F4 27 2 (by omega)]
        exact A 1
      · rw [q3 63 41 (by omega), q3 63 42 (by omega), q3 63 48 (by omega), G4 63 41 (by omega), G4 63 42 (by omega), G4 63 48 (by omega)]
        exact Bq 1
      · rw [F4 28 j (by omega)]
        exact FF 1 28 j (by omega) (by omega)
      · rw [F4 c j a]
        exact FF 1 c j a b
      · rw [q3 c j (by omega), G4 c j (by omega)]
        exact GG 1 c j a
      · simp (disch := omega) only [vd_S39_38 hM, vd_S39_74 hM, vd_Tn, vd_TR, vd_I_toInt, eq_self, if_true]
      · simp (disch := omega) only [vd_S181_38 hN, vd_S181_45 hN, vd_S181_46 hN, vd_TR, vd_I_toInt, eq_self, if_true]
        exact q1 d Q
    · refine vd_HP.s (vd_fU.refl f4) (vd_gU.refl g4) ((vd_extLoop hM hN 6 0 f4 g4 p4 rfl hT4 hp4 hq4).mono ?_) (fun d Q => ?_) (fun d Q => ?_)
      · rintro N' a0 a p' f' g' ⟨v1, v2, v3, v4⟩
        refine ⟨v1, ⟨lv, sh, 1, by omega, ?_, ?_⟩, fun j hj => ?_, fun c j a b q => ?_, fun c j a b q => ?_⟩
        · rw [v3 27 0 (by omega) (by omega), v3 27 1 (by omega) (by omega), v3 27 2 (by omega) (by omega), F4 27 0 (by omega), F4 27 1 (by omega), F4 27 2 (by omega)]
          exact A 1
        · rw [v4 63 41 (by omega) (by omega) (by omega), v4 63 42 (by omega) (by omega) (by omega), v4 63 48 (by omega) (by omega) (by omega), G4 63 41 (by omega), G4 63 42 (by omega), G4 63 48 (by omega)]
          exact Bq 1
        · rcases v2 j (by omega) hj with ⟨x, y⟩ | ⟨x, y⟩
          · exact Or.inl ⟨x, by rw [y, F4 28 j (by omega)]; exact FF 1 28 j (by omega) (by omega)⟩
          · exact Or.inr ⟨x, y⟩
        · rw [v3 c j a (by omega), F4 c j a]
          exact FF 1 c j a b
        · rw [v4 c j (by omega) (by omega) (by omega), G4 c j (by omega)]
          exact GG 1 c j a
      · simp (disch := omega) only [vd_S39_38 hM, vd_S39_41 hM, vd_I_toInt, show ¬ ((1 : Int) = 0) by decide, if_false]
        rfl
      · simp (disch := omega) only [vd_S181_38 hN, vd_S181_41 hN, vd_S181_46 hN, vd_I_toInt, show ¬ ((1 : Int) = 0) by decide, if_false]
        rfl
end VDHF
