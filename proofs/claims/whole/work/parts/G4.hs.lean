/-! ===== chances, the segments' header ===== -/
section VDHS
variable {M N : vd_M} {ow fa lo lf : Nat}
/-- the class's last call; the reference goes its way -/
theorem vd_HP.tail {β γ α : Type} {T : β → vd_Tg} {T1 : γ → vd_Tg} {U : α → vd_Tg} {m n k pc kc pcc m' k' pc' n' kr pcr : Nat} {ls st lc sc ls' st' lr sr : List Value} {V : vd_M → β → α → Int → (Nat → Nat → Int32) → (Nat → Nat → Int32) → Prop} {W : vd_M → γ → α → Int → (Nat → Nat → Int32) → (Nat → Nat → Int32) → Prop} {f g f1 g1 : Nat → Nat → Int32} {e : Int} {KC : Nat → (vd_M → (Option Value ⊕ Nat) → Prop) → (vd_M → (Option Value ⊕ Nat) → Prop)} (z : γ → β) (hf : vd_fU f f1) (hg : vd_gU g g1) (P : vd_HP M N T1 U n kc pcc lc sc n' kr pcr lr sr e W f1 g1) (h : ∀ d Q, vd_wp (d + m) k pc ls st (vd_mf M f) Q = vd_wp (d + n) kc pcc lc sc (vd_mf M f1) (KC d Q)) (h' : ∀ d Q, vd_wp (d + m') k' pc' ls' st' (vd_mf N g) Q = vd_wp (d + n') kr pcr lr sr (vd_mf N g1) Q) (w : ∀ d Q y f', T1 y d (KC d Q) (vd_mf M f') = T (z y) d Q (vd_mf M f')) (hV : ∀ N' y a p f' g', W N' y a p f' g' → V N' (z y) a p f' g') : vd_HP M N T U m k pc ls st m' k' pc' ls' st' e V f g := by
  obtain ⟨f', g', N', y, a, p', t, b, q1, q2, q3, q4, q5, q6, q7, q8⟩ := P
  exact ⟨f', g', N', z y, a, p', t, b, fun d Q => by rw [h, q1, w], fun d Q => by rw [h', q2], q3, q4, fun hb => ⟨(q5 hb).1, hV _ _ _ _ _ _ (q5 hb).2⟩, hf.1.trans q6, hg.1.trans q7, q8⟩
theorem vd_U42 (hM : vd_SC M ow fa lo lf) (n : Nat) (hn : 1 ≤ n) : ∀ (f : Nat → Nat → Int32) (p e b : Int), vd_pb f p e b → ∃ (f' : Nat → Nat → Int32) (p' b' r : Int), (∀ d Q, vd_wp (d + n) 42 0 [.ref 16] [] (vd_mf M f) Q = Q (vd_mf M f') (.inl (some (.int (vd_I r))))) ∧ vd_bcP r ∧ vd_pb f' p' e b' ∧ (b ≠ 0 → b' = b) ∧ vd_fP f f' := fun f p e b h => by
  obtain ⟨j, rfl⟩ : ∃ j, n = j + 1 := ⟨n - 1, by omega⟩
  obtain ⟨f1, p1, b1, r1, q1, q2, q3, q4, q5, q6⟩ := vd_numU hM (w := 1) (by decide) (by decide) h
  by_cases c : r1 = 1
  · obtain ⟨f2, p2, b2, r2, u1, u2, u3, u4, u5, u6⟩ := vd_numU hM (w := 8) (by decide) (by decide) q4
    have u3 : r2 < 256 := u3
    refine ⟨f2, p2, b2, max 1 r2, fun d Q => ?_, ⟨by omega, by omega⟩, u4, fun hb => (u5 (by rw [q5 hb]; exact hb)).trans (q5 hb), q6.trans u6⟩
    have e : d + (j + 1) = (d + j) + 1 := rfl
    rw [e]
    simp (disch := omega) only [vd_S42_0 hM, vd_S42_2 hM, vd_S42_5 hM, vd_S42_9 hM, vd_S42_13 hM, vd_S42_16 hM, vd_S42_19 hM, vd_S42_25 hM, q1, u1, vd_P287, vd_rs_v, vd_rs_n, vd_I_toInt, c, eq_self, if_true]
  · refine ⟨f1, p1, b1, 255, fun d Q => ?_, ⟨by decide, by decide⟩, q4, q5, q6⟩
    have q3 : r1 < 2 := q3
    have e : d + (j + 1) = (d + j) + 1 := rfl
    rw [e]
    simp (disch := omega) only [vd_S42_0 hM, vd_S42_2 hM, vd_S42_5 hM, vd_S42_22 hM, vd_S42_25 hM, q1, vd_rs_v, vd_rs_n, vd_I_toInt, c, if_false]
/-- a chance on both sides -/
theorem vd_chP (hM : vd_SC M ow fa lo lf) (hN : vd_SR N) {f g : Nat → Nat → Int32} {p e : Int} (hT : vd_RT f g) (hp : vd_pb f p e 0) (hq : vd_qb g p e 0) : ∃ (f2 g2 : Nat → Nat → Int32) (p2 t2 b r s : Int), (∀ d Q, vd_wp (d + 1) 42 0 [.ref 16] [] (vd_mf M f) Q = Q (vd_mf M f2) (.inl (some (.int (vd_I r))))) ∧ (∀ (o os : Nat) (x2 xs : Int32) d Q, vd_wp (d + 2) 185 11 [.ref 63, .ref o, .int x2] [.ref 63, .int xs, .ref os] (vd_mf N g) Q = vd_wp (d + 2) 185 33 [.ref 63, .ref o, .int x2] [.int (vd_I s), .int xs, .ref os] (vd_mf N g2) Q) ∧ (vd_bcP r ∧ vd_bcP s) ∧ vd_pb f2 p2 e b ∧ vd_qb g2 t2 e b ∧ (b = 0 → r = s ∧ p2 = t2) ∧ vd_fP f f2 ∧ vd_gP g g2 := by
  obtain ⟨f1, g1, p1, t1, b1, r1, s1, q1, q2, ⟨r0, r1', s0, s1'⟩, q4, q5, q6, q7, q8⟩ := vd_num hM hN (w := 1) (by decide) (by decide) hT hp hq
  have r1' : r1 < 2 := r1'
  have s1' : s1 < 2 := s1'
  have his := vd_is_of hN q2 (show s1 = 0 ∨ s1 = 1 by omega)
  -- the class and the reference, by what comes
  have cA : ¬ r1 = 1 → ∀ d Q, vd_wp (d + 1) 42 0 [.ref 16] [] (vd_mf M f) Q = Q (vd_mf M f1) (.inl (some (.int (vd_I 255)))) := fun c d Q => by
    simp (disch := omega) only [vd_S42_0 hM, vd_S42_2 hM, vd_S42_5 hM, vd_S42_22 hM, vd_S42_25 hM, q1, vd_rs_v, vd_rs_n, vd_I_toInt, c, if_false]
  have cB : r1 = 1 → ∀ (f2 : Nat → Nat → Int32) (r2 : Int), 0 ≤ r2 → r2 < 256 → (∀ d Q, vd_wp d 30 0 [.ref 16, .int (vd_I 8), vd_U, vd_U] [] (vd_mf M f1) Q = Q (vd_mf M f2) (.inl (some (.int (vd_I r2))))) → ∀ d Q, vd_wp (d + 1) 42 0 [.ref 16] [] (vd_mf M f) Q = Q (vd_mf M f2) (.inl (some (.int (vd_I (max 1 r2))))) := fun c f2 r2 a b u1 d Q => by
    simp (disch := omega) only [vd_S42_0 hM, vd_S42_2 hM, vd_S42_5 hM, vd_S42_9 hM, vd_S42_13 hM, vd_S42_16 hM, vd_S42_19 hM, vd_S42_25 hM, q1, u1, vd_P287, vd_rs_v, vd_rs_n, vd_I_toInt, c, eq_self, if_true]
  have dA : s1 = 0 → ∀ (o os : Nat) (x2 xs : Int32) d Q, vd_wp (d + 2) 185 11 [.ref 63, .ref o, .int x2] [.ref 63, .int xs, .ref os] (vd_mf N g) Q = vd_wp (d + 2) 185 33 [.ref 63, .ref o, .int x2] [.int (vd_I 255), .int xs, .ref os] (vd_mf N g1) Q := fun c o os x2 xs d Q => by
    simp (disch := omega) only [vd_S185_11 hN, vd_S185_14 hN, vd_S185_30 hN, his, vd_rs_v, vd_rs_n, vd_I_toInt, c, eq_self, if_true]
  have dB : ¬ s1 = 0 → ∀ (g2 : Nat → Nat → Int32) (s2 : Int), 0 ≤ s2 → s2 < 256 → (∀ d Q, vd_wp d 175 0 [.ref 63, .int (vd_I 8), vd_U, vd_U] [] (vd_mf N g1) Q = Q (vd_mf N g2) (.inl (some (.int (vd_I s2))))) → ∀ (o os : Nat) (x2 xs : Int32) d Q, vd_wp (d + 2) 185 11 [.ref 63, .ref o, .int x2] [.ref 63, .int xs, .ref os] (vd_mf N g) Q = vd_wp (d + 2) 185 33 [.ref 63, .ref o, .int x2] [.int (vd_I (max 1 s2)), .int xs, .ref os] (vd_mf N g2) Q := fun c g2 s2 a b u1 o os x2 xs d Q => by
    simp (disch := omega) only [vd_S185_11 hN, vd_S185_14 hN, vd_S185_17 hN, vd_S185_21 hN, vd_S185_24 hN, vd_S185_27 hN, his, u1, vd_P287, vd_rs_v, vd_rs_n, vd_I_toInt, c, if_false]
  by_cases hb : b1 = 0
  · subst hb
    obtain ⟨rfl, rfl⟩ := q6 rfl
    by_cases c : r1 = 1
    · obtain ⟨f2, g2, p2, t2, b2, r2, s2, u1, u2, ⟨v0, v1, z0, z1⟩, u4, u5, u6, u7, u8⟩ := vd_num hM hN (w := 8) (by decide) (by decide) (hT.keepP q7 q8) q4 q5
      have v1 : r2 < 256 := v1
      have z1 : s2 < 256 := z1
      exact ⟨f2, g2, p2, t2, b2, max 1 r2, max 1 s2, cB c f2 r2 v0 v1 u1, dB (by omega) g2 s2 z0 z1 u2, ⟨⟨by omega, by omega⟩, ⟨by omega, by omega⟩⟩, u4, u5, fun hb => ⟨by rw [(u6 hb).1], (u6 hb).2⟩, q7.trans u7, q8.trans u8⟩
    · exact ⟨f1, g1, p1, p1, 0, 255, 255, cA c, dA (by omega), ⟨⟨by decide, by decide⟩, ⟨by decide, by decide⟩⟩, q4, q5, fun _ => ⟨rfl, rfl⟩, q7, q8⟩
  · -- a fault: the class as it comes, the reference with zeros
    have hc : ∃ (f2 : Nat → Nat → Int32) (p2 r : Int), (∀ d Q, vd_wp (d + 1) 42 0 [.ref 16] [] (vd_mf M f) Q = Q (vd_mf M f2) (.inl (some (.int (vd_I r))))) ∧ vd_bcP r ∧ vd_pb f2 p2 e b1 ∧ vd_fP f f2 := by
      by_cases c : r1 = 1
      · obtain ⟨f2, p2, b2, r2, u1, u2, u3, u4, u5, u6⟩ := vd_numU hM (w := 8) (by decide) (by decide) q4
        have u3 : r2 < 256 := u3
        rw [u5 hb] at u4
        exact ⟨f2, p2, max 1 r2, cB c f2 r2 u2 u3 u1, ⟨by omega, by omega⟩, u4, q7.trans u6⟩
      · exact ⟨f1, p1, 255, cA c, ⟨by decide, by decide⟩, q4, q7⟩
    have hr : ∃ s : Int, (∀ (o os : Nat) (x2 xs : Int32) d Q, vd_wp (d + 2) 185 11 [.ref 63, .ref o, .int x2] [.ref 63, .int xs, .ref os] (vd_mf N g) Q = vd_wp (d + 2) 185 33 [.ref 63, .ref o, .int x2] [.int (vd_I s), .int xs, .ref os] (vd_mf N g1) Q) ∧ vd_bcP s := by
      by_cases c : s1 = 0
      · exact ⟨255, dA c, ⟨by decide, by decide⟩⟩
      · exact ⟨max 1 0, dB c g1 0 (by decide) (by decide) (vd_bitsB hN (by decide) (by decide) q5 hb), ⟨by decide, by decide⟩⟩
    obtain ⟨f2, p2, r, a1, a2, a3, a4⟩ := hc
    obtain ⟨s, c1, c2⟩ := hr
    exact ⟨f2, g1, p2, t1, b1, r, s, a1, c1, ⟨a2, c2⟩, a3, q5, fun h => absurd h hb, a4, q8⟩
/-- chances behind a fault -/
theorem vd_B185l (hN : vd_SR N) {o L : Nat} (hk : vd_k N o = 32) (hl : vd_l N o = L) (ho : 84 ≤ o ∧ o ≤ 87) (hL : L ≤ 7) : ∀ (m i : Nat), i + m = L → vd_BH N (fun _ : Unit => vd_TR) 2 185 2 [.ref 63, .ref o, .int (vd_I (i : Int))] [] ∧ (∀ s : Int, i < L → vd_bcP s → vd_BH N (fun _ : Unit => vd_TR) 2 185 33 [.ref 63, .ref o, .int (vd_I (i : Int))] [.int (vd_I s), .int (vd_I (i : Int)), .ref o]) := by
  intro m
  induction m with
  | zero =>
    intro i hi
    refine ⟨vd_BH.ret () vd_okJ (fun d f Q _ => ?_), fun r h => absurd h (by omega)⟩
    simp (disch := omega) only [vd_S185_2 hN, vd_S185_4 hN, vd_S185_40 hN, vd_TR, hk, hl, vd_I_toInt, show ¬ ((i : Int) < (L : Int)) by omega, if_false]
  | succ m ih =>
    intro i hi
    have ei : (i : Int) + 1 = ((i + 1 : Nat) : Int) := by omega
    have b33 : ∀ s : Int, vd_BH N (fun _ : Unit => vd_TR) 2 185 33 [.ref 63, .ref o, .int (vd_I (i : Int))] [.int (vd_I s), .int (vd_I (i : Int)), .ref o] := fun s => vd_BH.go (vd_okg1 (c := o) (i := i) (v := vd_I s) (by unfold vd_inH; omega) (by omega)) (ih (i + 1) (by omega)).1 (fun d f Q _ => by simp (disch := omega) only [vd_S185_33 hN, Int.toNat_natCast, vd_I_add, ei])
    have b14 : vd_BH N (fun _ : Unit => vd_TR) 2 185 14 [.ref 63, .ref o, .int (vd_I (i : Int))] [.int (vd_I 0), .int (vd_I (i : Int)), .ref o] := vd_BH.go vd_okJ (b33 255) (fun d f Q _ => by simp (disch := omega) only [vd_S185_14 hN, vd_S185_30 hN, vd_I_toInt, eq_self, if_true])
    refine ⟨vd_BH.ask (vd_B177 hN 1 (by decide)) vd_okJ b14 (fun d f Q _ => ?_), fun s _ _ => b33 s⟩
    simp (disch := omega) only [vd_S185_2 hN, vd_S185_4 hN, vd_S185_8 hN, vd_S185_11 hN, hk, hl, vd_I_toInt, show ((i : Int) < (L : Int)) by omega, if_true]
theorem vd_B185 (hN : vd_SR N) {o L : Nat} (hk : vd_k N o = 32) (hl : vd_l N o = L) (ho : 84 ≤ o ∧ o ≤ 87) (hL : L ≤ 7) : vd_BH N (fun _ : Unit => vd_TR) 2 185 0 [.ref 63, .ref o, vd_U] [] := vd_BH.go vd_okJ (vd_B185l hN hk hl ho hL L 0 (by omega)).1 (fun d f Q _ => by simp only [vd_S185_0 hN]; rfl)
/-- the class's loops of chances behind a fault -/
theorem vd_U41a {β : Type} {T : β → vd_Tg} (hM : vd_SC M ow fa lo lf) (u65 : vd_UC M T 3 41 65 [.ref 27, .ref 16, .int (vd_I 7)] []) : ∀ (m i : Nat), i + m = 7 → vd_UC M T 3 41 43 [.ref 27, .ref 16, .int (vd_I (i : Int))] [] ∧ (∀ r : Int, i < 7 → vd_bcP r → vd_UC M T 3 41 58 [.ref 27, .ref 16, .int (vd_I (i : Int))] [.int (vd_I r), .int (vd_I (i : Int)), .ref 30]) := by
  intro m
  induction m with
  | zero =>
    intro i hi
    have hi : i = 7 := by omega
    subst hi
    refine ⟨vd_UC.s u65 (fun d f Q => ?_), fun r h => absurd h (by omega)⟩
    simp (disch := omega) only [vd_S41_43 hM, vd_I_toInt, show ¬ (((7 : Nat) : Int) < 7) by decide, if_false]
    rfl
  | succ m ih =>
    intro i hi
    have ei : (i : Int) + 1 = ((i + 1 : Nat) : Int) := by omega
    have u58 : ∀ r : Int, vd_bcP r → vd_UC M T 3 41 58 [.ref 27, .ref 16, .int (vd_I (i : Int))] [.int (vd_I r), .int (vd_I (i : Int)), .ref 30] := fun r _ => vd_UC.go (vd_ok1 (c := 30) (i := i) (v := vd_I r) (by omega)) (ih (i + 1) (by omega)).1 (fun d f Q => by simp (disch := omega) only [vd_S41_58 hM, Int.toNat_natCast, vd_I_add, ei])
    refine ⟨vd_UC.ask (vd_U42 hM 2 (by decide)) vd_okI u58 (fun d f Q => ?_), fun r _ h => u58 r h⟩
    simp (disch := omega) only [vd_S41_43 hM, vd_S41_49 hM, vd_S41_55 hM, vd_I_toInt, show ((i : Int) < 7) by omega, if_true]
theorem vd_U41b {β : Type} {T : β → vd_Tg} (hM : vd_SC M ow fa lo lf) (u103 : ∀ x : Int32, vd_UC M T 3 41 103 [.ref 27, .ref 16, .int x] []) : ∀ (m i : Nat), i + m = 3 → vd_UC M T 3 41 75 [.ref 27, .ref 16, .int (vd_I (i : Int))] [] ∧ (∀ r : Int, i < 3 → vd_bcP r → vd_UC M T 3 41 96 [.ref 27, .ref 16, .int (vd_I (i : Int))] [.int (vd_I r), .int (vd_I (i : Int)), .ref 31]) := by
  intro m
  induction m with
  | zero =>
    intro i hi
    refine ⟨vd_UC.s (u103 (vd_I (i : Int))) (fun d f Q => ?_), fun r h => absurd h (by omega)⟩
    simp (disch := omega) only [vd_S41_75 hM, vd_I_toInt, show ¬ ((i : Int) < 3) by omega, if_false]
  | succ m ih =>
    intro i hi
    have ei : (i : Int) + 1 = ((i + 1 : Nat) : Int) := by omega
    have u96 : ∀ r : Int, vd_bcP r → vd_UC M T 3 41 96 [.ref 27, .ref 16, .int (vd_I (i : Int))] [.int (vd_I r), .int (vd_I (i : Int)), .ref 31] := fun r _ => vd_UC.go (vd_ok1 (c := 31) (i := i) (v := vd_I r) (by omega)) (ih (i + 1) (by omega)).1 (fun d f Q => by simp (disch := omega) only [vd_S41_96 hM, Int.toNat_natCast, vd_I_add, ei])
    have u87 : vd_UC M T 3 41 87 [.ref 27, .ref 16, .int (vd_I (i : Int))] [] := vd_UC.ask (vd_U42 hM 2 (by decide)) vd_okI u96 (fun d f Q => by simp only [vd_S41_87 hM, vd_S41_93 hM])
    refine ⟨vd_UC.or vd_okI (u103 (vd_I (i : Int))) u87 (fun f => ?_), fun r _ h => u96 r h⟩
    by_cases c : (f 27 8).toInt = 0
    · refine Or.inl (fun d Q => ?_)
      simp (disch := omega) only [vd_S41_75 hM, vd_S41_80 hM, vd_I_toInt, show ((i : Int) < 3) by omega, if_true, c, eq_self]
    · refine Or.inr (fun d Q => ?_)
      simp (disch := omega) only [vd_S41_75 hM, vd_S41_80 hM, vd_I_toInt, show ((i : Int) < 3) by omega, if_true, c, if_false]
/-- readSegments behind a fault -/
def vd_U41P (M : vd_M) : Prop := (∀ r, vd_b01P r → ∀ a, vd_UC M vd_Tn 3 41 15 [.ref 27, .ref 16, a] [.int (vd_I r), .ref 27]) ∧ (∀ r, vd_b01P r → ∀ a, vd_UC M vd_Tn 3 41 31 [.ref 27, .ref 16, a] [.int (vd_I r), .ref 27]) ∧ vd_UC M vd_Tn 3 41 65 [.ref 27, .ref 16, .int (vd_I 7)] [] ∧ (∀ r, vd_b01P r → vd_UC M vd_Tn 3 41 70 [.ref 27, .ref 16, .int (vd_I 7)] [.int (vd_I r), .ref 27]) ∧ (∀ x : Int32, vd_UC M vd_Tn 3 41 103 [.ref 27, .ref 16, .int x] []) ∧ (∀ r, vd_b01P r → ∀ x : Int32, vd_UC M vd_Tn 3 41 107 [.ref 27, .ref 16, .int x] [.int (vd_I r)])
theorem vd_U41 (hM : vd_SC M ow fa lo lf) : vd_U41P M := by
  have u115 : ∀ x : Int32, vd_UC M vd_Tn 3 41 115 [.ref 27, .ref 16, .int x] [] := fun x => vd_UC.ret () vd_okI (fun d f Q => by simp only [vd_S41_115 hM, vd_Tn, vd_TR])
  have u107 : ∀ r, vd_b01P r → ∀ x : Int32, vd_UC M vd_Tn 3 41 107 [.ref 27, .ref 16, .int x] [.int (vd_I r)] := fun r hr x => by
    rcases hr with rfl | rfl
    · exact vd_UC.s (u115 x) (fun d f Q => by simp (disch := omega) only [vd_S41_107 hM, vd_I_toInt, eq_self, if_true])
    · exact vd_UC.call (vd_U43w hM) vd_okI (u115 x) (fun d f Q => by simp (disch := omega) only [vd_S41_107 hM, vd_S41_110 hM, vd_S41_112 hM, vd_I_toInt, show ¬ ((1 : Int) = 0) by decide, if_false])
  have u103 : ∀ x : Int32, vd_UC M vd_Tn 3 41 103 [.ref 27, .ref 16, .int x] [] := fun x => vd_UC.ask (vd_U32 hM 2 (by decide)) vd_okI (fun r hr => u107 r hr x) (fun d f Q => by simp only [vd_S41_103 hM, vd_S41_104 hM])
  have u73 : ∀ a, vd_UC M vd_Tn 3 41 73 [.ref 27, .ref 16, a] [] := fun a => vd_UC.s (vd_U41b hM u103 3 0 rfl).1 (fun d f Q => by simp only [vd_S41_73 hM]; rfl)
  have u70 : ∀ r, vd_b01P r → vd_UC M vd_Tn 3 41 70 [.ref 27, .ref 16, .int (vd_I 7)] [.int (vd_I r), .ref 27] := fun r hr => by
    have hok : vd_fok .boolean (vd_I r) = true := by rcases hr with rfl | rfl <;> decide
    exact vd_UC.go (vd_ok1 (c := 27) (i := 8) (v := vd_I r) (by omega)) (u73 (.int (vd_I 7))) (fun d f Q => by simp (disch := assumption) only [vd_S41_70 hM])
  have u65 : vd_UC M vd_Tn 3 41 65 [.ref 27, .ref 16, .int (vd_I 7)] [] := vd_UC.ask (vd_U32 hM 2 (by decide)) vd_okI u70 (fun d f Q => by simp only [vd_S41_65 hM, vd_S41_67 hM])
  have u31 : ∀ r, vd_b01P r → ∀ a, vd_UC M vd_Tn 3 41 31 [.ref 27, .ref 16, a] [.int (vd_I r), .ref 27] := fun r hr a => by
    rcases hr with rfl | rfl
    · exact vd_UC.go (vd_ok1 (c := 27) (i := 7) (v := vd_I 0) (by omega)) (u73 a) (fun d f Q => by simp (disch := first | decide | omega) only [vd_S41_31 hM, vd_fok0, vd_I_toInt, eq_self, if_true])
    · exact vd_UC.go (vd_ok1 (c := 27) (i := 7) (v := vd_I 1) (by omega)) (vd_U41a hM u65 7 0 rfl).1 (fun d f Q => by simp (disch := first | decide | omega) only [vd_S41_31 hM, vd_S41_41 hM, vd_fok1, vd_I_toInt, show ¬ ((1 : Int) = 0) by decide, if_false]; rfl)
  have u15 : ∀ r, vd_b01P r → ∀ a, vd_UC M vd_Tn 3 41 15 [.ref 27, .ref 16, a] [.int (vd_I r), .ref 27] := fun r hr a => by
    rcases hr with rfl | rfl
    · exact vd_UC.ret () (vd_ok1 (c := 27) (i := 6) (v := vd_I 0) (by omega)) (fun d f Q => by simp (disch := first | decide | omega) only [vd_S41_15 hM, vd_S41_25 hM, vd_Tn, vd_TR, vd_fok0, vd_I_toInt, eq_self, if_true])
    · exact vd_UC.ask (vd_U32 hM 2 (by decide)) (vd_ok1 (c := 27) (i := 6) (v := vd_I 1) (by omega)) (fun r hr => u31 r hr a) (fun d f Q => by simp (disch := first | decide | omega) only [vd_S41_15 hM, vd_S41_26 hM, vd_S41_28 hM, vd_fok1, vd_I_toInt, show ¬ ((1 : Int) = 0) by decide, if_false])
  exact ⟨u15, u31, u65, u70, u103, u107⟩
theorem vd_U41w (hM : vd_SC M ow fa lo lf) : vd_UC M vd_Tn 3 41 0 [.ref 27, .ref 16, vd_U] [] := vd_UC.ask (vd_U32 hM 2 (by decide)) (vd_ok2 (c := 27) (i := 7) (v := vd_I 0) (c' := 27) (i' := 8) (v' := vd_I 0) (by omega) (by omega)) (fun r hr => (vd_U41 hM).1 r hr vd_U) (fun d f Q => by simp only [vd_S41_0 hM, vd_S41_12 hM])
/-- segmentHeader behind a fault -/
def vd_B184Q (N : vd_M) : Prop := (∀ s, vd_b01P s → ∀ a1 a2, vd_BH N (fun _ : Unit => vd_TR) 3 184 20 [.ref 63, a1, a2] [.int (vd_I s), .ref 63]) ∧ (∀ s, vd_b01P s → ∀ a1 a2, vd_BH N (fun _ : Unit => vd_TR) 3 184 36 [.ref 63, a1, a2] [.int (vd_I s), .ref 63]) ∧ (∀ a1 a2, vd_BH N (fun _ : Unit => vd_TR) 3 184 54 [.ref 63, a1, a2] []) ∧ (∀ s, vd_b01P s → ∀ a1 a2, vd_BH N (fun _ : Unit => vd_TR) 3 184 59 [.ref 63, a1, a2] [.int (vd_I s), .ref 63]) ∧ (∀ a1 a2, vd_BH N (fun _ : Unit => vd_TR) 3 184 77 [.ref 63, a1, a2] []) ∧ (∀ s, vd_b01P s → ∀ a1 a2, vd_BH N (fun _ : Unit => vd_TR) 3 184 82 [.ref 63, a1, a2] [.int (vd_I s), .ref 63])
theorem vd_B184 (hN : vd_SR N) : vd_B184Q N := by
  have b82 : ∀ s, vd_b01P s → ∀ a1 a2, vd_BH N (fun _ : Unit => vd_TR) 3 184 82 [.ref 63, a1, a2] [.int (vd_I s), .ref 63] := fun s hs a1 a2 => by
    rcases hs with rfl | rfl
    · exact vd_BH.ret () (vd_okg1 (c := 63) (i := 85) (v := vd_I 0) (by unfold vd_inH; omega) (by omega)) (fun d f Q _ => by simp (disch := first | decide | omega) only [vd_S184_82 hN, vd_S184_92 hN, vd_TR, vd_fok0, vd_I_toInt, eq_self, if_true])
    · exact vd_BH.ask (vd_B177 hN 2 (by decide)) (vd_okg1 (c := 63) (i := 85) (v := vd_I 1) (by unfold vd_inH; omega) (by omega)) (vd_B184r hN a1 a2 0 (Or.inl rfl)) (fun d f Q _ => by simp (disch := first | decide | omega) only [vd_S184_82 hN, vd_S184_93 hN, vd_S184_95 hN, vd_fok1, vd_I_toInt, show ¬ ((1 : Int) = 0) by decide, if_false])
  have b77 : ∀ a1 a2, vd_BH N (fun _ : Unit => vd_TR) 3 184 77 [.ref 63, a1, a2] [] := fun a1 a2 => vd_BH.ask (vd_B177 hN 2 (by decide)) vd_okJ (b82 0 (Or.inl rfl) a1 a2) (fun d f Q _ => by simp only [vd_S184_77 hN, vd_S184_79 hN])
  have b59 : ∀ s, vd_b01P s → ∀ a1 a2, vd_BH N (fun _ : Unit => vd_TR) 3 184 59 [.ref 63, a1, a2] [.int (vd_I s), .ref 63] := fun s hs a1 a2 => by
    rcases hs with rfl | rfl
    · exact vd_BH.go (vd_okg1 (c := 63) (i := 38) (v := vd_I 0) (by unfold vd_inH; omega) (by omega)) (b77 a1 a2) (fun d f Q _ => by simp (disch := first | decide | omega) only [vd_S184_59 hN, vd_fok0, vd_I_toInt, eq_self, if_true])
    · exact vd_BH.call (vd_B185 hN hN.k87 hN.l87 (by decide) (by decide)) (vd_okg1 (c := 63) (i := 38) (v := vd_I 1) (by unfold vd_inH; omega) (by omega)) (b77 a1 a2) (fun d f Q _ => by simp (disch := first | decide | omega) only [vd_S184_59 hN, vd_S184_69 hN, vd_S184_74 hN, vd_fok1, vd_I_toInt, show ¬ ((1 : Int) = 0) by decide, if_false])
  have b54 : ∀ a1 a2, vd_BH N (fun _ : Unit => vd_TR) 3 184 54 [.ref 63, a1, a2] [] := fun a1 a2 => vd_BH.ask (vd_B177 hN 2 (by decide)) vd_okJ (b59 0 (Or.inl rfl) a1 a2) (fun d f Q _ => by simp only [vd_S184_54 hN, vd_S184_56 hN])
  have b36 : ∀ s, vd_b01P s → ∀ a1 a2, vd_BH N (fun _ : Unit => vd_TR) 3 184 36 [.ref 63, a1, a2] [.int (vd_I s), .ref 63] := fun s hs a1 a2 => by
    rcases hs with rfl | rfl
    · exact vd_BH.go (vd_okg1 (c := 63) (i := 37) (v := vd_I 0) (by unfold vd_inH; omega) (by omega)) (b77 a1 a2) (fun d f Q _ => by simp (disch := first | decide | omega) only [vd_S184_36 hN, vd_fok0, vd_I_toInt, eq_self, if_true])
    · exact vd_BH.call (vd_B185 hN hN.k86 hN.l86 (by decide) (by decide)) (vd_okg1 (c := 63) (i := 37) (v := vd_I 1) (by unfold vd_inH; omega) (by omega)) (b54 a1 a2) (fun d f Q _ => by simp (disch := first | decide | omega) only [vd_S184_36 hN, vd_S184_46 hN, vd_S184_51 hN, vd_fok1, vd_I_toInt, show ¬ ((1 : Int) = 0) by decide, if_false])
  have b20 : ∀ s, vd_b01P s → ∀ a1 a2, vd_BH N (fun _ : Unit => vd_TR) 3 184 20 [.ref 63, a1, a2] [.int (vd_I s), .ref 63] := fun s hs a1 a2 => by
    rcases hs with rfl | rfl
    · exact vd_BH.ret () (vd_okg1 (c := 63) (i := 36) (v := vd_I 0) (by unfold vd_inH; omega) (by omega)) (fun d f Q _ => by simp (disch := first | decide | omega) only [vd_S184_20 hN, vd_S184_30 hN, vd_TR, vd_fok0, vd_I_toInt, eq_self, if_true])
    · exact vd_BH.ask (vd_B177 hN 2 (by decide)) (vd_okg1 (c := 63) (i := 36) (v := vd_I 1) (by unfold vd_inH; omega) (by omega)) (b36 0 (Or.inl rfl) a1 a2) (fun d f Q _ => by simp (disch := first | decide | omega) only [vd_S184_20 hN, vd_S184_31 hN, vd_S184_33 hN, vd_fok1, vd_I_toInt, show ¬ ((1 : Int) = 0) by decide, if_false])
  exact ⟨b20, b36, b54, b59, b77, b82⟩
theorem vd_B184w (hN : vd_SR N) : vd_BH N (fun _ : Unit => vd_TR) 3 184 0 [.ref 63, vd_U, vd_U] [] := vd_BH.ask (vd_B177 hN 2 (by decide)) (F := fun g => vd_up (vd_up (vd_up g 63 37 (vd_I 0)) 63 38 (vd_I 0)) 63 85 (vd_I 0)) (fun g => (((vd_gU.refl g).up (by unfold vd_inH; omega) (by omega)).up (by unfold vd_inH; omega) (by omega)).up (by unfold vd_inH; omega) (by omega)) ((vd_B184 hN).1 0 (Or.inl rfl) vd_U vd_U) (fun d f Q _ => by simp only [vd_S184_0 hN, vd_S184_17 hN])
end VDHS
