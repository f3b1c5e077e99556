/-! ===== references of a frame: both ===== -/
section VDHO
variable {M N : vd_M} {ow fa lo lf : Nat} {β α : Type} {T : β → vd_Tg} {U : α → vd_Tg} {m n k pc pc1 m' n' k' pc' pc1' : Nat} {ls st ls1 st1 ls' st' ls1' st1' : List Value} {V : vd_M → β → α → Int → (Nat → Nat → Int32) → (Nat → Nat → Int32) → Prop} {f g f1 g1 : Nat → Nat → Int32} {p e x : Int}
theorem vd_HP.sN {N1 : vd_M} (hf : vd_fU f f1) (hg : vd_gU g g1) (hn : vd_N3 N N1) (c : vd_HP M N1 T U m k pc1 ls1 st1 m' k' pc1' ls1' st1' e V f1 g1) (h : ∀ d Q, vd_wp (d + m) k pc ls st (vd_mf M f) Q = vd_wp (d + m) k pc1 ls1 st1 (vd_mf M f1) Q) (h' : ∀ d Q, vd_wp (d + m') k' pc' ls' st' (vd_mf N g) Q = vd_wp (d + m') k' pc1' ls1' st1' (vd_mf N1 g1) Q) : vd_HP M N T U m k pc ls st m' k' pc' ls' st' e V f g := by
  obtain ⟨f', g', N', z, a, p', t, b, q1, q2, q3, q4, q5, q6, q7, q8⟩ := c
  exact ⟨f', g', N', z, a, p', t, b, fun d Q => by rw [h, q1], fun d Q => by rw [h', q2], q3, q4, q5, hf.1.trans q6, hg.1.trans q7, hn.trans q8⟩
theorem vd_HP.faultE {t b : Int} (u : vd_UE M T m k pc ls st e b f) (v : vd_BH N U m' k' pc' ls' st') (hq : vd_qb g t e b) (hb : b ≠ 0) : vd_HP M N T U m k pc ls st m' k' pc' ls' st' e V f g := by
  obtain ⟨f', p', z, q1, q2, q3⟩ := u
  obtain ⟨g', a, r1, r2, r3⟩ := v g t e b hq hb
  exact ⟨f', g', N, z, a, p', t, b, q1, r1, q2, r2, fun h => absurd h hb, q3, r3, vd_N3.refl N⟩
theorem vd_HP.askE {kc kr : Nat} {ac ar : List Value} {B : Int → Prop} (P : vd_PQ M N e n kc ac n' kr ar B) (hf : vd_fU f f1) (hg : vd_gU g g1) (hT : vd_RT f g) (hp : vd_pb f p e 0) (hq : vd_qb g p e 0) (u : ∀ (f2 : Nat → Nat → Int32) (p2 b r : Int), vd_fP f1 f2 → vd_pb f2 p2 e b → b ≠ 0 → B r → vd_UE M T m k pc1 ls1 (.int (vd_I r) :: st1) e b f2) (v : ∀ s, B s → vd_BH N U m' k' pc1' ls1' (.int (vd_I s) :: st1')) (h : ∀ d Q, vd_wp (d + m) k pc ls st (vd_mf M f) Q = vd_wp (d + n) kc 0 ac [] (vd_mf M f1) (fun M1 r => vd_rs r st1 (fun st => vd_wp (d + m) k pc1 ls1 st M1 Q))) (h' : ∀ d Q, vd_wp (d + m') k' pc' ls' st' (vd_mf N g) Q = vd_wp (d + n') kr 0 ar [] (vd_mf N g1) (fun M1 r => vd_rs r st1' (fun st => vd_wp (d + m') k' pc1' ls1' st M1 Q))) (c : ∀ (f2 g2 : Nat → Nat → Int32) (p2 r : Int), B r → vd_RT f2 g2 → vd_pb f2 p2 e 0 → vd_qb g2 p2 e 0 → vd_fP f1 f2 → vd_gP g1 g2 → vd_HP M N T U m k pc1 ls1 (.int (vd_I r) :: st1) m' k' pc1' ls1' (.int (vd_I r) :: st1') e V f2 g2) : vd_HP M N T U m k pc ls st m' k' pc' ls' st' e V f g := by
  have hT1 := hT.keepH hf.1 hg.1
  obtain ⟨f2, g2, p2, t2, b, r, s, a1, a2, ⟨a3, a3'⟩, a4, a5, a6, a7, a8⟩ := P f1 g1 p hT1 (hp.keepU hf.2) (hq.keepU hg.2)
  have fin : ∀ {r' s' : Int}, r' = r → s' = s → vd_HP M N T U m k pc1 ls1 (.int (vd_I r') :: st1) m' k' pc1' ls1' (.int (vd_I s') :: st1') e V f2 g2 → vd_HP M N T U m k pc ls st m' k' pc' ls' st' e V f g := by
    intro r' s' er es cc
    subst er es
    obtain ⟨f', g', N', z, a, p', t, b, q1, q2, q3, q4, q5, q6, q7, q8⟩ := cc
    exact ⟨f', g', N', z, a, p', t, b, fun d Q => by rw [h, a1, vd_rs_v, q1], fun d Q => by rw [h', a2, vd_rs_v, q2], q3, q4, q5, (hf.1.trans a7.hd).trans q6, (hg.1.trans a8.hd).trans q7, q8⟩
  by_cases hb : b = 0
  · subst hb
    obtain ⟨rfl, rfl⟩ := a6 rfl
    exact fin rfl rfl (c f2 g2 p2 r a3 (hT1.keepP a7 a8) a4 a5 a7 a8)
  · exact fin rfl rfl (vd_HP.faultE (u f2 p2 b r a7 a4 hb a3) (v s a3') a5 hb)
theorem vd_HP.badE (hM : vd_SC M ow fa lo lf) (hN : vd_SR N) (x0 : 1 ≤ x) (x1 : x ≤ 8) (hf : vd_fU f f1) (hg : vd_gU g g1) (hp : vd_pb f p e 0) (hq : vd_qb g p e 0) (u : ∀ f2 : Nat → Nat → Int32, vd_fP f1 f2 → vd_pb f2 p e x → vd_UE M T m k pc1 ls1 st1 e x f2) (v : vd_BH N U m' k' pc1' ls1' st1') (h : ∀ d Q, vd_wp (d + m) k pc ls st (vd_mf M f) Q = vd_wp (d + n) 31 0 [.ref 16, .int (vd_I x)] [] (vd_mf M f1) (fun M1 r => vd_rs r st1 (fun st => vd_wp (d + m) k pc1 ls1 st M1 Q))) (h' : ∀ d Q, vd_wp (d + m') k' pc' ls' st' (vd_mf N g) Q = vd_wp (d + n') 176 0 [.ref 63, .int (vd_I 0), .int (vd_I x)] [] (vd_mf N g1) (fun M1 r => vd_rs r st1' (fun st => vd_wp (d + m') k' pc1' ls1' st M1 Q))) : vd_HP M N T U m k pc ls st m' k' pc' ls' st' e V f g := by
  obtain ⟨f2, a1, a2, a3⟩ := vd_meetU hM (hp.keepU hf.2) (x := x) (by omega) x1
  obtain ⟨g2, b1, b2, b3⟩ := vd_needU hN (hq.keepU hg.2) (x := x) (y := 0) (by omega) x1 (Or.inl rfl)
  rw [if_pos rfl] at a2
  rw [if_pos ⟨rfl, rfl⟩] at b2
  obtain ⟨f', g', N', z, a, p', t, b, q1, q2, q3, q4, q5, q6, q7, q8⟩ := vd_HP.faultE (V := V) (u f2 a3 a2) v b2 (show x ≠ 0 by omega)
  exact ⟨f', g', N', z, a, p', t, b, fun d Q => by rw [h, a1, vd_rs_n, q1], fun d Q => by rw [h', b1, vd_rs_n, q2], q3, q4, q5, (hf.1.trans a3.hd).trans q6, (hg.1.trans b3.hd).trans q7, q8⟩
end VDHO
/-- a slot on both sides: empty, or a picture of one size -/
def vd_sdm (M N : vd_M) (f g : Nat → Nat → Int32) (r : Nat) : Prop := (vd_r M 13 r = none ∧ vd_r N 66 r = none) ∨ ∃ (p q : Nat) (w h : Int), vd_r M 13 r = some p ∧ vd_r N 66 r = some q ∧ (vd_k M p = 7 ∧ 197 ≤ p) ∧ (vd_k N q = 13 ∧ 129 ≤ q) ∧ (1 ≤ w ∧ w ≤ 192 ∧ 1 ≤ h ∧ h ≤ 192) ∧ (f p 0 = vd_I w ∧ f p 1 = vd_I h) ∧ (g q 0 = vd_I w ∧ g q 1 = vd_I h)
/-- one of the three references, of size w times h -/
def vd_rf (M N : vd_M) (f g : Nat → Nat → Int32) (j : Nat) (w h : Int) : Prop := ∃ (sl p q : Nat) (sd : Int), (sl < 8 ∧ f 18 j = vd_I (sl : Int)) ∧ (vd_r M 13 sl = some p ∧ vd_r N 66 sl = some q ∧ vd_r N 83 j = some q) ∧ ((sd = 0 ∨ sd = 1) ∧ f 19 j = vd_I sd ∧ g 84 j = vd_I sd) ∧ (vd_k M p = 7 ∧ 197 ≤ p) ∧ (vd_k N q = 13 ∧ 129 ≤ q) ∧ (1 ≤ w ∧ w ≤ 192 ∧ 1 ≤ h ∧ h ≤ 192) ∧ (f p 0 = vd_I w ∧ f p 1 = vd_I h) ∧ (g q 0 = vd_I w ∧ g q 1 = vd_I h)
theorem vd_rf.keep {M N N' : vd_M} {f g f' g' : Nat → Nat → Int32} {j : Nat} {w h : Int} (hr : vd_rf M N f g j w h) (hf : ∀ c i, (c = 18 ∨ c = 19 ∨ 197 ≤ c) → (c = 18 ∨ c = 19 → i = j) → f' c i = f c i) (hg : ∀ c i, (c = 84 ∨ 129 ≤ c) → (c = 84 → i = j) → g' c i = g c i) (hk : ∀ c, vd_k N' c = vd_k N c) (h66 : ∀ i, vd_r N' 66 i = vd_r N 66 i) (h83 : vd_r N' 83 j = vd_r N 83 j) : vd_rf M N' f' g' j w h := by
  obtain ⟨sl, p, q, sd, ⟨a1, a2⟩, ⟨b1, b2, b3⟩, ⟨c1, c2, c3⟩, ⟨d1, d2⟩, ⟨e1, e2⟩, k1, ⟨m1, m2⟩, n1, n2⟩ := hr
  refine ⟨sl, p, q, sd, ⟨a1, ?_⟩, ⟨b1, ?_, ?_⟩, ⟨c1, ?_, ?_⟩, ⟨d1, d2⟩, ⟨?_, e2⟩, k1, ⟨?_, ?_⟩, ?_, ?_⟩
  · rw [hf 18 j (Or.inl rfl) (fun _ => rfl)]; exact a2
  · rw [h66]; exact b2
  · rw [h83]; exact b3
  · rw [hf 19 j (Or.inr (Or.inl rfl)) (fun _ => rfl)]; exact c2
  · rw [hg 84 j (Or.inl rfl) (fun _ => rfl)]; exact c3
  · rw [hk]; exact e1
  · rw [hf p 0 (Or.inr (Or.inr d2)) (by omega)]; exact m1
  · rw [hf p 1 (Or.inr (Or.inr d2)) (by omega)]; exact m2
  · rw [hg q 0 (Or.inr e2) (by omega)]; exact n1
  · rw [hg q 1 (Or.inr e2) (by omega)]; exact n2
section VDHU
variable {M N : vd_M} {ow fa lo lf : Nat}
/-- where the loop over the references stands -/
def vd_S35 (M N0 : vd_M) (f0 g0 : Nat → Nat → Int32) (e : Int) (i : Nat) (N : vd_M) (f g : Nat → Nat → Int32) (p : Int) : Prop := (vd_SR N ∧ vd_N3 N0 N) ∧ (vd_RT f g ∧ vd_pb f p e 0 ∧ vd_qb g p e 0) ∧ (∀ j, j < i → ∃ w h : Int, vd_rf M N f g j w h) ∧ (∀ c j, ¬ (c = 16 ∧ (j = 1 ∨ j = 3)) → c ≠ 18 → c ≠ 19 → f c j = f0 c j) ∧ (∀ c j, ¬ (c = 63 ∧ (j = 74 ∨ j = 76)) → c ≠ 84 → g c j = g0 c j)
theorem vd_J18.of {i : Nat} {f g : Nat → Nat → Int32} (h : ∀ j, j < i → ∃ w h : Int, vd_rf M N f g j w h) : vd_J18 i f := fun j hj => by
  obtain ⟨_, _, sl, _, _, _, ⟨a1, a2⟩, _⟩ := h j hj
  exact ⟨sl, a1, a2⟩
theorem vd_N3.sr83 (N : vd_M) (i : Nat) (v : Option Nat) : vd_N3 N (vd_sr N 83 i v) := ⟨⟨rfl, rfl, rfl, rfl, rfl⟩, fun c j h => by rw [vd_r_sr, if_neg (by omega)]⟩
theorem vd_r35 (hM : vd_SC M ow fa lo lf) (hs : vd_slk M) {f0 g0 : Nat → Nat → Int32} {N0 : vd_M} {e : Int} (hsd : ∀ r, r < 8 → vd_sdm M N0 f0 g0 r) {V : vd_M → Unit → Unit → Int → (Nat → Nat → Int32) → (Nat → Nat → Int32) → Prop} (H : ∀ (N : vd_M) (f g : Nat → Nat → Int32) (p : Int) (a4 : Value) (x2 : Int32), vd_S35 M N0 f0 g0 e 3 N f g p → vd_HP M N vd_Tn (fun _ : Unit => vd_TR) 4 35 2 [.ref 17, .ref 16, .ref 13, .int (vd_I 3), a4] [] 3 180 2 [.ref 63, .int (vd_I 3), .int x2] [] e V f g) : ∀ (m i : Nat) (N : vd_M) (f g : Nat → Nat → Int32) (p : Int) (a4 a2 : Value), i + m = 3 → (i = 3 → ∃ x2, a2 = .int x2) → vd_S35 M N0 f0 g0 e i N f g p → vd_HP M N vd_Tn (fun _ : Unit => vd_TR) 4 35 2 [.ref 17, .ref 16, .ref 13, .int (vd_I (i : Int)), a4] [] 3 180 2 [.ref 63, .int (vd_I (i : Int)), a2] [] e V f g := by
  intro m
  induction m with
  | zero =>
    intro i N f g p a4 a2 hi ha hS
    have hi : i = 3 := by omega
    subst hi
    obtain ⟨x2, rfl⟩ := ha rfl
    exact H N f g p a4 x2 hS
  | succ m ih =>
    intro i N f g p a4 a2 hi ha hS
    obtain ⟨⟨hN, hn3⟩, ⟨hT, hp, hq⟩, hrf, hF0, hG0⟩ := hS
    have hi3 : i < 3 := by omega
    have ci : (i : Int) < 3 := by omega
    have ei : (i : Int) + 1 = ((i + 1 : Nat) : Int) := by omega
    obtain ⟨u44, u34, u17⟩ := (vd_U35a hM hs (3 - i) i (by omega)).2 hi3
    obtain ⟨b12, b32, b62, _⟩ := vd_B180 hN
    have hJ : vd_J18 i f := vd_J18.of hrf
    refine vd_HP.askE (vd_Q30 hM hN 3 2 3 (by decide) (by decide)) (vd_fU.refl f) (vd_gU.refl g) hT hp hq (fun f2 p2 b r F2 hp2 hb hr => u17 a4 f2 p2 e b r hp2 hb (hJ.keep (fun j => F2 18 j (by omega))) hr) (fun s hs => b12 (vd_I (i : Int)) a2 s hs) (fun d Q => ?_) (fun d Q => ?_) (fun f2 g2 p2 r hr hT2 hp2 hq2 F2 G2 => ?_)
    · simp (disch := omega) only [vd_S35_2 hM, vd_S35_7 hM, vd_S35_14 hM, vd_I_toInt, ci, if_true]
    · simp (disch := omega) only [vd_S180_2 hN, vd_S180_7 hN, vd_S180_9 hN, vd_I_toInt, ci, if_true]
    have hr := hr.n (z := 8) (by decide)
    obtain ⟨rn, rfl⟩ := Int.eq_ofNat_of_zero_le hr.1
    have hr8 : rn < 8 := by omega
    have hf : vd_fU f2 (vd_up f2 18 i (vd_I (rn : Int))) := (vd_fU.refl f2).up18 (by omega)
    have hJ1 : vd_J18 (i + 1) (vd_up f2 18 i (vd_I (rn : Int))) := fun j hj => by
      by_cases c : j = i
      · subst c
        exact ⟨rn, hr8, vd_up_eq _ _ _ _⟩
      · obtain ⟨r, h1, h2⟩ := hJ j (by omega)
        exact ⟨r, h1, by rw [vd_up_ne (by omega), F2 18 j (by omega)]; exact h2⟩
    have headC : ∀ d Q, vd_wp (d + 4) 35 17 [.ref 17, .ref 16, .ref 13, .int (vd_I (i : Int)), a4] [.int (vd_I (rn : Int)), .int (vd_I (i : Int)), .ref 18] (vd_mf M f2) Q = vd_wp (d + 4) 35 26 [.ref 17, .ref 16, .ref 13, .int (vd_I (i : Int)), a4] [vd_vr (vd_r M 13 rn)] (vd_mf M (vd_up f2 18 i (vd_I (rn : Int)))) Q := fun d Q => by
      simp (disch := omega) only [vd_S35_17 hM, vd_S35_24 hM, vd_S35_25 hM, Int.toNat_natCast, vd_up_eq]
    have headR : ∀ d Q, vd_wp (d + 3) 180 12 [.ref 63, .int (vd_I (i : Int)), a2] [.int (vd_I (rn : Int))] (vd_mf N g2) Q = vd_wp (d + 3) 180 20 [.ref 63, .int (vd_I (i : Int)), .int (vd_I (rn : Int))] [vd_vr (vd_r N 66 rn), .ref 63] (vd_mf N g2) Q := fun d Q => by
      simp (disch := omega) only [vd_S180_12 hN, vd_S180_19 hN, Int.toNat_natCast]
    rcases hsd rn hr8 with ⟨h0, h1⟩ | ⟨pp, qq, w, h, s1, s2, ⟨s3, s4⟩, ⟨s5, s6⟩, s7, ⟨s8, s9⟩, s10, s11⟩
    · refine vd_HP.badE (n := 3) (n' := 2) (pc1 := 34) (ls1 := [.ref 17, .ref 16, .ref 13, .int (vd_I (i : Int)), a4]) (st1 := []) (pc1' := 32) (ls1' := [.ref 63, .int (vd_I (i : Int)), .int (vd_I (rn : Int))]) (st1' := []) hM hN (x := 3) (by decide) (by decide) hf (vd_gU.refl g2) hp2 hq2 (fun f3 F3 hp3 => u34 a4 f3 p2 e 3 hp3 (by decide) (hJ1.keep (fun j => F3 18 j (by omega)))) (b32 _ _) (fun d Q => ?_) (fun d Q => ?_)
      · rw [headC, h0, vd_vr_none]
        simp only [vd_S35_26n hM, vd_S35_29 hM, vd_S35_31 hM]
      · rw [headR, hn3.2 66 rn (by decide), h1, vd_vr_none]
        simp only [vd_S180_20n hN, vd_S180_27 hN, vd_S180_28 hN, vd_S180_29 hN]
    · refine vd_HP.ok (n' := 2) (pc1' := 32) (ls1' := [.ref 63, .int (vd_I (i : Int)), .int (vd_I (rn : Int))]) (st1' := []) hN (x := 3) (by decide) (by decide) (vd_gU.refl g2) hq2 (fun d Q => ?_) (fun g3 hq3 G3 => ?_)
      · rw [headR, hn3.2 66 rn (by decide), s2, vd_vr_some]
        simp only [vd_S180_20 hN, vd_S180_23 hN, vd_S180_28 hN, vd_S180_29 hN]
      have hT3 : vd_RT (vd_up f2 18 i (vd_I (rn : Int))) g3 := hT2.keepH hf.1 G3.hd
      have hn1 : vd_N3 N (vd_sr N 83 i (some qq)) := vd_N3.sr83 N i (some qq)
      have hN1 : vd_SR (vd_sr N 83 i (some qq)) := hN.n3 hn1
      have hz : g3 63 76 = vd_I 0 := hq3.2.2.1
      refine vd_HP.sN (N1 := vd_sr N 83 i (some qq)) (pc1 := 34) (ls1 := [.ref 17, .ref 16, .ref 13, .int (vd_I (i : Int)), a4]) (st1 := []) (pc1' := 52) (ls1' := [.ref 63, .int (vd_I (i : Int)), .int (vd_I (rn : Int))]) (st1' := []) hf (vd_gU.refl g3) hn1 ?_ (fun d Q => ?_) (fun d Q => ?_)
      rotate_left
      · rw [headC, s1, vd_vr_some]
        simp only [vd_S35_26 hM]
      · have hak : vd_akk N 83 qq := Or.inr (Or.inl ⟨hN.k83, by rw [show vd_k N qq = vd_k N0 qq from by unfold vd_k; rw [hn3.1.2.1]]; exact s5⟩)
        have hl : vd_l N 83 = 3 := hN.l83
        have e66 : vd_r N 66 rn = some qq := by rw [hn3.2 66 rn (by decide)]; exact s2
        simp (disch := first | assumption | omega) only [vd_S180_32 hN, vd_S180_40 hN, vd_S180_50 hN, vd_S180_51 hN, hz, vd_I_toInt, eq_self, if_true, Int.toNat_natCast, e66, vd_vr_some]
      obtain ⟨b12', b32', b62', _⟩ := vd_B180 hN1
      refine vd_HP.askE (vd_Q30 hM hN1 3 2 1 (by decide) (by decide)) (vd_fU.refl _) (vd_gU.refl g3) hT3 (hp2.keepU hf.2) hq3 (fun f4 p4 b r F4 hp4 hb hr => u44 a4 f4 p4 e b r hp4 hb (hJ1.keep (fun j => F4 18 j (by omega))) hr) (fun s hs => b62' i (vd_I (rn : Int)) s hi3 hs) (fun d Q => ?_) (fun d Q => ?_) (fun f4 g4 p4 sd hsd' hT4 hp4 hq4 F4 G4 => ?_)
      · simp only [vd_S35_34 hM, vd_S35_41 hM]
      · simp only [vd_S180_52 hN1, vd_S180_59 hN1]
      have hsd' := hsd'.n (z := 2) (by decide)
      have hf5 : vd_fU f4 (vd_up f4 19 i (vd_I sd)) := (vd_fU.refl f4).up (by omega)
      have hg5 : vd_gU g4 (vd_up g4 84 i (vd_I sd)) := (vd_gU.refl g4).up (by unfold vd_inH; omega) (by omega)
      have FF : ∀ c j, ¬ (c = 16 ∧ (j = 1 ∨ j = 3)) → ¬ (c = 18 ∧ j = i) → ¬ (c = 19 ∧ j = i) → (vd_up f4 19 i (vd_I sd)) c j = f c j := fun c j q1 q2 q3 => by rw [vd_up_ne (by omega), F4 c j q1, vd_up_ne (by omega), F2 c j q1]
      have GG : ∀ c j, ¬ (c = 63 ∧ (j = 74 ∨ j = 76)) → ¬ (c = 84 ∧ j = i) → (vd_up g4 84 i (vd_I sd)) c j = g c j := fun c j q1 q2 => by rw [vd_up_ne (by omega), G4 c j q1, G3 c j q1, G2 c j q1]
      refine vd_HP.s hf5 hg5 (ih (i + 1) (vd_sr N 83 i (some qq)) _ _ p4 a4 (.int (vd_I (rn : Int))) (by omega) (fun _ => ⟨_, rfl⟩) ⟨⟨hN1, hn3.trans hn1⟩, ⟨hT4.keepH hf5.1 hg5.1, hp4.keepU hf5.2, hq4.keepU hg5.2⟩, fun j hj => ?_, fun c j q1 q2 q3 => ?_, fun c j q1 q2 => ?_⟩) (fun d Q => ?_) (fun d Q => ?_)
      · by_cases c : j = i
        · subst c
          refine ⟨w, h, rn, pp, qq, sd, ⟨hr8, ?_⟩, ⟨s1, ?_, ?_⟩, ⟨by omega, vd_up_eq _ _ _ _, vd_up_eq _ _ _ _⟩, ⟨s3, s4⟩, ⟨?_, s6⟩, s7, ⟨?_, ?_⟩, ?_, ?_⟩
          · rw [vd_up_ne (by omega), F4 18 j (by omega), vd_up_eq]
          · rw [hn1.2 66 rn (by decide), hn3.2 66 rn (by decide)]; exact s2
          · rw [vd_r_sr, if_pos ⟨rfl, rfl⟩]
          · rw [show vd_k (vd_sr N 83 j (some qq)) qq = vd_k N0 qq from by unfold vd_k; rw [hn1.1.2.1, hn3.1.2.1]]; exact s5
          · rw [FF pp 0 (by omega) (by omega) (by omega), hF0 pp 0 (by omega) (by omega) (by omega)]; exact s8
          · rw [FF pp 1 (by omega) (by omega) (by omega), hF0 pp 1 (by omega) (by omega) (by omega)]; exact s9
          · rw [GG qq 0 (by omega) (by omega), hG0 qq 0 (by omega) (by omega)]; exact s10
          · rw [GG qq 1 (by omega) (by omega), hG0 qq 1 (by omega) (by omega)]; exact s11
        · obtain ⟨w', h', hh⟩ := hrf j (by omega)
          exact ⟨w', h', hh.keep (fun c i' q1 q2 => FF c i' (by omega) (by omega) (by omega)) (fun c i' q1 q2 => GG c i' (by omega) (by omega)) (fun c => by unfold vd_k; rw [hn1.1.2.1]) (fun i' => hn1.2 66 i' (by decide)) (by rw [vd_r_sr, if_neg (by omega)])⟩
      · rw [FF c j q1 (by omega) (by omega), hF0 c j q1 q2 q3]
      · rw [GG c j q1 (by omega), hG0 c j q1 q2]
      · simp (disch := omega) only [vd_S35_44 hM, Int.toNat_natCast, vd_I_add, ei]
      · simp (disch := omega) only [vd_S180_62 hN1, Int.toNat_natCast, vd_I_add, ei]
end VDHU
