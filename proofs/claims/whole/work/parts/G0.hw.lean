/-! ===== headers: two sides that read, one goes on behind a fault, one reads zeros ===== -/
def vd_J18 (n : Nat) (f : Nat → Nat → Int32) : Prop := ∀ j, j < n → ∃ r : Nat, r < 8 ∧ f 18 j = vd_I (r : Int)
theorem vd_J18.keep {n : Nat} {f f' : Nat → Nat → Int32} (h : vd_J18 n f) (hf : ∀ j, f' 18 j = f 18 j) : vd_J18 n f' := fun j hj => by
  obtain ⟨r, h1, h2⟩ := h j hj
  exact ⟨r, h1, by rw [hf]; exact h2⟩
def vd_fHd (f f' : Nat → Nat → Int32) : Prop := (∀ c i, ¬ (c = 16 ∧ (i = 1 ∨ i = 3)) → ¬ (c = 17 ∧ i ≤ 16) → c ≠ 18 → c ≠ 19 → ¬ (27 ≤ c ∧ c ≤ 33) → f' c i = f c i) ∧ (vd_J18 3 f → vd_J18 3 f')
def vd_inH (c i : Nat) : Prop := (c = 63 ∧ ((24 ≤ i ∧ i ≤ 25) ∨ (33 ≤ i ∧ i ≤ 38) ∨ (40 ≤ i ∧ i ≤ 43) ∨ i = 48 ∨ i = 74 ∨ (76 ≤ i ∧ i ≤ 86))) ∨ (84 ≤ c ∧ c ≤ 87) ∨ (113 ≤ c ∧ c ≤ 116)
def vd_gHd (g g' : Nat → Nat → Int32) : Prop := ∀ c i, ¬ vd_inH c i → g' c i = g c i
theorem vd_fHd.refl (f : Nat → Nat → Int32) : vd_fHd f f := ⟨fun _ _ _ _ _ _ _ => rfl, fun h => h⟩
theorem vd_gHd.refl (g : Nat → Nat → Int32) : vd_gHd g g := fun _ _ _ => rfl
theorem vd_fHd.trans {f f' f'' : Nat → Nat → Int32} (h : vd_fHd f f') (h' : vd_fHd f' f'') : vd_fHd f f'' := ⟨fun c i a b x y z => (h'.1 c i a b x y z).trans (h.1 c i a b x y z), fun q => h'.2 (h.2 q)⟩
theorem vd_gHd.trans {f f' f'' : Nat → Nat → Int32} (h : vd_gHd f f') (h' : vd_gHd f' f'') : vd_gHd f f'' := fun c i a => (h' c i a).trans (h c i a)
theorem vd_fP.hd {f f' : Nat → Nat → Int32} (h : vd_fP f f') : vd_fHd f f' := ⟨fun c i a _ _ _ _ => h c i a, fun q => q.keep (fun j => h 18 j (by omega))⟩
theorem vd_gP.hd {f f' : Nat → Nat → Int32} (h : vd_gP f f') : vd_gHd f f' := fun c i a => h c i (by unfold vd_inH at a; omega)
/-- writes of a header, no bit read -/
def vd_fU (f f' : Nat → Nat → Int32) : Prop := vd_fHd f f' ∧ ∀ i, f' 16 i = f 16 i
def vd_gU (g g' : Nat → Nat → Int32) : Prop := vd_gHd g g' ∧ ∀ i, 74 ≤ i → i ≤ 76 → g' 63 i = g 63 i
theorem vd_fU.refl (f : Nat → Nat → Int32) : vd_fU f f := ⟨vd_fHd.refl f, fun _ => rfl⟩
theorem vd_gU.refl (f : Nat → Nat → Int32) : vd_gU f f := ⟨vd_gHd.refl f, fun _ _ _ => rfl⟩
theorem vd_fU.up {f f' : Nat → Nat → Int32} (h : vd_fU f f') {c i : Nat} {v : Int32} (hc : (c = 17 ∧ i ≤ 16) ∨ c = 19 ∨ (27 ≤ c ∧ c ≤ 33)) : vd_fU f (vd_up f' c i v) :=
  ⟨⟨fun a j q1 q2 q3 q4 q5 => by rw [vd_up_ne (by omega)]; exact h.1.1 a j q1 q2 q3 q4 q5, fun q => (h.1.2 q).keep (fun j => by rw [vd_up_ne (by omega)])⟩, fun j => by rw [vd_up_ne (by omega)]; exact h.2 j⟩
theorem vd_fU.up18 {f f' : Nat → Nat → Int32} (h : vd_fU f f') {i r : Nat} (hr : r < 8) : vd_fU f (vd_up f' 18 i (vd_I (r : Int))) :=
  ⟨⟨fun a j q1 q2 q3 q4 q5 => by rw [vd_up_ne (by omega)]; exact h.1.1 a j q1 q2 q3 q4 q5, fun q j hj => by
    by_cases e : j = i
    · subst e
      exact ⟨r, hr, vd_up_eq _ _ _ _⟩
    · rw [vd_up_ne (by omega)]
      exact h.1.2 q j hj⟩, fun j => by rw [vd_up_ne (by omega)]; exact h.2 j⟩
theorem vd_gU.up {g g' : Nat → Nat → Int32} (h : vd_gU g g') {c i : Nat} {v : Int32} (hc : vd_inH c i) (hi : c ≠ 63 ∨ i < 74 ∨ 76 < i) : vd_gU g (vd_up g' c i v) :=
  ⟨fun a j q => by
    rw [vd_up_ne (fun e => q (by rw [e.1, e.2]; exact hc))]
    exact h.1 a j q, fun j a b => by rw [vd_up_ne (by omega)]; exact h.2 j a b⟩
theorem vd_pb.keepU {f f' : Nat → Nat → Int32} {p e b : Int} (h : vd_pb f p e b) (hf : ∀ i, f' 16 i = f 16 i) : vd_pb f' p e b := by
  obtain ⟨a, b, c, r⟩ := h
  exact ⟨by rw [hf]; exact a, by rw [hf]; exact b, by rw [hf]; exact c, r⟩
theorem vd_qb.keepU {f f' : Nat → Nat → Int32} {p e b : Int} (h : vd_qb f p e b) (hf : ∀ i, 74 ≤ i → i ≤ 76 → f' 63 i = f 63 i) : vd_qb f' p e b := by
  obtain ⟨a, b, c, r⟩ := h
  exact ⟨by rw [hf _ (by decide) (by decide)]; exact a, by rw [hf _ (by decide) (by decide)]; exact b, by rw [hf _ (by decide) (by decide)]; exact c, r⟩
theorem vd_RT.keepH {f f' g g' : Nat → Nat → Int32} (h : vd_RT f g) (hf : vd_fHd f f') (hg : vd_gHd g g') : vd_RT f' g' := fun i hi => by
  rw [hf.1 11 i (by omega) (by omega) (by omega) (by omega) (by omega), hg 64 i (by unfold vd_inH; omega)]
  exact h i hi
/-- where a run goes -/
abbrev vd_Tg := Nat → (vd_M → (Option Value ⊕ Nat) → Prop) → vd_M → Prop
def vd_TR : vd_Tg := fun _ Q M' => Q M' (.inl none)
def vd_Tn : Unit → vd_Tg := fun _ => vd_TR
/-- the class behind a fault -/
def vd_UC {β : Type} (M : vd_M) (T : β → vd_Tg) (m k pc : Nat) (ls st : List Value) : Prop := ∀ (f : Nat → Nat → Int32) (p e b : Int), vd_pb f p e b → b ≠ 0 → ∃ (f' : Nat → Nat → Int32) (p' : Int) (c : β), (∀ d Q, vd_wp (d + m) k pc ls st (vd_mf M f) Q = T c d Q (vd_mf M f')) ∧ vd_pb f' p' e b ∧ vd_fHd f f'
/-- the reference behind a fault -/
def vd_BH {α : Type} (N : vd_M) (T : α → vd_Tg) (m k pc : Nat) (ls st : List Value) : Prop := ∀ (g : Nat → Nat → Int32) (p e b : Int), vd_qb g p e b → b ≠ 0 → ∃ (g' : Nat → Nat → Int32) (a : α), (∀ d Q, vd_wp (d + m) k pc ls st (vd_mf N g) Q = T a d Q (vd_mf N g')) ∧ vd_qb g' p e b ∧ vd_gHd g g'
def vd_okF (F : (Nat → Nat → Int32) → (Nat → Nat → Int32)) : Prop := ∀ f, vd_fU f (F f)
def vd_okG (F : (Nat → Nat → Int32) → (Nat → Nat → Int32)) : Prop := ∀ g, vd_gU g (F g)
theorem vd_okI : vd_okF (fun f => f) := fun f => vd_fU.refl f
theorem vd_okJ : vd_okG (fun f => f) := fun f => vd_gU.refl f
theorem vd_ok1 {c i : Nat} {v : Int32} (h : (c = 17 ∧ i ≤ 16) ∨ c = 19 ∨ (27 ≤ c ∧ c ≤ 33)) : vd_okF (fun f => vd_up f c i v) := fun f => (vd_fU.refl f).up h
theorem vd_okg1 {c i : Nat} {v : Int32} (h : vd_inH c i) (hi : c ≠ 63 ∨ i < 74 ∨ 76 < i) : vd_okG (fun f => vd_up f c i v) := fun f => (vd_gU.refl f).up h hi
theorem vd_a01 : vd_I 0 &&& (1 : Int32) = vd_I 0 := by decide
theorem vd_a11 : vd_I 1 &&& (1 : Int32) = vd_I 1 := by decide
section VDHW
variable {M N : vd_M} {ow fa lo lf : Nat} {α β : Type} {T : β → vd_Tg} {U : α → vd_Tg} {m n k pc pc1 : Nat} {ls st ls1 st1 : List Value} {F : (Nat → Nat → Int32) → (Nat → Nat → Int32)}
theorem vd_UC.go (hF : vd_okF F) (u : vd_UC M T m k pc1 ls1 st1) (h : ∀ d f Q, vd_wp (d + m) k pc ls st (vd_mf M f) Q = vd_wp (d + m) k pc1 ls1 st1 (vd_mf M (F f)) Q) : vd_UC M T m k pc ls st := fun f p e b hp hb => by
  obtain ⟨f', p', cc, q1, q2, q3⟩ := u (F f) p e b (hp.keepU (hF f).2) hb
  exact ⟨f', p', cc, fun d Q => by rw [h, q1], q2, (hF f).1.trans q3⟩
theorem vd_UC.s (u : vd_UC M T m k pc1 ls1 st1) (h : ∀ d f Q, vd_wp (d + m) k pc ls st (vd_mf M f) Q = vd_wp (d + m) k pc1 ls1 st1 (vd_mf M f) Q) : vd_UC M T m k pc ls st := vd_UC.go vd_okI u h
theorem vd_UC.or {pc2 : Nat} {ls2 st2 : List Value} (hF : vd_okF F) (u : vd_UC M T m k pc1 ls1 st1) (v : vd_UC M T m k pc2 ls2 st2) (h : ∀ f, (∀ d Q, vd_wp (d + m) k pc ls st (vd_mf M f) Q = vd_wp (d + m) k pc1 ls1 st1 (vd_mf M (F f)) Q) ∨ (∀ d Q, vd_wp (d + m) k pc ls st (vd_mf M f) Q = vd_wp (d + m) k pc2 ls2 st2 (vd_mf M (F f)) Q)) : vd_UC M T m k pc ls st := fun f p e b hp hb => by
  rcases h f with h | h
  · obtain ⟨f', p', cc, q1, q2, q3⟩ := u (F f) p e b (hp.keepU (hF f).2) hb
    exact ⟨f', p', cc, fun d Q => by rw [h, q1], q2, (hF f).1.trans q3⟩
  · obtain ⟨f', p', cc, q1, q2, q3⟩ := v (F f) p e b (hp.keepU (hF f).2) hb
    exact ⟨f', p', cc, fun d Q => by rw [h, q1], q2, (hF f).1.trans q3⟩
theorem vd_UC.ret (cc : β) (hF : vd_okF F) (h : ∀ d f Q, vd_wp (d + m) k pc ls st (vd_mf M f) Q = T cc d Q (vd_mf M (F f))) : vd_UC M T m k pc ls st := fun f p e b hp _ => ⟨F f, p, cc, fun d Q => h d f Q, hp.keepU (hF f).2, (hF f).1⟩
/-- a call that answers -/
theorem vd_UC.ask {B : Int → Prop} {kc : Nat} {ac : List Value} (P : ∀ (f : Nat → Nat → Int32) (p e b : Int), vd_pb f p e b → ∃ (f' : Nat → Nat → Int32) (p' b' r : Int), (∀ d Q, vd_wp (d + n) kc 0 ac [] (vd_mf M f) Q = Q (vd_mf M f') (.inl (some (.int (vd_I r))))) ∧ B r ∧ vd_pb f' p' e b' ∧ (b ≠ 0 → b' = b) ∧ vd_fP f f') (hF : vd_okF F) (u : ∀ r, B r → vd_UC M T m k pc1 ls1 (.int (vd_I r) :: st1)) (h : ∀ d f Q, vd_wp (d + m) k pc ls st (vd_mf M f) Q = vd_wp (d + n) kc 0 ac [] (vd_mf M (F f)) (fun M1 r => vd_rs r st1 (fun st => vd_wp (d + m) k pc1 ls1 st M1 Q))) : vd_UC M T m k pc ls st := fun f p e b hp hb => by
  obtain ⟨f1, p1, b1, r, a1, a2, a3, a4, a5⟩ := P (F f) p e b (hp.keepU (hF f).2)
  rw [a4 hb] at a3
  obtain ⟨f', p', cc, q1, q2, q3⟩ := u r a2 f1 p1 e b a3 hb
  exact ⟨f', p', cc, fun d Q => by rw [h, a1, vd_rs_v, q1], q2, ((hF f).1.trans a5.hd).trans q3⟩
/-- a call that answers nothing -/
theorem vd_UC.call {kc : Nat} {ac : List Value} (P : vd_UC M vd_Tn n kc 0 ac []) (hF : vd_okF F) (u : vd_UC M T m k pc1 ls1 st1) (h : ∀ d f Q, vd_wp (d + m) k pc ls st (vd_mf M f) Q = vd_wp (d + n) kc 0 ac [] (vd_mf M (F f)) (fun M1 r => vd_rs r st1 (fun st => vd_wp (d + m) k pc1 ls1 st M1 Q))) : vd_UC M T m k pc ls st := fun f p e b hp hb => by
  obtain ⟨f1, p1, _, a1, a2, a3⟩ := P (F f) p e b (hp.keepU (hF f).2) hb
  obtain ⟨f', p', cc, q1, q2, q3⟩ := u f1 p1 e b a2 hb
  exact ⟨f', p', cc, fun d Q => by rw [h, a1, vd_Tn, vd_TR, vd_rs_n, q1], q2, ((hF f).1.trans a3).trans q3⟩
theorem vd_BH.go (hF : vd_okG F) (u : vd_BH N U m k pc1 ls1 st1) (h : ∀ d g Q, ¬ (g 63 76).toInt = 0 → vd_wp (d + m) k pc ls st (vd_mf N g) Q = vd_wp (d + m) k pc1 ls1 st1 (vd_mf N (F g)) Q) : vd_BH N U m k pc ls st := fun g p e b hq hb => by
  obtain ⟨g', a, q1, q2, q3⟩ := u (F g) p e b (hq.keepU (hF g).2) hb
  have hz : ¬ (g 63 76).toInt = 0 := by
    obtain ⟨_, _, h3, _, _, _, h4, h5⟩ := hq
    rw [h3, vd_I_toInt (by omega) (by omega)]
    exact hb
  exact ⟨g', a, fun d Q => by rw [h d g Q hz, q1], q2, (hF g).1.trans q3⟩
theorem vd_BH.or {pc2 : Nat} {ls2 st2 : List Value} (hF : vd_okG F) (u : vd_BH N U m k pc1 ls1 st1) (v : vd_BH N U m k pc2 ls2 st2) (h : ∀ g, (∀ d Q, vd_wp (d + m) k pc ls st (vd_mf N g) Q = vd_wp (d + m) k pc1 ls1 st1 (vd_mf N (F g)) Q) ∨ (∀ d Q, vd_wp (d + m) k pc ls st (vd_mf N g) Q = vd_wp (d + m) k pc2 ls2 st2 (vd_mf N (F g)) Q)) : vd_BH N U m k pc ls st := fun g p e b hq hb => by
  rcases h g with h | h
  · obtain ⟨g', a, q1, q2, q3⟩ := u (F g) p e b (hq.keepU (hF g).2) hb
    exact ⟨g', a, fun d Q => by rw [h, q1], q2, (hF g).1.trans q3⟩
  · obtain ⟨g', a, q1, q2, q3⟩ := v (F g) p e b (hq.keepU (hF g).2) hb
    exact ⟨g', a, fun d Q => by rw [h, q1], q2, (hF g).1.trans q3⟩
theorem vd_BH.ret (a : α) (hF : vd_okG F) (h : ∀ d g Q, ¬ (g 63 76).toInt = 0 → vd_wp (d + m) k pc ls st (vd_mf N g) Q = U a d Q (vd_mf N (F g))) : vd_BH N U m k pc ls st := fun g p e b hq hb => by
  have hz : ¬ (g 63 76).toInt = 0 := by
    obtain ⟨_, _, h3, _, _, _, h4, h5⟩ := hq
    rw [h3, vd_I_toInt (by omega) (by omega)]
    exact hb
  exact ⟨F g, a, fun d Q => h d g Q hz, hq.keepU (hF g).2, (hF g).1⟩
theorem vd_BH.ask {kr : Nat} {ar : List Value} (P : ∀ (g : Nat → Nat → Int32) (p e b : Int), vd_qb g p e b → b ≠ 0 → ∀ d Q, vd_wp (d + n) kr 0 ar [] (vd_mf N g) Q = Q (vd_mf N g) (.inl (some (.int (vd_I 0))))) (hF : vd_okG F) (u : vd_BH N U m k pc1 ls1 (.int (vd_I 0) :: st1)) (h : ∀ d g Q, ¬ (g 63 76).toInt = 0 → vd_wp (d + m) k pc ls st (vd_mf N g) Q = vd_wp (d + n) kr 0 ar [] (vd_mf N (F g)) (fun M1 r => vd_rs r st1 (fun st => vd_wp (d + m) k pc1 ls1 st M1 Q))) : vd_BH N U m k pc ls st := fun g p e b hq hb => by
  have hq1 := hq.keepU (hF g).2
  obtain ⟨g', a, q1, q2, q3⟩ := u (F g) p e b hq1 hb
  have hz : ¬ (g 63 76).toInt = 0 := by
    obtain ⟨_, _, h3, _, _, _, h4, h5⟩ := hq
    rw [h3, vd_I_toInt (by omega) (by omega)]
    exact hb
  exact ⟨g', a, fun d Q => by rw [h d g Q hz, P _ p e b hq1 hb, vd_rs_v, q1], q2, (hF g).1.trans q3⟩
theorem vd_BH.call {kr : Nat} {ar : List Value} (P : vd_BH N (fun _ : Unit => vd_TR) n kr 0 ar []) (hF : vd_okG F) (u : vd_BH N U m k pc1 ls1 st1) (h : ∀ d g Q, ¬ (g 63 76).toInt = 0 → vd_wp (d + m) k pc ls st (vd_mf N g) Q = vd_wp (d + n) kr 0 ar [] (vd_mf N (F g)) (fun M1 r => vd_rs r st1 (fun st => vd_wp (d + m) k pc1 ls1 st M1 Q))) : vd_BH N U m k pc ls st := fun g p e b hq hb => by
  obtain ⟨g1, _, a1, a2, a3⟩ := P (F g) p e b (hq.keepU (hF g).2) hb
  obtain ⟨g', a, q1, q2, q3⟩ := u g1 p e b a2 hb
  have hz : ¬ (g 63 76).toInt = 0 := by
    obtain ⟨_, _, h3, _, _, _, h4, h5⟩ := hq
    rw [h3, vd_I_toInt (by omega) (by omega)]
    exact hb
  exact ⟨g', a, fun d Q => by
    rw [h d g Q hz, a1]
    show vd_rs (.inl none) st1 (fun st => vd_wp (d + m) k pc1 ls1 st (vd_mf N g1) Q) = _
    rw [vd_rs_n, q1], q2, ((hF g).1.trans a3).trans q3⟩
/-- a stretch, then the rest -/
theorem vd_UC.seq {γ : Type} {T1 : γ → vd_Tg} {kc pcc : Nat} {lc sc : List Value} {KC : Nat → (vd_M → (Option Value ⊕ Nat) → Prop) → (vd_M → (Option Value ⊕ Nat) → Prop)} {lz sz : γ → List Value} (hF : vd_okF F) (u : vd_UC M T1 n kc pcc lc sc) (v : ∀ c, vd_UC M T m k pc1 (lz c) (sz c)) (h : ∀ d f Q, vd_wp (d + m) k pc ls st (vd_mf M f) Q = vd_wp (d + n) kc pcc lc sc (vd_mf M (F f)) (KC d Q)) (w : ∀ d Q c M', T1 c d (KC d Q) M' = vd_wp (d + m) k pc1 (lz c) (sz c) M' Q) : vd_UC M T m k pc ls st := fun f p e b hp hb => by
  obtain ⟨f1, p1, c, a1, a2, a3⟩ := u (F f) p e b (hp.keepU (hF f).2) hb
  obtain ⟨f', p', cc, q1, q2, q3⟩ := v c f1 p1 e b a2 hb
  exact ⟨f', p', cc, fun d Q => by rw [h, a1, w, q1], q2, ((hF f).1.trans a3).trans q3⟩
end VDHW
/-- the references of the reference's frame alone may change -/
def vd_N3 (N N' : vd_M) : Prop := (N'.1 = N.1 ∧ N'.2.1 = N.2.1 ∧ N'.2.2.1 = N.2.2.1 ∧ N'.2.2.2.1 = N.2.2.2.1 ∧ N'.2.2.2.2.2 = N.2.2.2.2.2) ∧ ∀ c i, c ≠ 83 → vd_r N' c i = vd_r N c i
theorem vd_N3.refl (N : vd_M) : vd_N3 N N := ⟨⟨rfl, rfl, rfl, rfl, rfl⟩, fun _ _ _ => rfl⟩
theorem vd_N3.trans {N N' N'' : vd_M} (h : vd_N3 N N') (h' : vd_N3 N' N'') : vd_N3 N N'' := ⟨⟨h'.1.1.trans h.1.1, h'.1.2.1.trans h.1.2.1, h'.1.2.2.1.trans h.1.2.2.1, h'.1.2.2.2.1.trans h.1.2.2.2.1, h'.1.2.2.2.2.trans h.1.2.2.2.2⟩, fun c i q => (h'.2 c i q).trans (h.2 c i q)⟩
theorem vd_SR.keep {N N' : vd_M} (h : vd_SR N) (hk : ∀ c, c < 197 → vd_k N' c = vd_k N c) (hl : ∀ c, c < 197 → vd_l N' c = vd_l N c) (hr : ∀ c i, c < 197 → c ≠ 66 → c ≠ 83 → ¬ (c = 63 ∧ (i = 7 ∨ i = 23)) → vd_r N' c i = vd_r N c i) : vd_SR N' := by
  unfold vd_SR at *
  simp (disch := decide) only [hk, hl, hr]
  exact h
theorem vd_SR.n3 {N N' : vd_M} (h : vd_SR N) (hn : vd_N3 N N') : vd_SR N' := h.keep (fun c _ => by unfold vd_k; rw [hn.1.2.1]) (fun c _ => by unfold vd_l; rw [hn.1.2.2.1]) (fun c i _ _ q _ => hn.2 c i q)
/-- both sides from a place on: the same fault, or none and V -/
def vd_HP {β α : Type} (M N : vd_M) (T : β → vd_Tg) (U : α → vd_Tg) (m k pc : Nat) (ls st : List Value) (m' k' pc' : Nat) (ls' st' : List Value) (e : Int) (V : vd_M → β → α → Int → (Nat → Nat → Int32) → (Nat → Nat → Int32) → Prop) (f g : Nat → Nat → Int32) : Prop :=
  ∃ (f' g' : Nat → Nat → Int32) (N' : vd_M) (z : β) (a : α) (p t b : Int), (∀ d Q, vd_wp (d + m) k pc ls st (vd_mf M f) Q = T z d Q (vd_mf M f')) ∧ (∀ d Q, vd_wp (d + m') k' pc' ls' st' (vd_mf N g) Q = U a d Q (vd_mf N' g')) ∧ vd_pb f' p e b ∧ vd_qb g' t e b ∧ (b = 0 → p = t ∧ V N' z a p f' g') ∧ vd_fHd f f' ∧ vd_gHd g g' ∧ vd_N3 N N'
section VDHX
variable {M N : vd_M} {ow fa lo lf : Nat} {β α : Type} {T : β → vd_Tg} {U : α → vd_Tg} {m n k pc pc1 m' n' k' pc' pc1' : Nat} {ls st ls1 st1 ls' st' ls1' st1' : List Value} {V : vd_M → β → α → Int → (Nat → Nat → Int32) → (Nat → Nat → Int32) → Prop} {f g f1 g1 : Nat → Nat → Int32} {p e : Int}
theorem vd_HP.fault {t b : Int} (u : vd_UC M T m k pc ls st) (v : vd_BH N U m' k' pc' ls' st') (hp : vd_pb f p e b) (hq : vd_qb g t e b) (hb : b ≠ 0) : vd_HP M N T U m k pc ls st m' k' pc' ls' st' e V f g := by
  obtain ⟨f', p', z, q1, q2, q3⟩ := u f p e b hp hb
  obtain ⟨g', a, r1, r2, r3⟩ := v g t e b hq hb
  exact ⟨f', g', N, z, a, p', t, b, q1, r1, q2, r2, fun h => absurd h hb, q3, r3, vd_N3.refl N⟩
theorem vd_HP.s (hf : vd_fU f f1) (hg : vd_gU g g1) (c : vd_HP M N T U m k pc1 ls1 st1 m' k' pc1' ls1' st1' e V f1 g1) (h : ∀ d Q, vd_wp (d + m) k pc ls st (vd_mf M f) Q = vd_wp (d + m) k pc1 ls1 st1 (vd_mf M f1) Q) (h' : ∀ d Q, vd_wp (d + m') k' pc' ls' st' (vd_mf N g) Q = vd_wp (d + m') k' pc1' ls1' st1' (vd_mf N g1) Q) : vd_HP M N T U m k pc ls st m' k' pc' ls' st' e V f g := by
  obtain ⟨f', g', N', z, a, p', t, b, q1, q2, q3, q4, q5, q6, q7, q8⟩ := c
  exact ⟨f', g', N', z, a, p', t, b, fun d Q => by rw [h, q1], fun d Q => by rw [h', q2], q3, q4, q5, hf.1.trans q6, hg.1.trans q7, q8⟩
theorem vd_HP.ret (z : β) (a : α) (hf : vd_fU f f1) (hg : vd_gU g g1) (hp : vd_pb f p e 0) (hq : vd_qb g p e 0) (hV : V N z a p f1 g1) (h : ∀ d Q, vd_wp (d + m) k pc ls st (vd_mf M f) Q = T z d Q (vd_mf M f1)) (h' : ∀ d Q, vd_wp (d + m') k' pc' ls' st' (vd_mf N g) Q = U a d Q (vd_mf N g1)) : vd_HP M N T U m k pc ls st m' k' pc' ls' st' e V f g :=
  ⟨f1, g1, N, z, a, p, p, 0, h, h', hp.keepU hf.2, hq.keepU hg.2, fun _ => ⟨rfl, hV⟩, hf.1, hg.1, vd_N3.refl N⟩
theorem vd_HP.mono {V' : vd_M → β → α → Int → (Nat → Nat → Int32) → (Nat → Nat → Int32) → Prop} (c : vd_HP M N T U m k pc ls st m' k' pc' ls' st' e V f g) (hV : ∀ N' z a p f' g', V N' z a p f' g' → V' N' z a p f' g') : vd_HP M N T U m k pc ls st m' k' pc' ls' st' e V' f g := by
  obtain ⟨f', g', N', z, a, p', t, b, q1, q2, q3, q4, q5, q6⟩ := c
  exact ⟨f', g', N', z, a, p', t, b, q1, q2, q3, q4, fun hb => ⟨(q5 hb).1, hV _ _ _ _ _ _ (q5 hb).2⟩, q6⟩
/-- what is read by both -/
def vd_PQ (M N : vd_M) (e : Int) (n kc : Nat) (ac : List Value) (n' kr : Nat) (ar : List Value) (B : Int → Prop) : Prop := ∀ (f g : Nat → Nat → Int32) (p : Int), vd_RT f g → vd_pb f p e 0 → vd_qb g p e 0 → ∃ (f' g' : Nat → Nat → Int32) (p' t' b' r s : Int), (∀ d Q, vd_wp (d + n) kc 0 ac [] (vd_mf M f) Q = Q (vd_mf M f') (.inl (some (.int (vd_I r))))) ∧ (∀ d Q, vd_wp (d + n') kr 0 ar [] (vd_mf N g) Q = Q (vd_mf N g') (.inl (some (.int (vd_I s))))) ∧ (B r ∧ B s) ∧ vd_pb f' p' e b' ∧ vd_qb g' t' e b' ∧ (b' = 0 → r = s ∧ p' = t') ∧ vd_fP f f' ∧ vd_gP g g'
theorem vd_HP.ask {kc kr : Nat} {ac ar : List Value} {B : Int → Prop} (P : vd_PQ M N e n kc ac n' kr ar B) (hf : vd_fU f f1) (hg : vd_gU g g1) (hT : vd_RT f g) (hp : vd_pb f p e 0) (hq : vd_qb g p e 0) (u : ∀ r, B r → vd_UC M T m k pc1 ls1 (.int (vd_I r) :: st1)) (v : ∀ s, B s → vd_BH N U m' k' pc1' ls1' (.int (vd_I s) :: st1')) (h : ∀ d Q, vd_wp (d + m) k pc ls st (vd_mf M f) Q = vd_wp (d + n) kc 0 ac [] (vd_mf M f1) (fun M1 r => vd_rs r st1 (fun st => vd_wp (d + m) k pc1 ls1 st M1 Q))) (h' : ∀ d Q, vd_wp (d + m') k' pc' ls' st' (vd_mf N g) Q = vd_wp (d + n') kr 0 ar [] (vd_mf N g1) (fun M1 r => vd_rs r st1' (fun st => vd_wp (d + m') k' pc1' ls1' st M1 Q))) (c : ∀ (f2 g2 : Nat → Nat → Int32) (p2 r : Int), B r → vd_RT f2 g2 → vd_pb f2 p2 e 0 → vd_qb g2 p2 e 0 → vd_fP f1 f2 → vd_gP g1 g2 → vd_HP M N T U m k pc1 ls1 (.int (vd_I r) :: st1) m' k' pc1' ls1' (.int (vd_I r) :: st1') e V f2 g2) : vd_HP M N T U m k pc ls st m' k' pc' ls' st' e V f g := by
  have hT1 := hT.keepH hf.1 hg.1
  obtain ⟨f2, g2, p2, t2, b, r, s, a1, a2, ⟨a3, a3'⟩, a4, a5, a6, a7, a8⟩ := P f1 g1 p hT1 (hp.keepU hf.2) (hq.keepU hg.2)
  have fin : ∀ {r' s' : Int}, r' = r → s' = s → vd_HP M N T U m k pc1 ls1 (.int (vd_I r') :: st1) m' k' pc1' ls1' (.int (vd_I s') :: st1') e V f2 g2 → vd_HP M N T U m k pc ls st m' k' pc' ls' st' e V f g := by
    intro r' s' er es cc
    subst er es
    obtain ⟨f', g', N', z, a, p', t, b, q1, q2, q3, q4, q5, q6, q7, q8⟩ := cc
    exact ⟨f', g', N', z, a, p', t, b, fun d Q => by rw [h, a1, vd_rs_v, q1], fun d Q => by rw [h', a2, vd_rs_v, q2], q3, q4, q5, (hf.1.trans a7.hd).trans q6, (hg.1.trans a8.hd).trans q7, q8⟩
  by_cases hb : b = 0
  · subst hb
    obtain ⟨rfl, rfl⟩ := a6 rfl
    exact fin rfl rfl (c f2 g2 p2 r a3 (hT1.keepP a7 a8) a4 a5 a7 a8)
  · exact fin rfl rfl (vd_HP.fault (u r a3) (v s a3') a4 a5 hb)
/-- a stretch of both sides, a call or a way within a method -/
theorem vd_HP.seq {γ δ : Type} {W : vd_M → γ → δ → Int → (Nat → Nat → Int32) → (Nat → Nat → Int32) → Prop} {T1 : γ → vd_Tg} {U1 : δ → vd_Tg} {kc pcc kr pcr : Nat} {lc sc lr sr : List Value} {KC KR : Nat → (vd_M → (Option Value ⊕ Nat) → Prop) → (vd_M → (Option Value ⊕ Nat) → Prop)} {lz sz : γ → List Value} {ly sy : δ → List Value} (hf : vd_fU f f1) (hg : vd_gU g g1) (P : vd_HP M N T1 U1 n kc pcc lc sc n' kr pcr lr sr e W f1 g1) (u : ∀ z, vd_UC M T m k pc1 (lz z) (sz z)) (v : ∀ N' y, vd_N3 N N' → vd_BH N' U m' k' pc1' (ly y) (sy y)) (h : ∀ d Q, vd_wp (d + m) k pc ls st (vd_mf M f) Q = vd_wp (d + n) kc pcc lc sc (vd_mf M f1) (KC d Q)) (h' : ∀ d Q, vd_wp (d + m') k' pc' ls' st' (vd_mf N g) Q = vd_wp (d + n') kr pcr lr sr (vd_mf N g1) (KR d Q)) (w : ∀ d Q z M', T1 z d (KC d Q) M' = vd_wp (d + m) k pc1 (lz z) (sz z) M' Q) (w' : ∀ d Q y M', U1 y d (KR d Q) M' = vd_wp (d + m') k' pc1' (ly y) (sy y) M' Q) (c : ∀ (f2 g2 : Nat → Nat → Int32) (N2 : vd_M) (z : γ) (y : δ) (p2 : Int), W N2 z y p2 f2 g2 → vd_N3 N N2 → vd_pb f2 p2 e 0 → vd_qb g2 p2 e 0 → vd_fHd f1 f2 → vd_gHd g1 g2 → vd_HP M N2 T U m k pc1 (lz z) (sz z) m' k' pc1' (ly y) (sy y) e V f2 g2) : vd_HP M N T U m k pc ls st m' k' pc' ls' st' e V f g := by
  obtain ⟨f2, g2, N2, z0, y0, p2, t2, b, a1, a2, a3, a4, a5, a6, a7, a8⟩ := P
  have fin : vd_HP M N2 T U m k pc1 (lz z0) (sz z0) m' k' pc1' (ly y0) (sy y0) e V f2 g2 → vd_HP M N T U m k pc ls st m' k' pc' ls' st' e V f g := by
    intro cc
    obtain ⟨f', g', N', z, a, p', t, b, q1, q2, q3, q4, q5, q6, q7, q8⟩ := cc
    exact ⟨f', g', N', z, a, p', t, b, fun d Q => by rw [h, a1, w, q1], fun d Q => by rw [h', a2, w', q2], q3, q4, q5, (hf.1.trans a6).trans q6, (hg.1.trans a7).trans q7, a8.trans q8⟩
  by_cases hb : b = 0
  · subst hb
    obtain ⟨rfl, hW⟩ := a5 rfl
    exact fin (c f2 g2 N2 z0 y0 p2 hW a8 a3 a4 a6 a7)
  · exact fin (vd_HP.fault (u z0) (v N2 y0 a8) a3 a4 hb)
/-- both sides read something, each in its own way -/
theorem vd_HP.get {B : Int → Prop} (A : ∃ (f2 g2 : Nat → Nat → Int32) (p2 t2 b r s : Int), (∀ d Q, vd_wp (d + m) k pc ls st (vd_mf M f) Q = vd_wp (d + m) k pc1 ls1 (.int (vd_I r) :: st1) (vd_mf M f2) Q) ∧ (∀ d Q, vd_wp (d + m') k' pc' ls' st' (vd_mf N g) Q = vd_wp (d + m') k' pc1' ls1' (.int (vd_I s) :: st1') (vd_mf N g2) Q) ∧ (B r ∧ B s) ∧ vd_pb f2 p2 e b ∧ vd_qb g2 t2 e b ∧ (b = 0 → r = s ∧ p2 = t2) ∧ vd_fP f f2 ∧ vd_gP g g2) (hT : vd_RT f g) (u : ∀ r, B r → vd_UC M T m k pc1 ls1 (.int (vd_I r) :: st1)) (v : ∀ s, B s → vd_BH N U m' k' pc1' ls1' (.int (vd_I s) :: st1')) (c : ∀ (f2 g2 : Nat → Nat → Int32) (p2 r : Int), B r → vd_RT f2 g2 → vd_pb f2 p2 e 0 → vd_qb g2 p2 e 0 → vd_fP f f2 → vd_gP g g2 → vd_HP M N T U m k pc1 ls1 (.int (vd_I r) :: st1) m' k' pc1' ls1' (.int (vd_I r) :: st1') e V f2 g2) : vd_HP M N T U m k pc ls st m' k' pc' ls' st' e V f g := by
  obtain ⟨f2, g2, p2, t2, b, r, s, a1, a2, ⟨a3, a3'⟩, a4, a5, a6, a7, a8⟩ := A
  have fin : ∀ {r' s' : Int}, r' = r → s' = s → vd_HP M N T U m k pc1 ls1 (.int (vd_I r') :: st1) m' k' pc1' ls1' (.int (vd_I s') :: st1') e V f2 g2 → vd_HP M N T U m k pc ls st m' k' pc' ls' st' e V f g := by
    intro r' s' er es cc
    subst er es
    obtain ⟨f', g', N', z, a, p', t, b, q1, q2, q3, q4, q5, q6, q7, q8⟩ := cc
    exact ⟨f', g', N', z, a, p', t, b, fun d Q => by rw [a1, q1], fun d Q => by rw [a2, q2], q3, q4, q5, a7.hd.trans q6, a8.hd.trans q7, q8⟩
  by_cases hb : b = 0
  · subst hb
    obtain ⟨rfl, rfl⟩ := a6 rfl
    exact fin rfl rfl (c f2 g2 p2 r a3 (hT.keepP a7 a8) a4 a5 a7 a8)
  · exact fin rfl rfl (vd_HP.fault (u r a3) (v s a3') a4 a5 hb)
end VDHX
section VDHY
variable {M N : vd_M} {ow fa lo lf : Nat} {e : Int}
def vd_b01P (r : Int) : Prop := r = 0 ∨ r = 1
def vd_bnP (w r : Int) : Prop := 0 ≤ r ∧ r < 2 ^ w.toNat
def vd_bsP (w r : Int) : Prop := -(2 ^ w.toNat) < r ∧ r < 2 ^ w.toNat
theorem vd_bnP.n {w r z : Int} (h : vd_bnP w r) (e : (2 : Int) ^ w.toNat = z) : 0 ≤ r ∧ r < z := by
  unfold vd_bnP at h
  rw [e] at h
  exact h
theorem vd_bsP.n {w r z : Int} (h : vd_bsP w r) (e : (2 : Int) ^ w.toNat = z) : -z < r ∧ r < z := by
  unfold vd_bsP at h
  rw [e] at h
  exact h
def vd_bcP (r : Int) : Prop := 1 ≤ r ∧ r ≤ 255
theorem vd_U30 (hM : vd_SC M ow fa lo lf) (n : Nat) (w : Int) (w0 : 0 ≤ w) (hw : w ≤ 16) : ∀ (f : Nat → Nat → Int32) (p e b : Int), vd_pb f p e b → ∃ (f' : Nat → Nat → Int32) (p' b' r : Int), (∀ d Q, vd_wp (d + n) 30 0 [.ref 16, .int (vd_I w), vd_U, vd_U] [] (vd_mf M f) Q = Q (vd_mf M f') (.inl (some (.int (vd_I r))))) ∧ vd_bnP w r ∧ vd_pb f' p' e b' ∧ (b ≠ 0 → b' = b) ∧ vd_fP f f' := fun f p e b h => by
  obtain ⟨f', p', b', r, q1, q2, q3, q4, q5, q6⟩ := vd_numU hM (w := w) w0 hw h
  exact ⟨f', p', b', r, fun d Q => q1 (d + n) Q, ⟨q2, q3⟩, q4, q5, q6⟩
theorem vd_U32 (hM : vd_SC M ow fa lo lf) (n : Nat) (hn : 1 ≤ n) : ∀ (f : Nat → Nat → Int32) (p e b : Int), vd_pb f p e b → ∃ (f' : Nat → Nat → Int32) (p' b' r : Int), (∀ d Q, vd_wp (d + n) 32 0 [.ref 16] [] (vd_mf M f) Q = Q (vd_mf M f') (.inl (some (.int (vd_I r))))) ∧ vd_b01P r ∧ vd_pb f' p' e b' ∧ (b ≠ 0 → b' = b) ∧ vd_fP f f' := fun f p e b h => by
  obtain ⟨j, rfl⟩ : ∃ j, n = j + 1 := ⟨n - 1, by omega⟩
  obtain ⟨f', p', b', r, q1, q2, q3, q4, q5⟩ := vd_flagU hM h
  exact ⟨f', p', b', r, fun d Q => q1 (d + j) Q, q2, q3, q4, q5⟩
theorem vd_U40 (hM : vd_SC M ow fa lo lf) (n : Nat) (hn : 1 ≤ n) (w : Int) (w0 : 0 ≤ w) (hw : w ≤ 16) : ∀ (f : Nat → Nat → Int32) (p e b : Int), vd_pb f p e b → ∃ (f' : Nat → Nat → Int32) (p' b' r : Int), (∀ d Q, vd_wp (d + n) 40 0 [.ref 16, .int (vd_I w), vd_U] [] (vd_mf M f) Q = Q (vd_mf M f') (.inl (some (.int (vd_I r))))) ∧ vd_bsP w r ∧ vd_pb f' p' e b' ∧ (b ≠ 0 → b' = b) ∧ vd_fP f f' := fun f p e b h => by
  obtain ⟨j, rfl⟩ : ∃ j, n = j + 1 := ⟨n - 1, by omega⟩
  obtain ⟨f', p', b', r, q1, q2, q4, q5, q6⟩ := vd_signU hM (w := w) w0 hw h
  exact ⟨f', p', b', r, fun d Q => q1 (d + j) Q, q2, q4, q5, q6⟩
theorem vd_B175 (hN : vd_SR N) (n : Nat) (w : Int) (w0 : 0 ≤ w) (hw : w ≤ 16) : ∀ (g : Nat → Nat → Int32) (p e b : Int), vd_qb g p e b → b ≠ 0 → ∀ d Q, vd_wp (d + n) 175 0 [.ref 63, .int (vd_I w), vd_U, vd_U] [] (vd_mf N g) Q = Q (vd_mf N g) (.inl (some (.int (vd_I 0)))) := fun g p e b h hb d Q => vd_bitsB hN w0 hw h hb _ Q
theorem vd_B177 (hN : vd_SR N) (n : Nat) (hn : 1 ≤ n) : ∀ (g : Nat → Nat → Int32) (p e b : Int), vd_qb g p e b → b ≠ 0 → ∀ d Q, vd_wp (d + n) 177 0 [.ref 63] [] (vd_mf N g) Q = Q (vd_mf N g) (.inl (some (.int (vd_I 0)))) := fun g p e b h hb d Q => by
  obtain ⟨j, rfl⟩ : ∃ j, n = j + 1 := ⟨n - 1, by omega⟩
  exact vd_isB hN h hb (d + j) Q
theorem vd_B182 (hN : vd_SR N) (n : Nat) (hn : 2 ≤ n) (w : Int) (w0 : 0 ≤ w) (hw : w ≤ 16) : ∀ (g : Nat → Nat → Int32) (p e b : Int), vd_qb g p e b → b ≠ 0 → ∀ d Q, vd_wp (d + n) 182 0 [.ref 63, .int (vd_I w), vd_U] [] (vd_mf N g) Q = Q (vd_mf N g) (.inl (some (.int (vd_I 0)))) := fun g p e b h hb d Q => by
  obtain ⟨j, rfl⟩ : ∃ j, n = j + 2 := ⟨n - 2, by omega⟩
  exact vd_signB hN w0 hw h hb (d + j) Q
theorem vd_Q30 (hM : vd_SC M ow fa lo lf) (hN : vd_SR N) (n n' : Nat) (w : Int) (w0 : 0 ≤ w) (hw : w ≤ 16) : vd_PQ M N e n 30 [.ref 16, .int (vd_I w), vd_U, vd_U] n' 175 [.ref 63, .int (vd_I w), vd_U, vd_U] (vd_bnP w) := fun f g p hT hp hq => by
  obtain ⟨f', g', p', t', b', r, s, q1, q2, ⟨a1, a2, a3, a4⟩, q3⟩ := vd_num hM hN (w := w) w0 hw hT hp hq
  exact ⟨f', g', p', t', b', r, s, fun d Q => q1 (d + n) Q, fun d Q => q2 (d + n') Q, ⟨⟨a1, a2⟩, ⟨a3, a4⟩⟩, q3⟩
theorem vd_Q32 (hM : vd_SC M ow fa lo lf) (hN : vd_SR N) (n n' : Nat) (hn : 1 ≤ n) (hn' : 1 ≤ n') : vd_PQ M N e n 32 [.ref 16] n' 177 [.ref 63] vd_b01P := fun f g p hT hp hq => by
  obtain ⟨j, rfl⟩ : ∃ j, n = j + 1 := ⟨n - 1, by omega⟩
  obtain ⟨j', rfl⟩ : ∃ j, n' = j + 1 := ⟨n' - 1, by omega⟩
  obtain ⟨f', g', p', t', b', r, s, q1, q2, a, q3⟩ := vd_flag hM hN hT hp hq
  exact ⟨f', g', p', t', b', r, s, fun d Q => q1 (d + j) Q, fun d Q => q2 (d + j') Q, a, q3⟩
theorem vd_Q40 (hM : vd_SC M ow fa lo lf) (hN : vd_SR N) (n n' : Nat) (hn : 1 ≤ n) (hn' : 2 ≤ n') (w : Int) (w0 : 0 ≤ w) (hw : w ≤ 16) : vd_PQ M N e n 40 [.ref 16, .int (vd_I w), vd_U] n' 182 [.ref 63, .int (vd_I w), vd_U] (vd_bsP w) := fun f g p hT hp hq => by
  obtain ⟨j, rfl⟩ : ∃ j, n = j + 1 := ⟨n - 1, by omega⟩
  obtain ⟨j', rfl⟩ : ∃ j, n' = j + 2 := ⟨n' - 2, by omega⟩
  obtain ⟨f', g', p', t', b', r, s, q1, q2, a, q3⟩ := vd_sign hM hN (w := w) w0 hw hT hp hq
  exact ⟨f', g', p', t', b', r, s, fun d Q => q1 (d + j) Q, fun d Q => q2 (d + j') Q, a, q3⟩
end VDHY
