/-! ===== soundness: by induction on the steps ===== -/
set_option maxHeartbeats 4000000 in
theorem vd_sound {P : vd_P} (hOK : vd_OK P) (hTh : vd_ThrowOK P) (hCt : vd_CatchOK P) (hMu : vd_MultiOK P) : ∀ n, vd_WS P n := by
  intro n
  induction n with
  | zero => intro d k pc ls st M M' res h; cases h
  | succ n ih =>
    intro d k pc ls st M M' res h p l e R s m args below meth c H locs D z H0 L c0 s0 htr hFx hK hR hl hlo hH0 hc0 hs0 hrc hrs hrf hrl
    have hmono := vd_mono P (n + 1) d k pc ls st M _ h
    have hFx' := hFx
    obtain ⟨hx, hb, hml, hret, hown, hts, hlk, hnm, hxt⟩ := hFx'
    rw [vd_run] at h
    split at h
    · cases h
    · rename_i i len t a b cv he
      obtain ⟨hd, ht, o0, o1, o2, o3, o5, o6⟩ := hOK k pc _ he
      simp only at hd ht o0 o1 o2 o3 o5 o6
      split at h
      · -- arithmetic
        split at h
        · rename_i x hx0
          refine vd_alu_sound hx hb hown i hd ht ((o0 rfl).cok hts) hl (h := hx0) (fun L' hl' => ?_)
          exact ih d k x.1 x.2.1 x.2.2 M M' res h p l e R s m args below meth c H locs D z H0 L' c0 s0 htr hFx hK hR hl' hlo hH0 hc0 hs0 hrc hrs hrf hrl
        · cases h
      · split at h
        · rename_i x hx0
          have e1 := vd_mm_cs hx0
          refine vd_mm_sound hx hb hown hts hK hR (fin := decide ((P.2.1 k).1.name = "<init>")) (fun q => hnm (by simpa using q)) hlo i hd ht (o1 rfl) (h := hx0) (fun H' locs' hR' hlo' => ?_)
          have := ih d k (pc + len) ls x.1 x.2 M' res h p l e R s m args below meth c H' locs' D z H0 L c0 s0 htr hFx hK hR' hl hlo' hH0 (by rw [e1.1]; exact hc0) (by rw [e1.2]; exact hs0) hrc hrs hrf hrl
          rw [e1.1, e1.2] at this
          exact this
        · cases h
      · split at h
        · rename_i x hx0
          have e1 := vd_al_cs hx0
          have hm2 := vd_mono P n d k (pc + len) ls x.1 x.2 _ h
          simp only at hm2
          refine vd_al_sound hx hb hown hts hK hR i hd ht (o2 rfl) (h := hx0) hc0 hs0 rfl rfl (by omega) (by omega) (fun H' hR' => ?_)
          exact ih d k (pc + len) ls x.1 x.2 M' res h p l e R s m args below meth c H' locs D z H0 L c0 s0 htr hFx hK hR' hl hlo hH0 (by omega) (by omega) hrc hrs hrf hrl
        · cases h
      · -- a call
        split at h
        · cases h
        · rename_i d'
          split at h
          · rename_i hfit
            split at h
            · rename_i M1 v hc
              obtain ⟨k1, k2⟩ := o3 (Or.inl rfl)
              have hm1 := vd_mono P n _ _ _ _ _ _ _ hc
              have hm2 := vd_mono P n _ _ _ _ _ _ _ h
              simp only at hm1 hm2
              have hf := hfit
              simp only [vd_fit, Bool.and_eq_true, decide_eq_true_eq] at hf
              intro T hT X
              obtain ⟨rfl, vm₁, mk, X₁, hnk, hstep⟩ := vd_inv (L := L) hx hown hts hK hR k1 k2 ht hfit X hT (by rw [hb]; exact hd)
              obtain ⟨t, t1, t2⟩ := vd_inner ih htr hx hts hK hH0 k2 k1.1.2.2.1 k1.1.2.2.2.1 hf.1.2 hc X₁ (H := H) hT hR (g := F0 m pc L ((st.drop (P.2.1 a).2.2.2.2.1).map (vd_cc (vd_ad z H0.size)))) rfl (by rw [hml]; exact hl.2.1) (by rw [hb]; exact hd) (by show 2 * 0 + _ ≤ 8; rw [vd_cs_map]; have := hf.1.1.2; omega) hnk (by omega) (by omega) (by omega) (by omega)
              obtain ⟨T', locs', X', hlo', hR', ht'⟩ := vd_back X₁ rfl (by rw [hb]; exact hd) t2 hlo
              have hW := ih (d' + 1) k (pc + 3) ls (v.toList ++ st.drop (P.2.1 a).2.2.2.2.1) M1 M' res h p l e R s m args below meth c T'.heap locs' D z H0 L c0 s0 htr hFx hK hR' hl hlo' hH0 (by omega) (by omega) hrc hrs hrf hrl
              rw [show vd_c M - c0 + (vd_c M1 - vd_c M) = vd_c M1 - c0 by omega, show vd_s M - s0 + (vd_s M1 - vd_s M) = vd_s M1 - s0 by omega] at X'
              obtain ⟨t', q1, q2⟩ := hW T' rfl X'
              refine ⟨t', hstep t' (fun acts => (t1 acts).trans ?_), q2⟩
              rw [ht']
              have ev : (v.map (vd_cc (vd_ad z H0.size))).toList ++ (st.drop (P.2.1 a).2.2.2.2.1).map (vd_cc (vd_ad z H0.size)) = (v.toList ++ st.drop (P.2.1 a).2.2.2.2.1).map (vd_cc (vd_ad z H0.size)) := by
                cases v <;> simp
              show Steps p.tables e below (T'.setTop (F0 m (pc + 3) L ((v.map (vd_cc (vd_ad z H0.size))).toList ++ (st.drop (P.2.1 a).2.2.2.2.1).map (vd_cc (vd_ad z H0.size))))) t'
              rw [ev]
              exact q1
            · cases h
          · cases h
      · -- a return
        have e1 := vd_rt_cs h
        simp only at e1
        have := vd_retW (m := m) (p := p) (l := l) (e := e) (R := R) (args := args) (below := below) (L := L) (cells := vd_c M - c0) (slots := vd_s M - s0) hx hb hret hlk hR hlo hd ht h
        rw [e1]
        rw [e1] at this
        exact this
      · split at h
        · rename_i o st'
          split at h
          · rename_i hcs
            refine vd_objInit hx hb hown hts (o5 rfl) hd ht (by rw [hml]; exact hl.2.1) hcs (by omega) (by omega) ?_
            exact ih d k (pc + len) ls st' M M' res h p l e R s m args below meth c H locs D z H0 L c0 s0 htr hFx hK hR hl hlo hH0 hc0 hs0 hrc hrs hrf hrl
          · cases h
        · cases h
      · split at h
        · rename_i x hx0
          have e1 := vd_cp_cs hx0
          refine vd_copy hx hb hown hts hR hlo (o6 rfl) hd ht (by rw [hml]; exact hl.2.1) (h := hx0) (by omega) (by omega) (fun H' locs' hR' hlo' => ?_)
          have := ih d k (pc + len) ls x.1 x.2 M' res h p l e R s m args below meth c H' locs' D z H0 L c0 s0 htr hFx hK hR' hl hlo' hH0 (by rw [e1.1]; exact hc0) (by rw [e1.2]; exact hs0) hrc hrs hrf hrl
          rw [e1.1, e1.2] at this
          exact this
        · cases h
      · -- a throw
        split at h
        · rename_i hcs
          simp only [Option.some.injEq, Prod.mk.injEq] at h
          obtain ⟨rfl, rfl⟩ := h
          exact hTh k pc i len a b cv he p l e R s m args below meth c H locs D z H0 L c0 s0 M st htr hFx hK hR (by rw [hml]; exact hl.2.1) hlo hH0 hc0 hs0 hrc hrs (by omega) (by omega) hcs
        · cases h
      · -- rows of rows
        split at h
        · rename_i x hx0
          have e1 := vd_mu_cs hx0
          have hm2 := vd_mono P n d k (pc + len) ls x.1 x.2 _ h
          simp only at hm2
          refine hMu k pc i len a b cv he p l e R s m args below meth c H locs _ D z H0 L c0 s0 M x.2 st x.1 hFx hK hR hlo hx0 hc0 hs0 (by omega) (by omega) (fun H' locs' hR' hlo' => ?_)
          exact ih d k (pc + len) ls x.1 x.2 M' res h p l e R s m args below meth c H' locs' D z H0 L c0 s0 htr hFx hK hR' hl hlo' hH0 (by omega) (by omega) hrc hrs hrf hrl
        · cases h
      · -- a call that may throw
        split at h
        · cases h
        · rename_i d'
          split at h
          · rename_i hfit
            obtain ⟨k1, k2⟩ := o3 (Or.inr rfl)
            have hf := hfit
            simp only [vd_fit, Bool.and_eq_true, decide_eq_true_eq] at hf
            split at h
            · rename_i M1 v hc
              have hm1 := vd_mono P n _ _ _ _ _ _ _ hc
              have hm2 := vd_mono P n _ _ _ _ _ _ _ h
              simp only at hm1 hm2
              intro T hT X
              obtain ⟨rfl, vm₁, mk, X₁, hnk, hstep⟩ := vd_inv (L := L) hx hown hts hK hR k1 k2 ht hfit X hT (by rw [hb]; exact hd)
              obtain ⟨t, t1, t2⟩ := vd_inner ih htr hx hts hK hH0 k2 k1.1.2.2.1 k1.1.2.2.2.1 hf.1.2 hc X₁ (H := H) hT hR (g := F0 m pc L ((st.drop (P.2.1 a).2.2.2.2.1).map (vd_cc (vd_ad z H0.size)))) rfl (by rw [hml]; exact hl.2.1) (by rw [hb]; exact hd) (by show 2 * 0 + _ ≤ 8; rw [vd_cs_map]; have := hf.1.1.2; omega) hnk (by omega) (by omega) (by omega) (by omega)
              obtain ⟨T', locs', X', hlo', hR', ht'⟩ := vd_back X₁ rfl (by rw [hb]; exact hd) t2 hlo
              have hW := ih (d' + 1) k (pc + 3) ls (v.toList ++ st.drop (P.2.1 a).2.2.2.2.1) M1 M' res h p l e R s m args below meth c T'.heap locs' D z H0 L c0 s0 htr hFx hK hR' hl hlo' hH0 (by omega) (by omega) hrc hrs hrf hrl
              rw [show vd_c M - c0 + (vd_c M1 - vd_c M) = vd_c M1 - c0 by omega, show vd_s M - s0 + (vd_s M1 - vd_s M) = vd_s M1 - s0 by omega] at X'
              obtain ⟨t', q1, q2⟩ := hW T' rfl X'
              refine ⟨t', hstep t' (fun acts => (t1 acts).trans ?_), q2⟩
              rw [ht']
              have ev : (v.map (vd_cc (vd_ad z H0.size))).toList ++ (st.drop (P.2.1 a).2.2.2.2.1).map (vd_cc (vd_ad z H0.size)) = (v.toList ++ st.drop (P.2.1 a).2.2.2.2.1).map (vd_cc (vd_ad z H0.size)) := by
                cases v <;> simp
              show Steps p.tables e below (T'.setTop (F0 m (pc + 3) L ((v.map (vd_cc (vd_ad z H0.size))).toList ++ (st.drop (P.2.1 a).2.2.2.2.1).map (vd_cc (vd_ad z H0.size))))) t'
              rw [ev]
              exact q1
            · rename_i M1 x hc
              have hm1 := vd_mono P n _ _ _ _ _ _ _ hc
              simp only at hm1
              split at h
              · rename_i hp hh
                have hm2 := vd_mono P n _ _ _ _ _ _ _ h
                simp only at hm2
                intro T hT X
                obtain ⟨rfl, vm₁, mk, X₁, hnk, hstep⟩ := vd_inv (L := L) hx hown hts hK hR k1 k2 ht hfit X hT (by rw [hb]; exact hd)
                obtain ⟨t, t1, t2⟩ := vd_inner ih htr hx hts hK hH0 k2 k1.1.2.2.1 k1.1.2.2.2.1 hf.1.2 hc X₁ (H := H) hT hR (g := F0 m pc L ((st.drop (P.2.1 a).2.2.2.2.1).map (vd_cc (vd_ad z H0.size)))) rfl (by rw [hml]; exact hl.2.1) (by rw [hb]; exact hd) (by show 2 * 0 + _ ≤ 8; rw [vd_cs_map]; have := hf.1.1.2; omega) hnk (by omega) (by omega) (by omega) (by omega)
                obtain ⟨T', locs', X', hlo', hR', ht'⟩ := vd_backT X₁ rfl t2 hlo
                rw [show vd_c M - c0 + (vd_c M1 - vd_c M) = vd_c M1 - c0 by omega, show vd_s M - s0 + (vd_s M1 - vd_s M) = vd_s M1 - s0 by omega] at X'
                obtain ⟨vm', X'', hst⟩ := hCt k pc hp x M1 hh p l e R s m args below meth c T' locs' _ _ D z H0 L ((st.drop (P.2.1 a).2.2.2.2.1).map (vd_cc (vd_ad z H0.size))) hFx hK hR' X'
                have hW := ih (d' + 1) k hp ls [.ref x] M1 M' res h p l e R s m args below meth c T'.heap locs' D z H0 L c0 s0 htr hFx hK hR' hl hlo' hH0 (by omega) (by omega) hrc hrs hrf hrl
                obtain ⟨t', q1, q2⟩ := hW (T'.setVm vm') rfl X''
                refine ⟨t', hstep t' (fun acts => (t1 acts).trans ?_), q2⟩
                rw [ht']
                exact hst t' q1
              · cases h
            · cases h
          · cases h
      · cases h
