/-! ===== a row of four rows: the small machine's memory ===== -/
section VDMX
variable {p : Program} {l : Launch} {e : Env} {R : Room} {s : State} {m : MethodId} {args : Array Value} {below : List Frame} {meth : Method} {c : Code} {T : State} {locs : List Loc} {cells slots : Nat}
variable {D : va_G} {z : Nat → Nat} {H0 H : Heap} {M : vd_M}
/-- the small machine's memory, one row behind the other -/
def vd_mm4 (M : vd_M) (K : Nat) : Nat → vd_M
  | 0 => vd_new M 38 4 4
  | i + 1 => vd_sr (vd_new (vd_mm4 M K i) 32 K K) (vd_n M) i (some (vd_n M + 1 + i))
theorem vd_mm4_facts (M : vd_M) (K : Nat) : ∀ i, vd_n (vd_mm4 M K i) = vd_n M + 1 + i ∧ vd_k (vd_mm4 M K i) (vd_n M) = 38 ∧ vd_l (vd_mm4 M K i) (vd_n M) = 4
  | 0 => ⟨rfl, by show (if vd_n M = vd_n M then 38 else _) = _; rw [if_pos rfl], by show (if vd_n M = vd_n M then 4 else _) = _; rw [if_pos rfl]⟩
  | i + 1 => by
    obtain ⟨h1, h2, h3⟩ := vd_mm4_facts M K i
    refine ⟨?_, ?_, ?_⟩
    · show vd_n (vd_mm4 M K i) + 1 = _
      rw [h1]
      rfl
    · show (if vd_n M = vd_n (vd_mm4 M K i) then 32 else vd_k (vd_mm4 M K i) (vd_n M)) = 38
      rw [if_neg (by omega)]
      exact h2
    · show (if vd_n M = vd_n (vd_mm4 M K i) then K else vd_l (vd_mm4 M K i) (vd_n M)) = 4
      rw [if_neg (by omega)]
      exact h3
theorem vd_mmRep (hR : vd_Rep D z H0 M s H) {T : State} (hT : T.heap = H) {cA comp cc : ClassId} {kA kC : Class} {K : Nat} (f1 : s.vm.findClass "[[I" = some cA) (f2 : s.vm.findClass "[I" = some comp) (f3 : s.vm.classes[cA]? = some kA) (f4 : kA.kind = .array comp (.array .int)) (f5 : s.vm.classes[comp]? = some kC) (f6 : kC.kind = .array cc .int) :
    ∀ i, i ≤ 4 → vd_Rep D z H0 (vd_mm4 M K i) s (vd_msu (T.pushCell (vd_ouC cA)) T.heap.size comp cA K i).heap
  | 0, _ => by
    have hn := vd_ad_n hR
    have h1 : (T.pushCell (vd_ouC cA)).heap = H.push (vd_ouC cA) := by rw [← hT]; rfl
    show vd_Rep D z H0 (vd_new M 38 4 4) s (T.pushCell (vd_ouC cA)).heap
    rw [h1]
    refine hR.push (Array.size_push ..) (fun q hq => by rw [Array.getElem?_push, if_neg (Nat.ne_of_lt hq)]) (by omega) (Or.inr (Or.inr ⟨by rw [vd_new_k, if_pos rfl]; omega, by rw [vd_new_k, if_pos rfl]; omega, ?_⟩))
    rw [vd_new_k, if_pos rfl, vd_new_l, if_pos rfl, hn]
    refine ⟨vd_ouC cA, Array.getElem?_push_size, ⟨(fun k w => by cases w), kA, f3, comp, f4⟩, (fun q => by cases q), by simp [vd_ouC], fun _ => by simp [vd_ouC], fun j hj => ?_, fun _ => ⟨f1, fun _ => ⟨kA, comp, kC, f3, f4, f2, f5⟩⟩⟩
    unfold vd_ev
    rw [vd_new_k, if_pos rfl, vd_new_r, if_pos rfl, if_neg (by omega), if_neg (by omega)]
    simp [vd_ouC, hj]
    rfl
  | i + 1, hi => by
    have ih := vd_mmRep hR hT f1 f2 f3 f4 f5 f6 (K := K) i (by omega)
    obtain ⟨m1, m2, m3⟩ := vd_mm4_facts M K i
    obtain ⟨u1, u2, u3, u4⟩ := vd_ms_facts (T := T) (cA := cA) (comp := comp) (K := K) i
    generalize hU : vd_msu (T.pushCell (vd_ouC cA)) T.heap.size comp cA K i = U at ih u1 u2 u3 u4
    generalize hMi : vd_mm4 M K i = Mi at ih m1 m2 m3
    have hnU := vd_ad_n ih
    have hnM := vd_ad_n hR
    have hT2 : T.heap.size = vd_ad z H0.size (vd_n M) := by rw [hnM, hT]
    have r1 : vd_Rep D z H0 (vd_new Mi 32 K K) s (U.heap.push (vd_inC comp K)) := by
      refine ih.push (Array.size_push ..) (fun q hq => by rw [Array.getElem?_push, if_neg (Nat.ne_of_lt hq)]) (by omega) (Or.inr (Or.inr ⟨by rw [vd_new_k, if_pos rfl]; omega, by rw [vd_new_k, if_pos rfl]; omega, ?_⟩))
      rw [vd_new_k, if_pos rfl, vd_new_l, if_pos rfl, hnU]
      refine ⟨vd_inC comp K, Array.getElem?_push_size, ⟨(fun k w => by cases w), kC, f5, cc, f6⟩, (fun q => by cases q), by simp [vd_inC], fun _ => by simp [vd_inC], fun j hj => ?_, fun _ => ⟨f2, fun q => by cases q⟩⟩
      unfold vd_ev
      rw [vd_new_k, if_pos rfl, vd_new_i, if_pos rfl, if_neg (by omega), if_pos (by omega)]
      simp [vd_inC, hj]
    have hno : vd_n M ≠ vd_n Mi := by omega
    have k38 : vd_k (vd_new Mi 32 K K) (vd_n M) = 38 := by rw [vd_new_k, if_neg hno]; exact m2
    have l4 : vd_l (vd_new Mi 32 K K) (vd_n M) = 4 := by rw [vd_new_l, if_neg hno]; exact m3
    have h10 : 10 ≤ vd_n M := hR.2.1
    rcases r1.2.2.2.2.2.2 (vd_n M) with g | ⟨g, -⟩ | ⟨-, -, cell, c1, c2, c3, c4, c5, c6, c7⟩
    · rw [k38] at g; omega
    · rw [k38] at g; omega
    · have hlt : T.heap.size < U.heap.size := by rw [u1]; exact Nat.lt_of_lt_of_le (Nat.lt_succ_self _) (Nat.le_add_right _ _)
      have hcell : cell = vd_orow cA T.heap.size i := by
        have : (U.heap.push (vd_inC comp K))[T.heap.size]? = some (vd_orow cA T.heap.size i) := by
          rw [Array.getElem?_push, if_neg (Nat.ne_of_lt hlt)]
          exact u3
        rw [hT2] at this
        exact Option.some.inj (c1.symm.trans (by rw [hT2]; exact this))
      have hfin : (vd_msu (T.pushCell (vd_ouC cA)) T.heap.size comp cA K (i + 1)).heap = (U.heap.push (vd_inC comp K)).setIfInBounds T.heap.size (cell.setSlot i (.ref U.heap.size)) := by
        rw [hcell, ← hU]
        rfl
      have hMf : vd_mm4 M K (i + 1) = vd_sr (vd_new Mi 32 K K) (vd_n M) i (some (vd_n M + 1 + i)) := by rw [← hMi]; rfl
      rw [hfin, hMf]
      have hsz : T.heap.size < (U.heap.push (vd_inC comp K)).size := by rw [Array.size_push]; exact Nat.lt_succ_of_lt hlt
      refine r1.put (o := vd_n M) (k := i) (n := 38) (cell := cell) (v := .ref U.heap.size) h10 k38 (by omega) (by omega) c1 (by rw [k38] at c2; exact c2) c3 c4 c5 c6 (by rw [k38] at c7; exact c7) (by rw [l4]; omega) rfl (fun _ => rfl) (fun _ => rfl) (fun _ _ _ => rfl) (fun q hq j => by rw [vd_sr_r, if_neg (fun w => hq w.1)]) (fun _ _ _ => rfl) ?_ (fun j' hj' => ?_) ?_ (by rw [Array.size_setIfInBounds]) (fun q hq => ?_)
      · have k38' : 36 ≤ vd_k (vd_sr (vd_new Mi 32 K K) (vd_n M) i (some (vd_n M + 1 + i))) (vd_n M) := by show 36 ≤ vd_k (vd_new Mi 32 K K) (vd_n M); omega
        rw [vd_ev_ref k38', vd_sr_r, if_pos ⟨rfl, rfl⟩, ← hnU, m1]
        rfl
      · have k38' : 36 ≤ vd_k (vd_sr (vd_new Mi 32 K K) (vd_n M) i (some (vd_n M + 1 + i))) (vd_n M) := by show 36 ≤ vd_k (vd_new Mi 32 K K) (vd_n M); omega
        rw [vd_ev_ref k38', vd_ev_ref (show 36 ≤ vd_k (vd_new Mi 32 K K) (vd_n M) by omega), vd_sr_r, if_neg (fun w => hj' w.2)]
      · rw [← hT2, Array.getElem?_setIfInBounds, if_pos rfl, if_pos hsz]
      · rw [Array.getElem?_setIfInBounds, if_neg (fun w => hq (by rw [← hT2]; exact w.symm))]
end VDMX
theorem vd_mus_all : (List.range vd_es.length).all (fun k => (vd_es.getD k []).all (fun q => !decide (q.2.1.2.2.1 = 8) || (decide (k = 163) && decide (q.2.1.1 = .multianewarray 44 2) && decide (q.2.1.2.1 = 4)))) = true := by decide +kernel
theorem vd_mus_mem {k pc : Nat} {i : Instr} {len a b : Nat} {cv : Value} (h : vd_P0.1 k pc = some (i, len, 8, a, b, cv)) : k = 163 ∧ i = .multianewarray 44 2 ∧ len = 4 := by
  have hx : vd_pI k pc = some (i, len, 8, a, b, cv) := h
  unfold vd_pI at hx
  split at hx
  · rename_i l hl
    obtain ⟨w, hw⟩ := vd_lk_mem l pc _ hx
    have hk : k < vd_es.length := (List.getElem?_eq_some_iff.mp hl).1
    have h1 := List.all_eq_true.mp vd_mus_all k (List.mem_range.mpr hk)
    have hg : vd_es.getD k [] = l := by rw [List.getD_eq_getElem?_getD, hl]; rfl
    rw [hg] at h1
    have h2 := List.all_eq_true.mp h1 _ hw
    simp only [Bool.or_eq_true, Bool.and_eq_true, Bool.not_eq_true', decide_eq_false_iff_not, decide_eq_true_eq] at h2
    rcases h2 with q | ⟨⟨q1, q2⟩, q3⟩
    · exact absurd trivial q
    · exact ⟨q1, q2, q3⟩
  · cases hx
theorem vd_P0_multi : vd_MultiOK vd_P0 := by
  intro k pc i len a b cv h p l e R s m args below meth c H locs Q D z H0 L c0 s0 M M' st st' hF hK hR hlo hmu hc0 hs0 hrc hrs kk
  have hd := (vd_P0_ok k pc _ h).1
  obtain ⟨rfl, rfl, rfl⟩ := vd_mus_mem h
  obtain ⟨hx, hb, hml, hr, hown, hts, -⟩ := hF
  have w1 : Cond.classLink "VideoDecoderModel" 44 "[[I" ∈ vd_tb := vd_wi_mem (w := 1868) (by decide +kernel)
  have w2 : Cond.arrayOver (.array .int) ∈ vd_tb := vd_wi_mem (w := 1869) (by decide +kernel)
  have w3 : Cond.arrayClass .int ∈ vd_tb := vd_wi_mem (w := 229) (by decide +kernel)
  unfold vd_mu at hmu
  split at hmu
  · rename_i K n st
    split at hmu
    · rename_i hn
      obtain ⟨rfl, hn⟩ := hn
      simp only [Option.some.injEq, Prod.mk.injEq] at hmu
      obtain ⟨rfl, rfl⟩ := hmu
      have n1 : ¬ K < 0 := fun q => hn (Or.inl q)
      have n2 : K.toNatClampNeg ≤ 65536 := Nat.not_lt.mp fun q => hn (Or.inr q)
      have e1 : vd_c (vd_mu4 M K.toNatClampNeg) = vd_c M + 5 := rfl
      have e2 : vd_s (vd_mu4 M K.toNatClampNeg) = vd_s M + 4 + K.toNatClampNeg + K.toNatClampNeg + K.toNatClampNeg + K.toNatClampNeg := rfl
      have e3 : vd_mu4 M K.toNatClampNeg = vd_mm4 M K.toNatClampNeg 4 := rfl
      intro T hT X
      obtain ⟨vm₁, cA, comp, cc, kA, kC, f1, f2, f3, f4, f5, f6, X4, step⟩ := vd_mu4S X hx hown (hts _ w1) (hts _ w2) (hts _ w3) (g := F0 m pc L (.int K :: .int 4 :: st.map (vd_cc (vd_ad z H0.size)))) (rest := st.map (vd_cc (vd_ad z H0.size))) rfl (by rw [hb]; exact hd) rfl n1 n2 (by omega) (by omega)
      have hRep : vd_Rep D z H0 (vd_mu4 M K.toNatClampNeg) s (vd_msu ((T.setVm vm₁).pushCell (vd_ouC cA)) T.heap.size comp cA K.toNatClampNeg 4).heap := by
        rw [e3]
        exact vd_mmRep (T := T.setVm vm₁) (K := K.toNatClampNeg) hR hT f1 f2 f3 f4 f5 f6 4 (by omega)
      clear e3
      simp only [List.map_cons, vd_cc]
      have hlo' : ∀ q ∈ locs ++ (List.range 4).map (fun j => (⟨T.heap.size, j⟩ : Loc)), H0.size ≤ q.base := by
        intro q hq
        rcases List.mem_append.mp hq with g | g
        · exact hlo q g
        · obtain ⟨j, -, rfl⟩ := List.mem_map.mp g
          show H0.size ≤ T.heap.size
          rw [hT, hR.1]
          exact Nat.le_add_right _ _
      rw [show vd_c M - c0 + 1 + 4 = vd_c (vd_mu4 M K.toNatClampNeg) - c0 by omega, show vd_s M - s0 + 4 + 4 * K.toNatClampNeg = vd_s (vd_mu4 M K.toNatClampNeg) - s0 by omega] at X4
      have hn := vd_ad_n hR
      rw [← hT] at hn
      have k2 := kk _ _ hRep hlo'
      simp only [List.map_cons, vd_cc, hn] at k2
      generalize vd_msu ((T.setVm vm₁).pushCell (vd_ouC cA)) T.heap.size comp cA K.toNatClampNeg 4 = U at hRep X4 step k2
      obtain ⟨t, t1, t2⟩ := k2 U rfl X4
      exact ⟨t, step t t1, t2⟩
    · cases hmu
  · cases hmu
