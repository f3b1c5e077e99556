/-! ===== arraycopy ===== -/
section VDC
variable {p : Program} {l : Launch} {e : Env} {R : Room} {s : State} {m : MethodId} {args : Array Value} {below : List Frame} {meth : Method} {c : Code} {H : Heap} {locs : List Loc} {cells slots : Nat} {Q : State → Prop}
variable {cc : ByteArray} {D : va_G} {z : Nat → Nat} {H0 : Heap} {M : vd_M} {own : String} {pc : Nat} {L : Array Slot} {a b len : Nat} {st st' : List Value} {M' : vd_M}
theorem vd_pairs (at_ : Nat) : ∀ (xs : List Value) (i : Nat) (cd : Cell), (cd.storePairs at_ (xs.zipIdx i)).cls = cd.cls ∧ (cd.storePairs at_ (xs.zipIdx i)).vm = cd.vm ∧ (cd.storePairs at_ (xs.zipIdx i)).slots.size = cd.slots.size ∧ ∀ j : Nat, j < cd.slots.size → (cd.storePairs at_ (xs.zipIdx i)).slots[j]? = if at_ + i ≤ j ∧ j < at_ + i + xs.length then xs[j - (at_ + i)]? else cd.slots[j]?
  | [], i, cd => ⟨rfl, rfl, rfl, fun j _ => by rw [if_neg (by simp only [List.length_nil]; omega)]; rfl⟩
  | x :: xs, i, cd => by
    rw [List.zipIdx_cons]
    have e : cd.storePairs at_ ((x, i) :: xs.zipIdx (i + 1)) = (cd.setSlot (at_ + i) x).storePairs at_ (xs.zipIdx (i + 1)) := rfl
    rw [e]
    have hs : (cd.setSlot (at_ + i) x).slots.size = cd.slots.size := by simp [Cell.setSlot]
    obtain ⟨h1, h2, h3, h4⟩ := vd_pairs at_ xs (i + 1) (cd.setSlot (at_ + i) x)
    refine ⟨h1, h2, h3.trans hs, fun j hj => ?_⟩
    rw [h4 j (by rw [hs]; exact hj)]
    by_cases hk : j = at_ + i
    · subst hk
      rw [if_neg (by omega), if_pos (by simp only [List.length_cons]; omega), Nat.sub_self]
      simp [Cell.setSlot, hj]
    · by_cases h : at_ + (i + 1) ≤ j ∧ j < at_ + (i + 1) + xs.length
      · rw [if_pos h, if_pos (by simp only [List.length_cons]; omega)]
        have e : j - (at_ + i) = (j - (at_ + (i + 1))) + 1 := by omega
        rw [e, List.getElem?_cons_succ]
      · rw [if_neg h, if_neg (by simp only [List.length_cons]; omega)]
        simp only [Cell.setSlot]
        rw [Array.getElem?_setIfInBounds_ne (fun q => hk q.symm)]
theorem vd_nn {x : Int32} (h : ¬ x < 0) : x.toInt = (x.toNatClampNeg : Int) := by
  have hz0 : (0 : Int) ≤ x.toInt := by
    have := Int32.not_lt.mp h
    simpa using Int32.le_iff_toInt_le.mp this
  show x.toInt = ((x.toInt.toNat : Nat) : Int)
  omega
theorem vd_copy (hx : p.tables.exec = Jvm.exec) (hb : c.code = cc) (hown : s.vm.findClass own = some m.cls) (hts : ∀ w ∈ vd_tb, w.before args s = true) (hR : vd_Rep D z H0 M s H) (hlo : ∀ q ∈ locs, H0.size ≤ q.base) {i : Instr} (hw : vd_pok own i) (hd : decode cc pc = .ok (i, len)) (ht : vd_tok i pc len = true) (hsz : L.size = c.maxLocals) (h : vd_cp st M = some (st', M')) (hf : 8 ≤ R.frames) (hl : 400 ≤ R.locals)
    (kk : ∀ (H' : Heap) (locs' : List Loc), vd_Rep D z H0 M' s H' → (∀ q ∈ locs', H0.size ≤ q.base) → W p l e R s m args below meth c H' locs' cells slots Q (F0 m (pc + len) L (st'.map (vd_cc (vd_ad z H0.size))))) : W p l e R s m args below meth c H locs cells slots Q (F0 m pc L (st.map (vd_cc (vd_ad z H0.size)))) := by
  cases i with
  | invokestatic idx =>
    simp only [vd_tok, beq_iff_eq] at ht
    subst ht
    obtain ⟨w1, w2, w3, w4⟩ := hw
    unfold vd_cp at h
    split at h
    · rename_i n dp o1 sp o0 st
      split at h
      · rename_i hc
        obtain ⟨⟨ho, hk01, hcs, hkk⟩, hn⟩ := hc
        simp only [Option.some.injEq, Prod.mk.injEq] at h
        obtain ⟨rfl, rfl⟩ := h
        have n1 : ¬ n < 0 := fun q => hn (Or.inl q)
        have n2 : ¬ dp < 0 := fun q => hn (Or.inr (Or.inl q))
        have n3 : ¬ sp < 0 := fun q => hn (Or.inr (Or.inr (Or.inl q)))
        have n4 : sp.toNatClampNeg + n.toNatClampNeg ≤ vd_l M o0 := Nat.not_lt.mp fun q => hn (Or.inr (Or.inr (Or.inr (Or.inl q))))
        have n5 : dp.toNatClampNeg + n.toNatClampNeg ≤ vd_l M o1 := Nat.not_lt.mp fun q => hn (Or.inr (Or.inr (Or.inr (Or.inr q))))
        have k1 : 32 ≤ vd_k M o1 ∧ vd_k M o1 < 35 := by omega
        obtain ⟨cs, a1, a2, a3, a4, a5, a6, a7⟩ := vd_arrAt hR hk01 (by omega) (by omega)
        obtain ⟨cd, b1, b2, b3, b4, b5, b6, b7⟩ := vd_arrAt hR (o := o1) rfl (by omega) (by omega)
        obtain ⟨ks, hks, sc, hsk⟩ := a2.2
        obtain ⟨kd, hkd, dc, hdk⟩ := b2.2
        have hpr := (vd_aty_prim k1.1 k1.2).1
        have hval : ∀ j, j < n.toNatClampNeg → cs.slots.getD (sp.toNatClampNeg + j) .null = .int (vd_i M o0 (sp.toNatClampNeg + j)) := by
          intro j hj
          rw [Array.getD_eq_getD_getElem?, a6 _ (by omega), vd_ev_int (by omega)]
          rfl
        intro T hT X
        obtain ⟨vm', X', step⟩ := X.arraycopy hx hown (hts _ w1) (hts _ w2) (hts _ w3) (hts _ w4) (src := vd_ad z H0.size o0) (dst := vd_ad z H0.size o1) (cs := cs) (cd := cd) (srcPos := sp) (destPos := dp) (n := n) (by rw [hT]; exact a1) (by rw [hT]; exact b1) a2.1 b2.1 a3 b3 hks hkd hsk hdk (by simp [hpr]) n3 n2 n1
          (by rw [vd_nn n3, vd_nn n1]; omega) (by rw [vd_nn n2, vd_nn n1]; omega)
          (fun vm₁ _ j hj => by
            rw [hval j hj]
            refine ⟨?_, trivial⟩
            rcases hkk with q | ⟨q, q2⟩
            · rw [q]; rfl
            · rw [q]
              rcases q2 j hj with w | w <;> rw [w] <;> rfl)
          (g := F0 m pc L ((Value.int n :: .int dp :: .ref o1 :: .int sp :: .ref o0 :: st).map (vd_cc (vd_ad z H0.size)))) rfl hsz (rest := st.map (vd_cc (vd_ad z H0.size))) rfl (by rw [hb]; exact hd) (by omega) (by
            show 2 * 0 + _ + (nativeFrameWords "java/lang/System" "arraycopy" 5 + 11) ≤ _
            rw [vd_cs_map]
            have : nativeFrameWords "java/lang/System" "arraycopy" 5 + 11 ≤ 300 := by decide
            omega)
        have hstr : ∀ j : Nat, j < n.toNatClampNeg → (cs.stretch sp.toNatClampNeg n.toNatClampNeg)[j]? = some (.int (vd_i M o0 (sp.toNatClampNeg + j))) := by
          intro j hj
          unfold Cell.stretch
          rw [List.getElem?_map, List.getElem?_range hj]
          simp only [Option.map_some]
          rw [hval j hj]
        have hlenS : (cs.stretch sp.toNatClampNeg n.toNatClampNeg).length = n.toNatClampNeg := by
          unfold Cell.stretch
          rw [List.length_map, List.length_range]
        obtain ⟨e1, e2, e3, e4⟩ := vd_pairs dp.toNatClampNeg (cs.stretch sp.toNatClampNeg n.toNatClampNeg) 0 cd
        have ecp : copied cs cd sp dp n = cd.storePairs dp.toNatClampNeg ((cs.stretch sp.toNatClampNeg n.toNatClampNeg).zipIdx 0) := rfl
        rw [← ecp] at e1 e2 e3 e4
        have hl2 : vd_ad z H0.size o1 < T.heap.size := by rw [hT]; exact (Array.getElem?_eq_some_iff.mp b1).1
        have hheap : ((T.setVm vm').setCell (vd_ad z H0.size o1) (copied cs cd sp dp n)).heap = H.setIfInBounds (vd_ad z H0.size o1) (copied cs cd sp dp n) := by rw [← hT]; rfl
        have oq : ∀ q : Nat, q ≠ vd_ad z H0.size o1 → (H.setIfInBounds (vd_ad z H0.size o1) (copied cs cd sp dp n))[q]? = H[q]? := fun q hq => by simp [Array.getElem?_setIfInBounds, Ne.symm hq]
        have o1q : (H.setIfInBounds (vd_ad z H0.size o1) (copied cs cd sp dp n))[vd_ad z H0.size o1]? = some (copied cs cd sp dp n) := by
          rw [hT] at hl2
          simp [Array.getElem?_setIfInBounds, hl2]
        have hcell : ∀ j : Nat, j < vd_l M o1 → (copied cs cd sp dp n).slots[j]? = some (vd_ev (vd_ad z H0.size) (vd_sa M o1 (va_cpy (vd_i M o0) (vd_i M o1) sp.toNatClampNeg dp.toNatClampNeg n.toNatClampNeg)) o1 j) := by
          intro j hj
          rw [e4 j (by omega), vd_ev_int (by show vd_k M o1 < 35; omega)]
          show _ = some (Value.int (if o1 = o1 then va_cpy (vd_i M o0) (vd_i M o1) sp.toNatClampNeg dp.toNatClampNeg n.toNatClampNeg j else vd_i M o1 j))
          rw [if_pos rfl, hlenS]
          unfold va_cpy
          by_cases hc : dp.toNatClampNeg ≤ j ∧ j < dp.toNatClampNeg + n.toNatClampNeg
          · rw [if_pos (by omega), if_pos hc, hstr _ (by omega)]
            congr 4
          · rw [if_neg (by omega), if_neg hc, b6 j hj, vd_ev_int (by omega)]
        have hrep : vd_Rep D z H0 (vd_sa M o1 (va_cpy (vd_i M o0) (vd_i M o1) sp.toNatClampNeg dp.toNatClampNeg n.toNatClampNeg)) s (H.setIfInBounds (vd_ad z H0.size o1) (copied cs cd sp dp n)) :=
          hR.write ho rfl (fun _ => rfl) (fun _ => rfl) (fun q hq j => by show (if q = o1 then _ else vd_i M q j) = _; rw [if_neg hq]) (fun _ _ _ => rfl) (fun _ _ _ => rfl) (by simp) oq (Or.inr (Or.inr ⟨k1.1, by show vd_k M o1 < 41; omega, copied cs cd sp dp n, o1q, ⟨fun k => by rw [e2]; exact b2.1 k, by rw [e1]; exact b2.2⟩, by rw [e2]; exact b3, by rw [e3]; exact b4, fun q => by rw [e3]; exact b5 q, hcell, fun q => by rw [e1]; exact b7 q⟩))
        have hlo2 : ∀ q ∈ locs ++ (cs.stretch sp.toNatClampNeg n.toNatClampNeg).zipIdx.map (fun q => (⟨vd_ad z H0.size o1, dp.toNatClampNeg + q.2⟩ : Loc)), H0.size ≤ q.base := by
          intro q hq
          rcases List.mem_append.mp hq with g | g
          · exact hlo q g
          · obtain ⟨x, -, rfl⟩ := List.mem_map.mp g
            exact vd_base ho
        obtain ⟨t, t1, t2⟩ := kk _ _ hrep hlo2 _ hheap X'
        exact ⟨t, step t t1, t2⟩
      · cases h
    · cases h
  | _ => exact hw.elim
end VDC
