/-! ===== the law's start: the rows of statics, the script, the classes ===== -/
def vd_tabs (k : Nat) : List Int32 := match k with
  | 0 => [64, 90, 90, 90, 89, 88, 87, 85, 83, 82, 80, 78, 75, 73, 70, 67, 64, 61, 57, 54, 50, 46, 43, 38, 36, 31, 25, 22, 18, 13, 9, 4, 0]
  | 1 => [29, 55, 74, 84, 74, 74, 0, -74, 84, -29, -74, 55, 55, -84, 74, -29]
  | 2 => [0, 1, 1, 2, 2, 2, 3, 3, 3, 3, 4, 4, 4, 4, 4, 4, 4, 4, 4, 4, 4]
  | 3 => [0, 1, 2, 3, 3, 4, 4, 4, 4, 4, 4]
  | 4 => [0, 0, 0, 128, 0, 0, 0, 0, 0, 1, -5, 126, 8, -3, 1, 0, -1, 3, -10, 122, 18, -6, 2, 0, -1, 4, -13, 118, 27, -9, 3, -1, -1, 4, -16, 112, 37, -11, 4, -1, -1, 5, -18, 105, 48, -14, 4, -1, -1, 5, -19, 97, 58, -16, 5, -1, -1, 6, -19, 88, 68, -18, 5, -1, -1, 6, -19, 78, 78, -19, 6, -1]
  | 5 => [64, 90, 90, 90, 89, 88, 87, 85, 83, 82, 80, 78, 75, 73, 70, 67, 64, 61, 57, 54, 50, 46, 43, 38, 36, 31, 25, 22, 18, 13, 9, 4, 0]
  | 6 => [29, 55, 74, 84, 74, 74, 0, -74, 84, -29, -74, 55, 55, -84, 74, -29]
  | _ => [0, 0, 0, 128, 0, 0, 0, 0, 0, 1, -5, 126, 8, -3, 1, 0, -1, 3, -10, 122, 18, -6, 2, 0, -1, 4, -13, 118, 27, -9, 3, -1, -1, 4, -16, 112, 37, -11, 4, -1, -1, 5, -18, 105, 48, -14, 4, -1, -1, 5, -19, 97, 58, -16, 5, -1, -1, 6, -19, 88, 68, -18, 5, -1, -1, 6, -19, 78, 78, -19, 6, -1]
def vd_tab (k j : Nat) : Int32 := (vd_tabs k).getD j 0
def vd_zl (k : Nat) : Nat := match k with
  | 0 => 33
  | 1 => 16
  | 2 => 21
  | 3 => 11
  | 4 => 72
  | 5 => 33
  | 6 => 16
  | _ => 72
abbrev vd_pre : Cond := Jvm.Cond.and given_1 narrow_1
theorem vd_zok0 : (List.range 33).all (fun j => decide ((flatC vd_pre)[7 + j]? = some (.eq (.elem (.static "VideoDecoder$Residue" "WAVE" "[I") (.int (Int32.ofNat j))) (.int (vd_tab 0 j))))) = true := by decide +kernel
theorem vd_zar0 : (flatC vd_pre)[5]? = some (.arrayOf (.static "VideoDecoder$Residue" "WAVE" "[I") .int) ∧ (flatC vd_pre)[6]? = some (.eq (.length (.static "VideoDecoder$Residue" "WAVE" "[I")) (.int (Int32.ofNat 33))) := by decide +kernel
theorem vd_zls0 : lw_tbl[506]? = some (.laysStatic "VideoDecoder$Residue" "WAVE" "[I") ∧ lw_tbl[170]? = some (.initialized "VideoDecoder$Residue") := by decide +kernel
theorem vd_zok1 : (List.range 16).all (fun j => decide ((flatC vd_pre)[369 + j]? = some (.eq (.elem (.static "VideoDecoder$Residue" "SLOPES" "[I") (.int (Int32.ofNat j))) (.int (vd_tab 1 j))))) = true := by decide +kernel
theorem vd_zar1 : (flatC vd_pre)[367]? = some (.arrayOf (.static "VideoDecoder$Residue" "SLOPES" "[I") .int) ∧ (flatC vd_pre)[368]? = some (.eq (.length (.static "VideoDecoder$Residue" "SLOPES" "[I")) (.int (Int32.ofNat 16))) := by decide +kernel
theorem vd_zls1 : lw_tbl[1688]? = some (.laysStatic "VideoDecoder$Residue" "SLOPES" "[I") ∧ lw_tbl[170]? = some (.initialized "VideoDecoder$Residue") := by decide +kernel
theorem vd_zok2 : (List.range 21).all (fun j => decide ((flatC vd_pre)[345 + j]? = some (.eq (.elem (.static "VideoDecoder$Residue" "BANDS" "[I") (.int (Int32.ofNat j))) (.int (vd_tab 2 j))))) = true := by decide +kernel
theorem vd_zar2 : (flatC vd_pre)[343]? = some (.arrayOf (.static "VideoDecoder$Residue" "BANDS" "[I") .int) ∧ (flatC vd_pre)[344]? = some (.eq (.length (.static "VideoDecoder$Residue" "BANDS" "[I")) (.int (Int32.ofNat 21))) := by decide +kernel
theorem vd_zls2 : lw_tbl[1624]? = some (.laysStatic "VideoDecoder$Residue" "BANDS" "[I") ∧ lw_tbl[170]? = some (.initialized "VideoDecoder$Residue") := by decide +kernel
theorem vd_zok3 : (List.range 11).all (fun j => decide ((flatC vd_pre)[331 + j]? = some (.eq (.elem (.static "VideoDecoder$Residue" "GRADES" "[I") (.int (Int32.ofNat j))) (.int (vd_tab 3 j))))) = true := by decide +kernel
theorem vd_zar3 : (flatC vd_pre)[329]? = some (.arrayOf (.static "VideoDecoder$Residue" "GRADES" "[I") .int) ∧ (flatC vd_pre)[330]? = some (.eq (.length (.static "VideoDecoder$Residue" "GRADES" "[I")) (.int (Int32.ofNat 11))) := by decide +kernel
theorem vd_zls3 : lw_tbl[1622]? = some (.laysStatic "VideoDecoder$Residue" "GRADES" "[I") ∧ lw_tbl[170]? = some (.initialized "VideoDecoder$Residue") := by decide +kernel
theorem vd_zok4 : (List.range 72).all (fun j => decide ((flatC vd_pre)[43 + j]? = some (.eq (.elem (.static "VideoDecoder$Motion" "SHARP_TAPS" "[I") (.int (Int32.ofNat j))) (.int (vd_tab 4 j))))) = true := by decide +kernel
theorem vd_zar4 : (flatC vd_pre)[41]? = some (.arrayOf (.static "VideoDecoder$Motion" "SHARP_TAPS" "[I") .int) ∧ (flatC vd_pre)[42]? = some (.eq (.length (.static "VideoDecoder$Motion" "SHARP_TAPS" "[I")) (.int (Int32.ofNat 72))) := by decide +kernel
theorem vd_zls4 : lw_tbl[600]? = some (.laysStatic "VideoDecoder$Motion" "SHARP_TAPS" "[I") ∧ lw_tbl[172]? = some (.initialized "VideoDecoder$Motion") := by decide +kernel
theorem vd_zok5 : (List.range 33).all (fun j => decide ((flatC vd_pre)[482 + j]? = some (.eq (.elem (.static "VideoDecoderModel" "G" "[I") (.int (Int32.ofNat j))) (.int (vd_tab 5 j))))) = true := by decide +kernel
theorem vd_zar5 : (flatC vd_pre)[480]? = some (.arrayOf (.static "VideoDecoderModel" "G" "[I") .int) ∧ (flatC vd_pre)[481]? = some (.eq (.length (.static "VideoDecoderModel" "G" "[I")) (.int (Int32.ofNat 33))) := by decide +kernel
theorem vd_zls5 : lw_tbl[2712]? = some (.laysStatic "VideoDecoderModel" "G" "[I") ∧ lw_tbl[175]? = some (.initialized "VideoDecoderModel") := by decide +kernel
theorem vd_zok6 : (List.range 16).all (fun j => decide ((flatC vd_pre)[463 + j]? = some (.eq (.elem (.static "VideoDecoderModel" "SINES" "[I") (.int (Int32.ofNat j))) (.int (vd_tab 6 j))))) = true := by decide +kernel
theorem vd_zar6 : (flatC vd_pre)[461]? = some (.arrayOf (.static "VideoDecoderModel" "SINES" "[I") .int) ∧ (flatC vd_pre)[462]? = some (.eq (.length (.static "VideoDecoderModel" "SINES" "[I")) (.int (Int32.ofNat 16))) := by decide +kernel
theorem vd_zls6 : lw_tbl[2707]? = some (.laysStatic "VideoDecoderModel" "SINES" "[I") ∧ lw_tbl[175]? = some (.initialized "VideoDecoderModel") := by decide +kernel
theorem vd_zok7 : (List.range 72).all (fun j => decide ((flatC vd_pre)[388 + j]? = some (.eq (.elem (.static "VideoDecoderModel" "TAPS" "[I") (.int (Int32.ofNat j))) (.int (vd_tab 7 j))))) = true := by decide +kernel
theorem vd_zar7 : (flatC vd_pre)[386]? = some (.arrayOf (.static "VideoDecoderModel" "TAPS" "[I") .int) ∧ (flatC vd_pre)[387]? = some (.eq (.length (.static "VideoDecoderModel" "TAPS" "[I")) (.int (Int32.ofNat 72))) := by decide +kernel
theorem vd_zls7 : lw_tbl[2559]? = some (.laysStatic "VideoDecoderModel" "TAPS" "[I") ∧ lw_tbl[175]? = some (.initialized "VideoDecoderModel") := by decide +kernel
section VDS
variable {s : State} {b : Nat} {args : Array Value}
theorem vd_zOne {C n : String} {N e i j : Nat} {f : Nat → Int32} (hN : N < 2 ^ 31) (hg : vd_pre.before args s = true) (hts : ∀ w ∈ lw_tbl, w.before args s = true) (h1 : (List.range N).all (fun q => decide ((flatC vd_pre)[e + q]? = some (.eq (.elem (.static C n "[I") (.int (Int32.ofNat q))) (.int (f q))))) = true)
    (h2 : (flatC vd_pre)[i]? = some (.arrayOf (.static C n "[I") .int) ∧ (flatC vd_pre)[j]? = some (.eq (.length (.static C n "[I")) (.int (Int32.ofNat N)))) {u v : Nat} (h3 : lw_tbl[u]? = some (.laysStatic C n "[I") ∧ lw_tbl[v]? = some (.initialized C)) :
    ∃ t : Nat, va_Z C n "[I" (.ref t) (fun q : Nat => s.heap.size ≤ q) s s.heap ∧ va_T .int t N (fun q => .int (f q)) (fun q : Nat => s.heap.size ≤ q) s s.heap := by
  have hfl := flat_of_before _ hg
  have hA : ∀ a : Nat, a < s.heap.size → ¬ (fun q : Nat => s.heap.size ≤ q) a := fun a ha => Nat.not_le.mpr ha
  have hel : ∀ q : Nat, q < N → (Term.elem (.static C n "[I") (.int (Int32.ofNat q))).eval args s none [] s = some (.int (f q)) := fun q hq => by
    have := List.all_eq_true.mp h1 q (List.mem_range.mpr hq)
    simp only [decide_eq_true_eq] at this
    exact va_eqt (hfl _ (List.mem_of_getElem? this))
  obtain ⟨t, ht, hT⟩ := va_Tof (f := fun q => .int (f q)) hN (hfl _ (List.mem_of_getElem? h2.1)) (va_eqt (hfl _ (List.mem_of_getElem? h2.2))) hel hA
  exact ⟨t, va_Zref (hts _ (List.mem_of_getElem? h3.1)) (hts _ (List.mem_of_getElem? h3.2)) ht hA, hT⟩
theorem vd_zAll (hg : vd_pre.before args s = true) (hts : ∀ w ∈ lw_tbl, w.before args s = true) : ∀ k, k < 8 → ∃ t : Nat, va_Z (vd_zn k).1 (vd_zn k).2 "[I" (.ref t) (fun q : Nat => s.heap.size ≤ q) s s.heap ∧ va_T .int t (vd_zl k) (fun q => .int (vd_tab k q)) (fun q : Nat => s.heap.size ≤ q) s s.heap := by
  intro k hk
  match k, hk with
  | 0, _ => exact vd_zOne (by decide) hg hts vd_zok0 vd_zar0 vd_zls0
  | 1, _ => exact vd_zOne (by decide) hg hts vd_zok1 vd_zar1 vd_zls1
  | 2, _ => exact vd_zOne (by decide) hg hts vd_zok2 vd_zar2 vd_zls2
  | 3, _ => exact vd_zOne (by decide) hg hts vd_zok3 vd_zar3 vd_zls3
  | 4, _ => exact vd_zOne (by decide) hg hts vd_zok4 vd_zar4 vd_zls4
  | 5, _ => exact vd_zOne (by decide) hg hts vd_zok5 vd_zar5 vd_zls5
  | 6, _ => exact vd_zOne (by decide) hg hts vd_zok6 vd_zar6 vd_zls6
  | 7, _ => exact vd_zOne (by decide) hg hts vd_zok7 vd_zar7 vd_zls7
  | k + 8, h => omega
theorem vd_inst (c : Nat) (r : vw_C) (h : vd_cls[c]? = some r) : ∃ n, Cond.instantiable r.1 n ∈ vd_tb := by
  match c, h with
  | 0, h => cases h; exact ⟨20, vd_wi_mem (w := 198) (by decide +kernel)⟩
  | 1, h => cases h; exact ⟨11, vd_wi_mem (w := 485) (by decide +kernel)⟩
  | 2, h => cases h; exact ⟨10, vd_wi_mem (w := 385) (by decide +kernel)⟩
  | 3, h => cases h; exact ⟨10, vd_wi_mem (w := 678) (by decide +kernel)⟩
  | 4, h => cases h; exact ⟨13, vd_wi_mem (w := 424) (by decide +kernel)⟩
  | 5, h => cases h; exact ⟨20, vd_wi_mem (w := 231) (by decide +kernel)⟩
  | 6, h => cases h; exact ⟨13, vd_wi_mem (w := 593) (by decide +kernel)⟩
  | 7, h => cases h; exact ⟨3, vd_wi_mem (w := 1069) (by decide +kernel)⟩
  | 8, h => cases h; exact ⟨4, vd_wi_mem (w := 209) (by decide +kernel)⟩
  | 9, h => cases h; exact ⟨17, vd_wi_mem (w := 491) (by decide +kernel)⟩
  | 10, h => cases h; exact ⟨14, vd_wi_mem (w := 323) (by decide +kernel)⟩
  | 11, h => cases h; exact ⟨8, vd_wi_mem (w := 562) (by decide +kernel)⟩
  | 12, h => cases h; exact ⟨135, vd_wi_mem (w := 1860) (by decide +kernel)⟩
  | 13, h => cases h; exact ⟨4, vd_wi_mem (w := 1874) (by decide +kernel)⟩
  | 14, h => cases h; exact ⟨6, vd_wi_mem (w := 793) (by decide +kernel)⟩
  | 15, h => cases h; exact ⟨6, vd_wi_mem (w := 872) (by decide +kernel)⟩
  | 16, h => cases h; exact ⟨6, vd_wi_mem (w := 1763) (by decide +kernel)⟩
  | 17, h => cases h; exact ⟨6, vd_wi_mem (w := 1798) (by decide +kernel)⟩
  | 18, h => cases h; exact ⟨6, vd_wi_mem (w := 1815) (by decide +kernel)⟩
  | c + 19, h => cases h
theorem vd_classes (hts : ∀ w ∈ vd_tb, w.before args s = true) : ∃ D : va_G, va_K D vd_cls [] s := by
  have h : ∀ c : Nat, ∃ q : ClassId × (Nat → Nat), ∀ r, vd_cls[c]? = some r → u_Kn s r.1 r.2.1 r.2.2 q.1 q.2 := by
    intro c
    cases hr : vd_cls[c]? with
    | none => exact ⟨(0, fun _ => 0), fun r h => by cases h⟩
    | some r =>
      obtain ⟨n, hn⟩ := vd_inst c r hr
      obtain ⟨cC, iS, hk⟩ := u_known hts (vd_cls_ok c r hr).1 (hts _ hn)
      exact ⟨(cC, iS), fun r' h => by cases h; exact hk⟩
  refine ⟨(fun c => (Classical.choose (h c)).1, fun c => (Classical.choose (h c)).2), fun c q hq => Classical.choose_spec (h c) q hq, fun k q hq => by cases hq⟩
theorem vd_ncs : (flatC vd_pre)[598]? = some (.not (.castable "java/lang/IndexOutOfBoundsException" "java/util/NoSuchElementException")) ∧ (flatC vd_pre)[592]? = some (.not (.castable "java/lang/IllegalArgumentException" "java/util/NoSuchElementException")) ∧ (flatC vd_pre)[613]? = some (.not (.castable "java/lang/IllegalArgumentException" "java/lang/IndexOutOfBoundsException")) := by decide +kernel
theorem vd_ncOne {A B : String} (h : (Cond.not (.castable A B)).before args s = true) (a b : ClassId) (h1 : s.vm.findClass A = some a) (h2 : s.vm.findClass B = some b) : s.vm.assignable a b = false := by
  have hv := Cond.holds_not_iff.mp h
  simp only [Cond.value, h1, h2] at hv
  exact Option.some.inj hv
theorem vd_ncAll (hg : vd_pre.before args s = true) : vd_NC s := by
  have hfl := flat_of_before _ hg
  intro q hq a b h1 h2
  simp only [List.mem_cons, List.not_mem_nil, or_false] at hq
  rcases hq with rfl | rfl | rfl
  · exact vd_ncOne (hfl _ (List.mem_of_getElem? vd_ncs.1)) a b h1 h2
  · exact vd_ncOne (hfl _ (List.mem_of_getElem? vd_ncs.2.1)) a b h1 h2
  · exact vd_ncOne (hfl _ (List.mem_of_getElem? vd_ncs.2.2)) a b h1 h2
theorem vd_tws : lw_tbl[819]? = some (.laysStatic Bundle.tN "UNASSIGNED_STACK" Bundle.steD) ∧ lw_tbl[821]? = some (.laysStatic Bundle.tN "SUPPRESSED_SENTINEL" Bundle.listD) ∧ (flatC vd_pre)[115]? = some (.isRef (.static Bundle.tN "UNASSIGNED_STACK" Bundle.steD)) ∧ (flatC vd_pre)[116]? = some (.isRef (.static Bundle.tN "SUPPRESSED_SENTINEL" Bundle.listD)) ∧ lw_tbl[177]? = some (.initialized Bundle.tN) := by decide +kernel
theorem vd_twAll (hg : vd_pre.before args s = true) (hts : ∀ w ∈ lw_tbl, w.before args s = true) : ∀ w ∈ vd_TW, w.before #[] s = true := by
  have hfl := flat_of_before _ hg
  have r := Vm.Alike.refl s.vm
  have hh : ∀ q, q < s.heap.size → s.heap[q]? = s.heap[q]? := fun _ _ => rfl
  obtain ⟨t1, t2, t3, t4, t5⟩ := vd_tws
  have i0 := hts _ (List.mem_of_getElem? t5)
  intro w hw
  simp only [vd_TW, List.mem_cons, List.not_mem_nil, or_false] at hw
  rcases hw with rfl | rfl | rfl | rfl | rfl
  · exact vd_laysS r hh (hts _ (List.mem_of_getElem? t1))
  · exact vd_laysS r hh (hts _ (List.mem_of_getElem? t2))
  · exact vd_isRefS r hh (hts _ (List.mem_of_getElem? t1)) i0 (hfl _ (List.mem_of_getElem? t3))
  · exact vd_isRefS r hh (hts _ (List.mem_of_getElem? t2)) i0 (hfl _ (List.mem_of_getElem? t4))
  · exact va_tabs rfl rfl i0
/-- the memory at the law's entry: rows of statics, the script -/
def vd_M0 (L : Nat) (xs : Nat → Int32) : vd_M := ((10, 0, 0), (fun o => if o < 8 then 32 else if o = 9 then 32 else 99), (fun o => if o < 8 then vd_zl o else if o = 9 then L else 0), (fun o i => if o < 8 then vd_tab o i else if o = 9 then xs i else 0), (fun _ _ => none), (fun _ _ => 0))
theorem vd_start {L : Nat} {xs : Nat → Int32} (hg : vd_pre.before args s = true) (hts : ∀ w ∈ lw_tbl, w.before args s = true) (hX : va_X b L xs s s.heap) (hbl : b < s.heap.size) :
    ∃ (D : va_G) (z : Nat → Nat), z 9 = b ∧ vd_KW D z s.heap s ∧ vd_Rep D z s.heap (vd_M0 L xs) s s.heap := by
  obtain ⟨D, hD⟩ := vd_classes (s := s) (fun w hw => hts w (vd_tb_sub hw))
  have hz : ∀ k : Nat, ∃ t : Nat, k < 8 → va_Z (vd_zn k).1 (vd_zn k).2 "[I" (.ref t) (fun q : Nat => s.heap.size ≤ q) s s.heap ∧ va_T .int t (vd_zl k) (fun q => .int (vd_tab k q)) (fun q : Nat => s.heap.size ≤ q) s s.heap := by
    intro k
    by_cases hk : k < 8
    · obtain ⟨t, ht⟩ := vd_zAll hg hts k hk
      exact ⟨t, fun _ => ht⟩
    · exact ⟨0, fun h => absurd h hk⟩
  refine ⟨D, fun k => if k < 8 then Classical.choose (hz k) else b, rfl, ⟨hD, fun k hk => ?_, ⟨s, rfl, Vm.Alike.refl _, vd_twAll hg hts⟩, vd_ncAll hg⟩, ?_⟩
  · simp only [if_pos hk]
    exact (Classical.choose_spec (hz k) hk).1
  · have hk0 : ∀ o, vd_k (vd_M0 L xs) o = if o < 8 then 32 else if o = 9 then 32 else 99 := fun _ => rfl
    refine ⟨rfl, Nat.le_refl _, fun _ _ => rfl, fun k hk => ?_, fun o ho hk => ?_, fun o ho => ?_, fun o => ?_⟩
    · by_cases h8 : k < 8
      · simp only [if_pos h8]
        obtain ⟨cell, hc, -⟩ := (Classical.choose_spec (hz k) h8).2
        exact (Array.getElem?_eq_some_iff.mp hc).1
      · simp only [if_neg h8]
        exact hbl
    · rw [hk0] at hk
      split at hk
      · omega
      · split at hk <;> omega
    · have ho : 10 ≤ o := ho
      rw [hk0, if_neg (by omega), if_neg (by omega)]
    · by_cases h8 : o < 8
      · refine Or.inr (Or.inr ⟨by rw [hk0, if_pos h8]; decide, by rw [hk0, if_pos h8]; decide, ?_⟩)
        rw [hk0, if_pos h8]
        obtain ⟨cell, c1, c2, c3, c4, c5, c6, c7⟩ := (Classical.choose_spec (hz o) h8).2
        refine ⟨cell, ?_, c2, c3, ?_, fun q => by omega, fun j hj => ?_, fun q => by omega⟩
        · unfold vd_ad
          rw [if_pos (by omega)]
          simp only [if_pos h8]
          exact c1
        · show (if o < 8 then vd_zl o else if o = 9 then L else 0) ≤ _
          rw [if_pos h8]
          exact c4
        · have hj : j < (if o < 8 then vd_zl o else if o = 9 then L else 0) := hj
          rw [if_pos h8] at hj
          rw [c6 j hj]
          unfold vd_ev
          rw [hk0, if_pos h8, if_neg (by decide), if_pos (by decide)]
          show _ = some (Value.int (if o < 8 then vd_tab o j else if o = 9 then xs j else 0))
          rw [if_pos h8]
      · by_cases h9 : o = 9
        · subst h9
          refine Or.inr (Or.inr ⟨by rw [hk0]; decide, by rw [hk0]; decide, ?_⟩)
          obtain ⟨cell, c1, c2, c3, c4, c5⟩ := hX
          refine ⟨cell, c1, c2, c3, Nat.le_of_eq c4.symm, fun _ => c4, fun j hj => ?_, fun q => by omega⟩
          exact c5 j hj
        · exact Or.inl (by rw [hk0, if_neg h8, if_neg h9])
end VDS
/-! THE CLAIM OUT OF ONE WALK OF THE LAW'S BODY. Your part is whole_start (and what it stands on); all else here is the same for every law, but numbers. -/
def R_law : String := "VideoDecoderLaw"
def lw_P (b : Addr) (xs : List Int32) (args : Array Value) (s : State) : Prop := args = #[.ref b] ∧ s.IntsAt b xs ∧ xs.length ≤ 3072 ∧ (Jvm.Cond.and given_1 narrow_1).before args s = true
def lw_Q (_ : Array Value) (s : State) (o : Outcome) (t : State) : Prop := o = .returned (some (.int 1)) ∧ Framed s o t [] 601024 7293034
def lw_Z (below : List Frame) (a : Array Value) (s : State) : State → Prop := fun t => ∃ o, t.status = .running ∧ Ended t below o ∧ lw_Q a s o t
/-- what holds at the law's entry: the machine, the code, the tables' words (any of lw_tbl by 'hts w (by decide +kernel)'), the script of L ints xs at the cell b, what the Statement gives of the start (any of its parts by flat_of_before) -/
def lw_At (p : Program) (s : State) (m : MethodId) (meth : Method) (c : Code) (b L : Nat) (xs : Nat → Int32) : Prop :=
  p.tables.exec = Jvm.exec ∧ c.code = code ∧ meth.sig.returnType = ret ∧ c.maxLocals = 7 ∧ s.vm.findClass R_law = some m.cls ∧ (∀ w ∈ lw_tbl, w.before #[Value.ref b] s = true) ∧ va_X b L xs s s.heap ∧ b < s.heap.size ∧ meth.locks = false ∧ (Jvm.Cond.and given_1 narrow_1).before #[Value.ref b] s = true
/-- the law's run, as a sentence on the small machine -/
def vd_LawRun : Prop := ∀ (L : Nat) (xs : Nat → Int32), L ≤ 3072 → ∃ (n : Nat) (M' : vd_M), vd_run vd_P0 n 40 0 0 (vd_ent 7 [.ref 9]) [] (vd_M0 L xs) = some (M', .inl (some (.int 1))) ∧ vd_c M' ≤ 601024 ∧ vd_s M' ≤ 7293034
theorem whole_start (hRun : vd_LawRun) (hMu : vd_MultiOK vd_P0) {p : Program} {e : Env} {s : State} {m : MethodId} {below : List Frame} {meth : Method} {c : Code} (l : Launch) {b L : Nat} {xs : Nat → Int32} (hL : L ≤ 3072) (C0 : lw_At p s m meth c b L xs) (htr : e.platform.stackTraces = false) (hxt : c.exceptionTable.isEmpty = true) : W p l e room_1 s m #[Value.ref b] below meth c s.heap [] 0 0 (lw_Z below #[Value.ref b] s) (entryFrame m ([Value.ref b] : List Value).toArray 7) := by
  obtain ⟨hx, hb, hr, hml, hown, hts, hX, hbl, hlocks, hgv⟩ := C0
  obtain ⟨D, z, hz9, hK, hR⟩ := vd_start hgv hts hX hbl
  obtain ⟨n, M', hrun, hc, hs⟩ := hRun L xs hL
  have hFx : vd_Fx vd_P0 0 p m meth c s #[Value.ref b] := ⟨hx, hb, hml, hr, hown, fun w hw => hts w (vd_tb_sub hw), hlocks, fun q => absurd q (by decide), by
    have : c.exceptionTable = #[] := Array.isEmpty_iff.mp hxt
    rw [this]; rfl⟩
  have had : vd_ad z s.heap.size 9 = b := by unfold vd_ad; rw [if_pos (by decide)]; exact hz9
  have hhas := vd_has_ent (vd_ad z s.heap.size) [.ref 9] (nL := 7) (by decide)
  have hW := vd_P0_sound hMu n 40 0 0 (vd_ent 7 [.ref 9]) [] (vd_M0 L xs) M' (.inl (some (.int 1))) hrun p l e room_1 s m #[Value.ref b] below meth c s.heap [] D z s.heap _ 0 0 htr hFx hK hR hhas (fun q hq => by cases hq) (Nat.le_refl _) (Nat.zero_le _) (Nat.zero_le _) hc hs (by decide) (by decide)
  rw [lg_entry_eq]
  have ev : ([Value.ref 9].map (vd_cc (vd_ad z s.heap.size))) = [Value.ref b] := by show [Value.ref (vd_ad z s.heap.size 9)] = _; rw [had]
  rw [ev] at hW
  refine vd_Wmono hW fun t ht => ?_
  obtain ⟨o, z1, z2, z3, z4, z5, LL, z6, z7⟩ := ht
  refine ⟨o, z1, z2, z3, ⟨_, z3⟩, z5, z6.weaken (fun y hy hlt => absurd (z7 y hy) (Nat.not_le.mpr hlt)) hc hs⟩
set_option maxHeartbeats 4000000 in
theorem lw_walk (hRun : vd_LawRun) (hMu : vd_MultiOK vd_P0) (l : Launch) (hfl : l.flags = flags0) (b : Addr) (xs : List Int32) : MetFree l x (headSpec (Jvm.Cond.code x code maxLocals ret :: tables_1) room_1) (lw_P b xs) (fun _ _ _ _ _ => True) lw_Q := by
  refine MetFree.of_bodyS (code := code) (maxLocals := maxLocals) (ret := ret) (by decide) ?_ ?_
  · intro args s m h hn
    obtain ⟨meth, c, h1, h2, h3, h4, h5, h6, -, -⟩ := Cond.code_spec hn (atoms_spec (ws := Jvm.Cond.code x code maxLocals ret :: tables_1) h _ List.mem_cons_self)
    exact ⟨meth, c, h1, h2, h3, h4, h5, h6⟩
  · intro p e s m args below meth c s₁ B hml0 hP _
    obtain ⟨rfl, hx, hbd, hgv⟩ := hP
    obtain ⟨scr, harrAt, hlist, hof, hsmall⟩ := hx
    obtain ⟨hcb, hkn, -, -⟩ := State.arrayAt?_spec harrAt
    have hown : s.vm.findClass R_law = some m.cls := findClass_of_methodNamed B.named
    have hts0 : ∀ c ∈ (Jvm.Cond.code x code maxLocals ret :: tables_1), c.before #[Value.ref b] s = true := atoms_spec (ws := Jvm.Cond.code x code maxLocals ret :: tables_1) B.pre
    have hts : ∀ w ∈ lw_tbl, w.before #[Value.ref b] s = true := k2_hts_sels lw_privs (fun w hw => hts0 w (List.mem_cons_of_mem _ hw)) lw_privs_ok
    have hml : c.maxLocals = 7 := B.maxLocals_eq (hts0 _ List.mem_cons_self)
    have X₀ : Stand p l e room_1 s m #[Value.ref b] below meth c s₁ [] 0 0 := Stand.of_body B
    have hh0 : s₁.heap = s.heap := by rw [B.state]; rfl
    have hsz : scr.slots.size = xs.length := by rw [← Array.length_toList, hlist, List.length_map]
    have hval : ∀ j : Nat, j < xs.length → scr.slots[j]? = some (.int (xs.getD j 0)) := fun j hj => by
      rw [← Array.getElem?_toList, hlist]
      simp [hj]
    have hbl : b < s.heap.size := (Array.getElem?_eq_some_iff.mp hcb).1
    have hX : va_X b xs.length (fun j => xs.getD j 0) s s.heap := ⟨scr, hcb, hof, hkn, hsz, hval⟩
    have K : W p l e room_1 s m #[Value.ref b] below meth c s₁.heap [] 0 0 (lw_Z below #[Value.ref b] s) (entryFrame m ([Value.ref b] : List Value).toArray 7) := by
      rw [hh0]
      exact whole_start hRun hMu l hbd ⟨B.exec, B.bytes, B.returns, hml, hown, hts, hX, hbl, B.notSynchronized, hgv⟩ (Launch.traces_off hfl B.admits) (BodyLoose.noHandlers B (hts0 _ List.mem_cons_self))
    obtain ⟨t, a1, o, b1, b2, b3⟩ := K s₁ rfl X₀
    exact ⟨t, o, a1, b1, b2, b3⟩
theorem lw_pre_spec {args : Array Value} {s : State} (h : (Jvm.Cond.and given_1 narrow_1).before args s = true) (hr : rest_1_c.before args s = true) : ∃ (b : Addr) (xs : List Int32), lw_P b xs args s := by
  have hs := flat_of_before _ h
  have hq := flat_of_before _ hr
  have hc : (Cond.count 1).before args s = true := hs _ (by decide +kernel)
  have harr : (Cond.arrayOf (.arg 0) .int).before args s = true := hs _ (by decide +kernel)
  have hle : (Cond.le (.length (.arg 0)) (.int 3072)).before args s = true := hs _ (by decide +kernel)
  have hlen : (Cond.isInt (.length (.arg 0))).before args s = true := hq _ (by decide +kernel)
  have hall : (Cond.all (.arg 0) (.isInt (.elem (.arg 0) (.index 0)))).before args s = true := hq _ (by decide +kernel)
  obtain ⟨b, xs, hb, hx⟩ := State.ints_of_pre rfl harr hlen hall
  have hsm : xs.length < 2 ^ 31 := hx.choose_spec.2.2.2
  have hev : (Term.length (.arg 0)).eval args s none [] s = some (.int xs.length.toInt32) := hx.length_eval hb
  have hv := Cond.le_ints hev (show (Term.int 3072).eval args s none [] s = some (.int 3072) from rfl)
  have hd : xs.length.toInt32 ≤ 3072 := by
    simpa [Cond.before, Cond.holds, hv] using hle
  have hN : xs.length ≤ 3072 := (Int32.ofNat_le_ofNat hsm (by decide)).mp (show Int32.ofNat xs.length ≤ Int32.ofNat 3072 from hd)
  exact ⟨b, xs, Cond.one_arg hc (show args[0]? = some (.ref b) from hb), hx, hN, h⟩
theorem lw_comes (hRun : vd_LawRun) (hMu : vd_MultiOK vd_P0) (l : Launch) (hfl : l.flags = flags0) : Comes l x (Jvm.Cond.code x code maxLocals ret :: tables_1) room_1 (fun tb e args s => Calls_1 tb e args s ∧ rest_1 tb e args s ∧ Pre_1 tb e args s)
    (fun _ _ args s o t => lw_Q args s o t) := by
  intro p e ha hc hk s m args below hf hfit hheap happ hpre
  obtain ⟨b, xs, hP⟩ := lw_pre_spec hpre.2.2 hpre.2.1
  obtain ⟨k, o, h1, h2, h3, hQ⟩ := lw_walk hRun hMu l hfl b xs p e ha hc hk s m args below hf ((Spec.applies_iff_loose hf).mp happ).1 hP trivial
  exact ⟨k, o, h1, h2, h3, hQ⟩
theorem lw_frame {s t : State} {o : Outcome} {args : Array Value} (h : Framed s o t [] 601024 7293034) :
    Framed s o t (fieldLocs frame_1_writes args s ++ arrayLocs frame_1_arrays args s ++ staticLocs frame_1_statics s) 601024 7293034 := h
theorem lw_limb (hRun : vd_LawRun) (hMu : vd_MultiOK vd_P0) (L : Cond) (hL : ∀ (args : Array Value) (s t : State), L.after args s (.returned (some (.int 1))) t = true) :
    ArmFor flags0 classFile x code maxLocals ret World_1 tables_1 room_1 Calls_1 rest_1 Pre_1
      (fun tb e a s o t => postC L tb e a s o t ∧ Framed s o t (fieldLocs frame_1_writes a s ++ arrayLocs frame_1_arrays a s ++ staticLocs frame_1_statics s) 601024 7293034) := by
  intro l hfl _ _ p e ha hc hk s m args below hf hfit hheap happ hpre
  obtain ⟨k, o, h1, h2, h3, rfl, hF⟩ := lw_comes hRun hMu l hfl p e ha hc hk s m args below hf hfit hheap happ hpre
  exact ⟨k, _, h1, h2, h3, hL args s _, lw_frame hF⟩
theorem vd_claim (hRun : vd_LawRun) (hMu : vd_MultiOK vd_P0) : Claimed_1_1 ∧ Claimed_1_2 := ⟨lw_limb hRun hMu limb_1_1 (fun args s t => by simp [limb_1_1, Cond.after, Cond.holds, Cond.value]), lw_limb hRun hMu limb_1_2 (fun args s t => Cond.after_iff.mpr (by
  first | (rw [show limb_1_2 = Cond.eq .result (.int 1) from rfl, Cond.eq_ints (x := 1) (y := 1) rfl rfl]; simp; done) | (simp [limb_1_2, Cond.value, Term.eval]; done)))⟩
