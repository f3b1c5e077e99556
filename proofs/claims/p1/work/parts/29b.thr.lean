/-! ===== throws and handlers of the tables ===== -/
/-- atoms by their places: all but the two that speak of what a static holds -/
def vd_isIsRef (w : Cond) : Bool := match w with
  | .isRef _ => true
  | _ => false
theorem vd_atoms {ws : List Cond} {ps : List Nat} (h : ws.filter (fun w => !vd_isIsRef w) = ps.filterMap (fun i => lw_tbl[i]?)) (hg : ws.all (fun w => vd_gw w || decide (w ∈ vd_TW)) = true) : ∀ w ∈ ws, w ∈ vd_tb ∨ w ∈ vd_TW := by
  intro w hw
  have hg1 := List.all_eq_true.mp hg w hw
  simp only [Bool.or_eq_true, decide_eq_true_eq] at hg1
  rcases hg1 with q | q
  · refine Or.inl (vd_tb_mem ?_ q)
    have hn : vd_isIsRef w = false := by
      cases w <;> first | rfl | (simp [vd_gw, Cond.onTables] at q)
    have h1 : w ∈ ws.filter (fun w => !vd_isIsRef w) := List.mem_filter.mpr ⟨hw, by simp [hn]⟩
    rw [h] at h1
    obtain ⟨i, -, hi⟩ := List.mem_filterMap.mp h1
    exact List.mem_of_getElem? hi
  · exact Or.inr q
set_option maxRecDepth 100000 in
theorem vd_at0 : ∀ w ∈ Bundle.ownAtoms0 "VideoDecoder" 107 "java/lang/IllegalStateException" ["java/lang/RuntimeException", "java/lang/Exception"], w ∈ vd_tb ∨ w ∈ vd_TW := vd_atoms (ps := [177, 814, 823, 830, 833, 835, 815, 816, 203, 204, 817, 822, 831, 848, 804, 849, 806, 850, 808, 818, 819, 820, 821, 810, 837, 838, 839, 840, 795, 840, 841, 842, 843, 797, 843, 844, 845, 815, 799, 836, 793, 794, 801, 802, 803, 805, 807, 809, 813, 812, 811]) (by decide +kernel) (by decide +kernel)
set_option maxRecDepth 100000 in
theorem vd_at1 : ∀ w ∈ Bundle.ownAtoms0 "VideoDecoder" 114 "java/lang/IllegalArgumentException" ["java/lang/RuntimeException", "java/lang/Exception"], w ∈ vd_tb ∨ w ∈ vd_TW := vd_atoms (ps := [177, 814, 823, 830, 833, 835, 815, 816, 203, 204, 817, 822, 831, 848, 804, 849, 806, 850, 808, 818, 819, 820, 821, 810, 881, 882, 883, 840, 795, 840, 841, 842, 843, 797, 843, 844, 845, 815, 799, 880, 872, 873, 874, 826, 875, 876, 877, 878, 813, 812, 879]) (by decide +kernel) (by decide +kernel)
set_option maxRecDepth 100000 in
theorem vd_at2 : ∀ w ∈ Bundle.ownAtoms0 "VideoDecoder" 139 "java/lang/UnsupportedOperationException" ["java/lang/RuntimeException", "java/lang/Exception"], w ∈ vd_tb ∨ w ∈ vd_TW := vd_atoms (ps := [177, 814, 823, 830, 833, 835, 815, 816, 203, 204, 817, 822, 831, 848, 804, 849, 806, 850, 808, 818, 819, 820, 821, 810, 1772, 1773, 1774, 840, 795, 840, 841, 842, 843, 797, 843, 844, 845, 815, 799, 1771, 1763, 1764, 1765, 828, 1766, 1767, 1768, 1769, 813, 812, 1770]) (by decide +kernel) (by decide +kernel)
set_option maxRecDepth 100000 in
theorem vd_at3 : ∀ w ∈ Bundle.ownAtoms0 "VideoDecoder" 146 "java/util/NoSuchElementException" ["java/lang/RuntimeException", "java/lang/Exception"], w ∈ vd_tb ∨ w ∈ vd_TW := vd_atoms (ps := [177, 814, 823, 830, 833, 835, 815, 816, 203, 204, 817, 822, 831, 848, 804, 849, 806, 850, 808, 818, 819, 820, 821, 810, 1807, 1808, 1809, 840, 795, 840, 841, 842, 843, 797, 843, 844, 845, 815, 799, 1806, 1798, 1799, 1800, 829, 1801, 1802, 1803, 1804, 813, 812, 1805]) (by decide +kernel) (by decide +kernel)
set_option maxRecDepth 100000 in
theorem vd_at4 : ∀ w ∈ Bundle.ownAtoms0 "VideoDecoder" 155 "java/lang/IndexOutOfBoundsException" ["java/lang/RuntimeException", "java/lang/Exception"], w ∈ vd_tb ∨ w ∈ vd_TW := vd_atoms (ps := [177, 814, 823, 830, 833, 835, 815, 816, 203, 204, 817, 822, 831, 848, 804, 849, 806, 850, 808, 818, 819, 820, 821, 810, 1824, 1825, 1826, 840, 795, 840, 841, 842, 843, 797, 843, 844, 845, 815, 799, 1823, 1815, 1816, 1817, 827, 1818, 1819, 1820, 1821, 813, 812, 1822]) (by decide +kernel) (by decide +kernel)
def vd_thr : List (Nat × Nat × Instr × Nat × Nat) := [(17, 12, (Instr.new 105), 14, 107), (20, 12, (Instr.new 112), 15, 114), (22, 173, (Instr.new 137), 16, 139), (151, 9, (Instr.new 112), 15, 114), (153, 12, (Instr.new 144), 17, 146), (153, 59, (Instr.new 153), 18, 155), (156, 10, (Instr.new 144), 17, 146), (156, 27, (Instr.new 153), 18, 155), (158, 10, (Instr.new 144), 17, 146), (158, 27, (Instr.new 112), 15, 114), (160, 20, (Instr.new 153), 18, 155), (162, 16, (Instr.new 153), 18, 155), (162, 34, (Instr.new 112), 15, 114)]
theorem vd_thr_all : (List.range vd_es.length).all (fun k => (vd_es.getD k []).all (fun q => !decide (q.2.1.2.2.1 = 7) || (decide (q.2.1.2.1 = 3) && vd_thr.any (fun z => decide (z = (k, q.1, q.2.1.1, q.2.1.2.2.2.1, q.2.1.2.2.2.2.1)))))) = true := by decide +kernel
theorem vd_thr_mem {k pc : Nat} {i : Instr} {len a b : Nat} {cv : Value} (h : vd_P0.1 k pc = some (i, len, 7, a, b, cv)) : len = 3 ∧ (k, pc, i, a, b) ∈ vd_thr := by
  have hx : vd_pI k pc = some (i, len, 7, a, b, cv) := h
  unfold vd_pI at hx
  split at hx
  · rename_i l hl
    obtain ⟨w, hw⟩ := vd_lk_mem l pc _ hx
    have hk : k < vd_es.length := (List.getElem?_eq_some_iff.mp hl).1
    have h1 := List.all_eq_true.mp vd_thr_all k (List.mem_range.mpr hk)
    have hg : vd_es.getD k [] = l := by rw [List.getD_eq_getElem?_getD, hl]; rfl
    rw [hg] at h1
    have h2 := List.all_eq_true.mp h1 _ hw
    simp only [Bool.or_eq_true, Bool.and_eq_true, Bool.not_eq_true', decide_eq_false_iff_not, decide_eq_true_eq, List.any_eq_true] at h2
    rcases h2 with q | ⟨q1, z, q2, q3⟩
    · exact absurd trivial q
    · exact ⟨q1, q3 ▸ q2⟩
  · cases hx
theorem vd_fits : Bundle.fit "java/lang/RuntimeException" = true ∧ Bundle.fit "java/lang/Exception" = true ∧ Bundle.fit "java/lang/IllegalStateException" = true ∧ Bundle.fit "java/lang/IllegalArgumentException" = true ∧ Bundle.fit "java/lang/UnsupportedOperationException" = true ∧ Bundle.fit "java/util/NoSuchElementException" = true ∧ Bundle.fit "java/lang/IndexOutOfBoundsException" = true := by decide +kernel
theorem vd_P0_TOK : vd_TOK vd_P0 := by
  intro k pc i len a b cv h
  obtain ⟨rfl, hm⟩ := vd_thr_mem h
  clear h
  have hn : ∀ n ∈ ["java/lang/RuntimeException", "java/lang/Exception"], Bundle.fit n = true := by
    intro n hn
    simp only [List.mem_cons, List.not_mem_nil, or_false] at hn
    rcases hn with rfl | rfl
    · exact vd_fits.1
    · exact vd_fits.2.1
  simp only [vd_thr, List.mem_cons, List.not_mem_nil, or_false, Prod.mk.injEq] at hm
  rcases hm with ⟨rfl, rfl, rfl, rfl, rfl⟩ | ⟨rfl, rfl, rfl, rfl, rfl⟩ | ⟨rfl, rfl, rfl, rfl, rfl⟩ | ⟨rfl, rfl, rfl, rfl, rfl⟩ | ⟨rfl, rfl, rfl, rfl, rfl⟩ | ⟨rfl, rfl, rfl, rfl, rfl⟩ | ⟨rfl, rfl, rfl, rfl, rfl⟩ | ⟨rfl, rfl, rfl, rfl, rfl⟩ | ⟨rfl, rfl, rfl, rfl, rfl⟩ | ⟨rfl, rfl, rfl, rfl, rfl⟩ | ⟨rfl, rfl, rfl, rfl, rfl⟩ | ⟨rfl, rfl, rfl, rfl, rfl⟩ | ⟨rfl, rfl, rfl, rfl, rfl⟩
  · exact ⟨rfl, vd_wi_mem (w := 177) (by decide +kernel), 105, "java/lang/IllegalStateException", vd_T14, ["java/lang/RuntimeException", "java/lang/Exception"], rfl, rfl, rfl, by decide, vd_wi_mem (w := 792) (by decide +kernel), vd_wi_mem (w := 793) (by decide +kernel), vd_wi_mem (w := 180) (by decide +kernel), vd_fits.2.2.1, hn, rfl, vd_at0, by decide +kernel, by decide +kernel, by decide +kernel⟩
  · exact ⟨rfl, vd_wi_mem (w := 177) (by decide +kernel), 112, "java/lang/IllegalArgumentException", vd_T15, ["java/lang/RuntimeException", "java/lang/Exception"], rfl, rfl, rfl, by decide, vd_wi_mem (w := 871) (by decide +kernel), vd_wi_mem (w := 872) (by decide +kernel), vd_wi_mem (w := 181) (by decide +kernel), vd_fits.2.2.2.1, hn, rfl, vd_at1, by decide +kernel, by decide +kernel, by decide +kernel⟩
  · exact ⟨rfl, vd_wi_mem (w := 177) (by decide +kernel), 137, "java/lang/UnsupportedOperationException", vd_T16, ["java/lang/RuntimeException", "java/lang/Exception"], rfl, rfl, rfl, by decide, vd_wi_mem (w := 1762) (by decide +kernel), vd_wi_mem (w := 1763) (by decide +kernel), vd_wi_mem (w := 195) (by decide +kernel), vd_fits.2.2.2.2.1, hn, rfl, vd_at2, by decide +kernel, by decide +kernel, by decide +kernel⟩
  · exact ⟨rfl, vd_wi_mem (w := 177) (by decide +kernel), 112, "java/lang/IllegalArgumentException", vd_T15, ["java/lang/RuntimeException", "java/lang/Exception"], rfl, rfl, rfl, by decide, vd_wi_mem (w := 871) (by decide +kernel), vd_wi_mem (w := 872) (by decide +kernel), vd_wi_mem (w := 181) (by decide +kernel), vd_fits.2.2.2.1, hn, rfl, vd_at1, by decide +kernel, by decide +kernel, by decide +kernel⟩
  · exact ⟨rfl, vd_wi_mem (w := 177) (by decide +kernel), 144, "java/util/NoSuchElementException", vd_T17, ["java/lang/RuntimeException", "java/lang/Exception"], rfl, rfl, rfl, by decide, vd_wi_mem (w := 1797) (by decide +kernel), vd_wi_mem (w := 1798) (by decide +kernel), vd_wi_mem (w := 196) (by decide +kernel), vd_fits.2.2.2.2.2.1, hn, rfl, vd_at3, by decide +kernel, by decide +kernel, by decide +kernel⟩
  · exact ⟨rfl, vd_wi_mem (w := 177) (by decide +kernel), 153, "java/lang/IndexOutOfBoundsException", vd_T18, ["java/lang/RuntimeException", "java/lang/Exception"], rfl, rfl, rfl, by decide, vd_wi_mem (w := 1814) (by decide +kernel), vd_wi_mem (w := 1815) (by decide +kernel), vd_wi_mem (w := 193) (by decide +kernel), vd_fits.2.2.2.2.2.2, hn, rfl, vd_at4, by decide +kernel, by decide +kernel, by decide +kernel⟩
  · exact ⟨rfl, vd_wi_mem (w := 177) (by decide +kernel), 144, "java/util/NoSuchElementException", vd_T17, ["java/lang/RuntimeException", "java/lang/Exception"], rfl, rfl, rfl, by decide, vd_wi_mem (w := 1797) (by decide +kernel), vd_wi_mem (w := 1798) (by decide +kernel), vd_wi_mem (w := 196) (by decide +kernel), vd_fits.2.2.2.2.2.1, hn, rfl, vd_at3, by decide +kernel, by decide +kernel, by decide +kernel⟩
  · exact ⟨rfl, vd_wi_mem (w := 177) (by decide +kernel), 153, "java/lang/IndexOutOfBoundsException", vd_T18, ["java/lang/RuntimeException", "java/lang/Exception"], rfl, rfl, rfl, by decide, vd_wi_mem (w := 1814) (by decide +kernel), vd_wi_mem (w := 1815) (by decide +kernel), vd_wi_mem (w := 193) (by decide +kernel), vd_fits.2.2.2.2.2.2, hn, rfl, vd_at4, by decide +kernel, by decide +kernel, by decide +kernel⟩
  · exact ⟨rfl, vd_wi_mem (w := 177) (by decide +kernel), 144, "java/util/NoSuchElementException", vd_T17, ["java/lang/RuntimeException", "java/lang/Exception"], rfl, rfl, rfl, by decide, vd_wi_mem (w := 1797) (by decide +kernel), vd_wi_mem (w := 1798) (by decide +kernel), vd_wi_mem (w := 196) (by decide +kernel), vd_fits.2.2.2.2.2.1, hn, rfl, vd_at3, by decide +kernel, by decide +kernel, by decide +kernel⟩
  · exact ⟨rfl, vd_wi_mem (w := 177) (by decide +kernel), 112, "java/lang/IllegalArgumentException", vd_T15, ["java/lang/RuntimeException", "java/lang/Exception"], rfl, rfl, rfl, by decide, vd_wi_mem (w := 871) (by decide +kernel), vd_wi_mem (w := 872) (by decide +kernel), vd_wi_mem (w := 181) (by decide +kernel), vd_fits.2.2.2.1, hn, rfl, vd_at1, by decide +kernel, by decide +kernel, by decide +kernel⟩
  · exact ⟨rfl, vd_wi_mem (w := 177) (by decide +kernel), 153, "java/lang/IndexOutOfBoundsException", vd_T18, ["java/lang/RuntimeException", "java/lang/Exception"], rfl, rfl, rfl, by decide, vd_wi_mem (w := 1814) (by decide +kernel), vd_wi_mem (w := 1815) (by decide +kernel), vd_wi_mem (w := 193) (by decide +kernel), vd_fits.2.2.2.2.2.2, hn, rfl, vd_at4, by decide +kernel, by decide +kernel, by decide +kernel⟩
  · exact ⟨rfl, vd_wi_mem (w := 177) (by decide +kernel), 153, "java/lang/IndexOutOfBoundsException", vd_T18, ["java/lang/RuntimeException", "java/lang/Exception"], rfl, rfl, rfl, by decide, vd_wi_mem (w := 1814) (by decide +kernel), vd_wi_mem (w := 1815) (by decide +kernel), vd_wi_mem (w := 193) (by decide +kernel), vd_fits.2.2.2.2.2.2, hn, rfl, vd_at4, by decide +kernel, by decide +kernel, by decide +kernel⟩
  · exact ⟨rfl, vd_wi_mem (w := 177) (by decide +kernel), 112, "java/lang/IllegalArgumentException", vd_T15, ["java/lang/RuntimeException", "java/lang/Exception"], rfl, rfl, rfl, by decide, vd_wi_mem (w := 871) (by decide +kernel), vd_wi_mem (w := 872) (by decide +kernel), vd_wi_mem (w := 181) (by decide +kernel), vd_fits.2.2.2.1, hn, rfl, vd_at1, by decide +kernel, by decide +kernel, by decide +kernel⟩
theorem vd_P0_HOK : vd_HOK vd_P0 := by
  intro k pc q h hh
  have hh : vd_hnd (vd_HN k) pc q = some h := hh
  unfold vd_HN at hh
  split at hh
  · simp only [vd_hnd] at hh
    split at hh
    · rename_i hc
      obtain ⟨rfl, rfl⟩ := hc
      cases hh
      refine ⟨by decide, "java/lang/IllegalStateException", vd_T14, rfl, fun p l e s m args meth c cC L st hp hFx hN hX => ?_⟩
      exact vd_row1 (P := vd_P0) (l := l) (X := "java/lang/IllegalStateException") rfl hp hFx hX ⟨by decide, by decide⟩ (by decide) (vd_wi_mem (w := 787) (by decide +kernel))
    · cases hh
  · simp only [vd_hnd] at hh
    split at hh
    · rename_i hc
      obtain ⟨rfl, rfl⟩ := hc
      cases hh
      refine ⟨by decide, "java/lang/IllegalArgumentException", vd_T15, rfl, fun p l e s m args meth c cC L st hp hFx hN hX => ?_⟩
      exact vd_row1 (P := vd_P0) (l := l) (X := "java/lang/IllegalArgumentException") rfl hp hFx hX ⟨by decide, by decide⟩ (by decide) (vd_wi_mem (w := 866) (by decide +kernel))
    · cases hh
  · simp only [vd_hnd] at hh
    split at hh
    · rename_i hc
      obtain ⟨rfl, rfl⟩ := hc
      cases hh
      refine ⟨by decide, "java/lang/UnsupportedOperationException", vd_T16, rfl, fun p l e s m args meth c cC L st hp hFx hN hX => ?_⟩
      exact vd_row1 (P := vd_P0) (l := l) (X := "java/lang/UnsupportedOperationException") rfl hp hFx hX ⟨by decide, by decide⟩ (by decide) (vd_wi_mem (w := 889) (by decide +kernel))
    · cases hh
  · simp only [vd_hnd] at hh
    split at hh
    · rename_i hc
      obtain ⟨rfl, rfl⟩ := hc
      cases hh
      refine ⟨by decide, "java/lang/IllegalArgumentException", vd_T15, rfl, fun p l e s m args meth c cC L st hp hFx hN hX => ?_⟩
      exact vd_row1 (P := vd_P0) (l := l) (X := "java/lang/IllegalArgumentException") rfl hp hFx hX ⟨by decide, by decide⟩ (by decide) (vd_wi_mem (w := 866) (by decide +kernel))
    · cases hh
  · simp only [vd_hnd] at hh
    split at hh
    · rename_i hc
      obtain ⟨rfl, rfl⟩ := hc
      cases hh
      refine ⟨by decide, "java/util/NoSuchElementException", vd_T17, rfl, fun p l e s m args meth c cC L st hp hFx hN hX => ?_⟩
      exact vd_row2a (P := vd_P0) (l := l) (X := "java/util/NoSuchElementException") rfl hp hFx hX ⟨by decide, by decide⟩ (by decide) (vd_wi_mem (w := 1787) (by decide +kernel))
    · split at hh
      · rename_i hc
        obtain ⟨rfl, rfl⟩ := hc
        cases hh
        refine ⟨by decide, "java/lang/IndexOutOfBoundsException", vd_T18, rfl, fun p l e s m args meth c cC L st hp hFx hN hX => ?_⟩
        exact vd_row2 (P := vd_P0) (l := l) (X := "java/lang/IndexOutOfBoundsException") (Y := "java/util/NoSuchElementException") rfl hp hFx hN hX ⟨⟨by decide, by decide⟩, ⟨by decide, by decide⟩⟩ ⟨by decide, by decide⟩ (vd_wi_mem (w := 1787) (by decide +kernel)) (vd_wi_mem (w := 1788) (by decide +kernel)) (by simp)
      · cases hh
  · simp only [vd_hnd] at hh
    split at hh
    · rename_i hc
      obtain ⟨rfl, rfl⟩ := hc
      cases hh
      refine ⟨by decide, "java/util/NoSuchElementException", vd_T17, rfl, fun p l e s m args meth c cC L st hp hFx hN hX => ?_⟩
      exact vd_row2a (P := vd_P0) (l := l) (X := "java/util/NoSuchElementException") rfl hp hFx hX ⟨by decide, by decide⟩ (by decide) (vd_wi_mem (w := 1787) (by decide +kernel))
    · split at hh
      · rename_i hc
        obtain ⟨rfl, rfl⟩ := hc
        cases hh
        refine ⟨by decide, "java/lang/IndexOutOfBoundsException", vd_T18, rfl, fun p l e s m args meth c cC L st hp hFx hN hX => ?_⟩
        exact vd_row2 (P := vd_P0) (l := l) (X := "java/lang/IndexOutOfBoundsException") (Y := "java/util/NoSuchElementException") rfl hp hFx hN hX ⟨⟨by decide, by decide⟩, ⟨by decide, by decide⟩⟩ ⟨by decide, by decide⟩ (vd_wi_mem (w := 1787) (by decide +kernel)) (vd_wi_mem (w := 1788) (by decide +kernel)) (by simp)
      · cases hh
  · simp only [vd_hnd] at hh
    split at hh
    · rename_i hc
      obtain ⟨rfl, rfl⟩ := hc
      cases hh
      refine ⟨by decide, "java/util/NoSuchElementException", vd_T17, rfl, fun p l e s m args meth c cC L st hp hFx hN hX => ?_⟩
      exact vd_row2a (P := vd_P0) (l := l) (X := "java/util/NoSuchElementException") rfl hp hFx hX ⟨by decide, by decide⟩ (by decide) (vd_wi_mem (w := 1787) (by decide +kernel))
    · split at hh
      · rename_i hc
        obtain ⟨rfl, rfl⟩ := hc
        cases hh
        refine ⟨by decide, "java/lang/IllegalArgumentException", vd_T15, rfl, fun p l e s m args meth c cC L st hp hFx hN hX => ?_⟩
        exact vd_row2 (P := vd_P0) (l := l) (X := "java/lang/IllegalArgumentException") (Y := "java/util/NoSuchElementException") rfl hp hFx hN hX ⟨⟨by decide, by decide⟩, ⟨by decide, by decide⟩⟩ ⟨by decide, by decide⟩ (vd_wi_mem (w := 1787) (by decide +kernel)) (vd_wi_mem (w := 866) (by decide +kernel)) (by simp)
      · cases hh
  · simp only [vd_hnd] at hh
    split at hh
    · rename_i hc
      obtain ⟨rfl, rfl⟩ := hc
      cases hh
      refine ⟨by decide, "java/lang/IndexOutOfBoundsException", vd_T18, rfl, fun p l e s m args meth c cC L st hp hFx hN hX => ?_⟩
      exact vd_row1 (P := vd_P0) (l := l) (X := "java/lang/IndexOutOfBoundsException") rfl hp hFx hX ⟨by decide, by decide⟩ (by decide) (vd_wi_mem (w := 1788) (by decide +kernel))
    · cases hh
  · simp only [vd_hnd] at hh
    split at hh
    · rename_i hc
      obtain ⟨rfl, rfl⟩ := hc
      cases hh
      refine ⟨by decide, "java/lang/IndexOutOfBoundsException", vd_T18, rfl, fun p l e s m args meth c cC L st hp hFx hN hX => ?_⟩
      exact vd_row2a (P := vd_P0) (l := l) (X := "java/lang/IndexOutOfBoundsException") rfl hp hFx hX ⟨by decide, by decide⟩ (by decide) (vd_wi_mem (w := 1788) (by decide +kernel))
    · split at hh
      · rename_i hc
        obtain ⟨rfl, rfl⟩ := hc
        cases hh
        refine ⟨by decide, "java/lang/IllegalArgumentException", vd_T15, rfl, fun p l e s m args meth c cC L st hp hFx hN hX => ?_⟩
        exact vd_row2 (P := vd_P0) (l := l) (X := "java/lang/IllegalArgumentException") (Y := "java/lang/IndexOutOfBoundsException") rfl hp hFx hN hX ⟨⟨by decide, by decide⟩, ⟨by decide, by decide⟩⟩ ⟨by decide, by decide⟩ (vd_wi_mem (w := 1788) (by decide +kernel)) (vd_wi_mem (w := 866) (by decide +kernel)) (by simp)
      · cases hh
  · cases hh
theorem vd_P0_sound (hMu : vd_MultiOK vd_P0) : ∀ n, vd_WS vd_P0 n := vd_sound vd_P0_ok (vd_throwOK vd_P0_ok vd_P0_TOK) (vd_catchOK vd_P0_HOK) hMu
