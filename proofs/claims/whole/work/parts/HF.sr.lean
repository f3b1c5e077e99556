/-! ===== slots and the picture shown, reference ===== -/
/-- the nine holders of the reference -/
def vd_hor (N : vd_M) (h : Nat) : Option Nat := if h < 8 then vd_r N 66 h else vd_r N 63 7
def vd_ct (H : Nat → Option Nat) (p : Nat) : Nat → Nat
  | 0 => 0
  | n + 1 => vd_ct H p n + if H n = some p then 1 else 0
theorem vd_ct_le (H : Nat → Option Nat) (p : Nat) : ∀ n, vd_ct H p n ≤ n := by
  intro n
  induction n with
  | zero => exact Nat.le_refl 0
  | succ n ih =>
    have : vd_ct H p (n + 1) = vd_ct H p n + if H n = some p then 1 else 0 := rfl
    rw [this]
    split <;> omega
theorem vd_ct_pos {H : Nat → Option Nat} {p : Nat} : ∀ n, vd_ct H p n ≠ 0 → ∃ h, h < n ∧ H h = some p := by
  intro n
  induction n with
  | zero => intro h; exact absurd rfl h
  | succ n ih =>
    intro h
    have e : vd_ct H p (n + 1) = vd_ct H p n + if H n = some p then 1 else 0 := rfl
    by_cases c : H n = some p
    · exact ⟨n, by omega, c⟩
    · rw [e, if_neg c] at h
      obtain ⟨h', a, b⟩ := ih h
      exact ⟨h', by omega, b⟩
theorem vd_ct_set {H H' : Nat → Option Nat} {h m : Nat} (hne : ∀ k, k < m → k ≠ h → H' k = H k) (p : Nat) : ∀ n, n ≤ m → (vd_ct H' p n : Int) = (vd_ct H p n : Int) + (if h < n then ((if H' h = some p then 1 else 0) - (if H h = some p then 1 else 0)) else 0) := by
  intro n
  induction n with
  | zero => intro _; rfl
  | succ n ih =>
    intro hn
    have e : vd_ct H p (n + 1) = vd_ct H p n + if H n = some p then 1 else 0 := rfl
    have e' : vd_ct H' p (n + 1) = vd_ct H' p n + if H' n = some p then 1 else 0 := rfl
    have i := ih (by omega)
    rw [e, e']
    by_cases c : n = h
    · subst c
      rw [if_neg (Nat.lt_irrefl n)] at i
      rw [if_pos (Nat.lt_succ_self n)]
      split <;> split <;> omega
    · rw [hne n (by omega) c]
      by_cases c2 : h < n
      · rw [if_pos c2] at i
        rw [if_pos (show h < n + 1 by omega)]
        omega
      · rw [if_neg c2] at i
        rw [if_neg (show ¬ h < n + 1 by omega)]
        omega
/-- how often each picture is held -/
def vd_HDR (N : vd_M) (g : Nat → Nat → Int32) : Prop := (∀ k, k < 11 → g (129 + 5 * k) 3 = vd_I ((vd_ct (vd_hor N) (129 + 5 * k) 9 : Nat) : Int)) ∧ ∀ h p, h < 9 → vd_hor N h = some p → ∃ k, k < 11 ∧ p = 129 + 5 * k
theorem vd_HDR.free {N : vd_M} {g : Nat → Nat → Int32} (_h : vd_HDR N g) : ∃ j, j < 11 ∧ vd_ct (vd_hor N) (129 + 5 * j) 9 = 0 := by
  refine Classical.byContradiction fun c => ?_
  have a : ∀ k, k < 11 → ∃ x, x < 9 ∧ vd_hor N x = some (129 + 5 * k) := fun k hk => vd_ct_pos 9 (fun q => c ⟨k, hk, q⟩)
  obtain ⟨i, j, hij, hj, e⟩ := vd_pigeon 9 (fun k => if hk : k < 11 then Classical.choose (a k hk) else 0) (fun k hk => by
    rw [dif_pos (show k < 11 by omega)]
    exact (Classical.choose_spec (a k (by omega))).1)
  rw [dif_pos (show i < 11 by omega), dif_pos (show j < 11 by omega)] at e
  have s1 := (Classical.choose_spec (a i (by omega))).2
  have s2 := (Classical.choose_spec (a j (by omega))).2
  rw [e, s2] at s1
  have := Option.some.inj s1
  omega
theorem vd_HDR.keep {N N' : vd_M} {g g' : Nat → Nat → Int32} (h : vd_HDR N g) (hH : ∀ x, x < 9 → vd_hor N' x = vd_hor N x) (hg : ∀ k, k < 11 → g' (129 + 5 * k) 3 = g (129 + 5 * k) 3) : vd_HDR N' g' := by
  have e : ∀ p n, n ≤ 9 → vd_ct (vd_hor N') p n = vd_ct (vd_hor N) p n := fun p n => by
    induction n with
    | zero => intro _; rfl
    | succ n ih =>
      intro hn
      have e1 : vd_ct (vd_hor N) p (n + 1) = vd_ct (vd_hor N) p n + if vd_hor N n = some p then 1 else 0 := rfl
      have e2 : vd_ct (vd_hor N') p (n + 1) = vd_ct (vd_hor N') p n + if vd_hor N' n = some p then 1 else 0 := rfl
      rw [e1, e2, ih (by omega), hH n (by omega)]
  exact ⟨fun k hk => by rw [hg k hk, h.1 k hk, e _ 9 (Nat.le_refl 9)], fun x p hx q => h.2 x p hx (by rw [← hH x hx]; exact q)⟩
theorem vd_HDR.step {N N' : vd_M} {g g' : Nat → Nat → Int32} (hd : vd_HDR N g) {x j : Nat} (hx : x < 9) (hj : j < 11) (hv : vd_hor N' x = some (129 + 5 * j)) (hne : ∀ k, k < 9 → k ≠ x → vd_hor N' k = vd_hor N k) (hg : ∀ k, k < 11 → g' (129 + 5 * k) 3 = g (129 + 5 * k) 3 + vd_I ((if k = j then 1 else 0) - (if vd_hor N x = some (129 + 5 * k) then 1 else 0))) : vd_HDR N' g' := by
  refine ⟨fun k hk => ?_, fun h p hh q => ?_⟩
  · rw [hg k hk, hd.1 k hk, vd_I_add, vd_ct_set hne (129 + 5 * k) 9 (Nat.le_refl 9), if_pos hx, hv]
    by_cases c : k = j
    · subst c
      rw [if_pos rfl, if_pos rfl]
    · rw [if_neg c, if_neg (show ¬ (some (129 + 5 * j) = some (129 + 5 * k)) from fun q => c (by have := Option.some.inj q; omega))]
  · by_cases c : h = x
    · subst c
      rw [hv] at q
      exact ⟨j, hj, (Option.some.inj q).symm⟩
    · rw [hne h hh c] at q
      exact hd.2 h p hh q
section VDHR
variable {N : vd_M}
theorem vd_SR.sr66 (h : vd_SR N) (i : Nat) (v : Option Nat) : vd_SR (vd_sr N 66 i v) := h.keep (fun _ _ => rfl) (fun _ _ => rfl) (fun c j _ q _ _ => by rw [vd_r_sr, if_neg (by omega)])
theorem vd_SR.sr637 (h : vd_SR N) (v : Option Nat) : vd_SR (vd_sr N 63 7 v) := h.keep (fun _ _ => rfl) (fun _ _ => rfl) (fun c j _ _ _ q => by rw [vd_r_sr, if_neg (by omega)])
theorem vd_lg_vr (o : Option Nat) : vd_long (vd_vr o) = false := by cases o <;> rfl
/-- show -/
theorem vd_P178 (hN : vd_SR N) {g : Nat → Nat → Int32} (hd : vd_HDR N g) {j : Nat} (hj : j < 11) : ∃ g' : Nat → Nat → Int32, (∀ d Q, vd_wp d 178 0 [.ref 63, .ref (129 + 5 * j)] [] (vd_mf N g) Q = Q (vd_mf (vd_sr N 63 7 (some (129 + 5 * j))) g') (.inl none)) ∧ vd_HDR (vd_sr N 63 7 (some (129 + 5 * j))) g' ∧ g' 63 21 = g 63 21 + vd_I 1 ∧ (∀ c i, ¬ (c = 63 ∧ i = 21) → ¬ (129 ≤ c ∧ i = 3 ∧ c ≤ 179 ∧ c % 5 = 4) → g' c i = g c i) := by
  have hN' := hN.sr637 (some (129 + 5 * j))
  have kj : vd_k N (129 + 5 * j) = 13 := (vd_PD_of hN hj).1.1
  have kj' : vd_k (vd_sr N 63 7 (some (129 + 5 * j))) (129 + 5 * j) = 13 := kj
  have lg := vd_lg_vr (vd_r N 63 7)
  have h8 : vd_hor N 8 = vd_r N 63 7 := rfl
  have hv : vd_hor (vd_sr N 63 7 (some (129 + 5 * j))) 8 = some (129 + 5 * j) := by
    show vd_r (vd_sr N 63 7 (some (129 + 5 * j))) 63 7 = _
    rw [vd_r_sr, if_pos ⟨rfl, rfl⟩]
  have hne : ∀ k, k < 9 → k ≠ 8 → vd_hor (vd_sr N 63 7 (some (129 + 5 * j))) k = vd_hor N k := fun k _ _ => by
    unfold vd_hor
    rw [if_pos (show k < 8 by omega), if_pos (show k < 8 by omega), vd_r_sr, if_neg (by omega)]
  cases ho : vd_r N 63 7 with
  | none =>
    refine ⟨vd_up (vd_up g (129 + 5 * j) 3 (g (129 + 5 * j) 3 + vd_I 1)) 63 21 (g 63 21 + vd_I 1), fun d Q => ?_, hd.step (x := 8) (by decide) hj hv hne (fun k hk => ?_), by rw [vd_up_eq], fun c i a b => by rw [vd_up_ne a, vd_up_ne (by omega)]⟩
    · simp (disch := first | assumption | omega) only [vd_S178_0 hN, ho, vd_vr, vd_S178_4n hN, vd_S178_20 hN, vd_S178_25 hN']
      rw [vd_up_ne (f := g) (show ¬ (63 = 129 + 5 * j ∧ 21 = 3) by omega)]
    · rw [h8, ho, if_neg (show ¬ ((none : Option Nat) = some (129 + 5 * k)) by intro q; cases q), vd_up_ne (by omega)]
      by_cases c : k = j
      · subst c
        rw [vd_up_eq, if_pos rfl]; rfl
      · rw [vd_up_ne (by omega), if_neg c]
        show _ = _ + vd_I 0
        rw [hd.1 k hk, vd_I_add, Int.add_zero]
  | some q =>
    obtain ⟨m, hm, eq⟩ := hd.2 8 q (by decide) (by rw [h8, ho])
    subst eq
    have km : vd_k N (129 + 5 * m) = 13 := (vd_PD_of hN hm).1.1
    refine ⟨vd_up (vd_up (vd_up g (129 + 5 * m) 3 (g (129 + 5 * m) 3 - vd_I 1)) (129 + 5 * j) 3 ((vd_up g (129 + 5 * m) 3 (g (129 + 5 * m) 3 - vd_I 1)) (129 + 5 * j) 3 + vd_I 1)) 63 21 (g 63 21 + vd_I 1), fun d Q => ?_, hd.step (x := 8) (by decide) hj hv hne (fun k hk => ?_), by rw [vd_up_eq], fun c i a b => by rw [vd_up_ne a, vd_up_ne (by omega), vd_up_ne (by omega)]⟩
    · rw [ho] at lg
      simp (disch := first | assumption | omega | (rw [ho]; exact lg)) only [vd_S178_0 hN, ho, vd_vr_some, vd_S178_4 hN, vd_S178_7 hN, vd_S178_12 hN, vd_S178_17 hN, vd_S178_20 hN, vd_S178_25 hN']
      rw [vd_up_ne (f := vd_up g (129 + 5 * m) 3 (g (129 + 5 * m) 3 - vd_I 1)) (show ¬ (63 = 129 + 5 * j ∧ 21 = 3) by omega), vd_up_ne (f := g) (show ¬ (63 = 129 + 5 * m ∧ 21 = 3) by omega)]
    · rw [h8, ho, vd_up_ne (show ¬ (129 + 5 * k = 63 ∧ 3 = 21) by omega)]
      obtain ⟨u, eu⟩ : ∃ u : Int, g (129 + 5 * k) 3 = vd_I u := ⟨_, hd.1 k hk⟩
      by_cases c : k = j
      · subst c
        rw [vd_up_eq, if_pos rfl]
        by_cases c2 : m = k
        · subst c2
          rw [vd_up_eq, if_pos rfl, eu, vd_I_sub, vd_I_add, vd_I_add]
          congr 1
          omega
        · rw [vd_up_ne (by omega), if_neg (fun q => c2 (by have := Option.some.inj q; omega))]
          rfl
      · rw [vd_up_ne (by omega), if_neg c]
        by_cases c2 : m = k
        · subst c2
          rw [vd_up_eq, if_pos rfl, eu, vd_I_sub, vd_I_add]
          congr 1
        · rw [vd_up_ne (by omega), if_neg (fun q => c2 (by have := Option.some.inj q; omega)), eu, vd_I_add]
          congr 1
          omega
/-- the loop over the slots -/
theorem vd_L276s {j : Nat} {rfr : Int} (hj : j < 11) (r0 : 0 ≤ rfr) (r1 : rfr ≤ 255) (a2 : Value) : ∀ (m i : Nat) (N : vd_M) (g : Nat → Nat → Int32), i + m = 8 → vd_SR N → vd_HDR N g → vd_r N 63 23 = some (129 + 5 * j) → g 63 77 = vd_I rfr → ∃ (N' : vd_M) (g' : Nat → Nat → Int32), (∀ d Q, vd_wp d 276 84 [.ref 63, .int (vd_I (i : Int)), a2] [] (vd_mf N g) Q = vd_wp d 276 157 [.ref 63, .int (vd_I 8), a2] [] (vd_mf N' g') Q) ∧ vd_SR N' ∧ vd_HDR N' g' ∧ vd_Ms N N' ∧ (∀ c k, c ≠ 66 → vd_r N' c k = vd_r N c k) ∧ (∀ k, k < 8 → vd_r N' 66 k = if i ≤ k ∧ vd_bt rfr k = 1 then some (129 + 5 * j) else vd_r N 66 k) ∧ (∀ c i, ¬ (129 ≤ c ∧ i = 3 ∧ c ≤ 179 ∧ c % 5 = 4) → g' c i = g c i) := by
  intro m
  induction m with
  | zero =>
    intro i N g hi hN hd hnow h77
    have hi : i = 8 := by omega
    subst hi
    refine ⟨N, g, fun d Q => ?_, hN, hd, vd_Ms.refl N, fun _ _ _ => rfl, fun k hk => by rw [if_neg (by omega)], fun _ _ _ => rfl⟩
    rw [vd_S276_84 hN]
    simp (disch := omega) only [vd_I_toInt, show ¬ (((8 : Nat) : Int) < 8) by decide, if_false]
    rfl
  | succ m ih =>
    intro i N g hi hN hd hnow h77
    have ei : (i : Int) + 1 = ((i + 1 : Nat) : Int) := by omega
    have bt := vd_bt_eq (i := i) r0 r1 (by omega)
    have b01 := vd_bt_b rfr i
    have i8 : i < 8 := by omega
    by_cases c : vd_bt rfr i = 1
    · have hN' := hN.sr66 i (some (129 + 5 * j))
      have kj : vd_k N (129 + 5 * j) = 13 := (vd_PD_of hN hj).1.1
      have kj' : vd_k (vd_sr N 66 i (some (129 + 5 * j))) (129 + 5 * j) = 13 := kj
      have ak : vd_akk N 66 (129 + 5 * j) := Or.inr (Or.inl ⟨hN.k66, kj⟩)
      have hl : (i : Int) < (vd_l N 66 : Int) := by rw [hN.l66]; omega
      have hnow' : vd_r (vd_sr N 66 i (some (129 + 5 * j))) 63 23 = some (129 + 5 * j) := by rw [vd_r_sr, if_neg (by omega), hnow]
      have hv : vd_hor (vd_sr N 66 i (some (129 + 5 * j))) i = some (129 + 5 * j) := by
        unfold vd_hor
        rw [if_pos i8, vd_r_sr, if_pos ⟨rfl, rfl⟩]
      have hne : ∀ k, k < 9 → k ≠ i → vd_hor (vd_sr N 66 i (some (129 + 5 * j))) k = vd_hor N k := fun k _ q => by
        unfold vd_hor
        split
        · rw [vd_r_sr, if_neg (by omega)]
        · rw [vd_r_sr, if_neg (by omega)]
      have hi' : vd_hor N i = vd_r N 66 i := by unfold vd_hor; rw [if_pos i8]
      have lg2 : ∀ o, vd_long (.ref o) = false := fun _ => rfl
      have fin : ∀ (g1 : Nat → Nat → Int32), vd_HDR (vd_sr N 66 i (some (129 + 5 * j))) g1 → (∀ c i, ¬ (129 ≤ c ∧ i = 3 ∧ c ≤ 179 ∧ c % 5 = 4) → g1 c i = g c i) → (∀ d Q, vd_wp d 276 90 [.ref 63, .int (vd_I (i : Int)), a2] [] (vd_mf N g) Q = vd_wp d 276 151 [.ref 63, .int (vd_I (i : Int)), a2] [] (vd_mf (vd_sr N 66 i (some (129 + 5 * j))) g1) Q) → ∃ (N' : vd_M) (g' : Nat → Nat → Int32), (∀ d Q, vd_wp d 276 84 [.ref 63, .int (vd_I (i : Int)), a2] [] (vd_mf N g) Q = vd_wp d 276 157 [.ref 63, .int (vd_I 8), a2] [] (vd_mf N' g') Q) ∧ vd_SR N' ∧ vd_HDR N' g' ∧ vd_Ms N N' ∧ (∀ c k, c ≠ 66 → vd_r N' c k = vd_r N c k) ∧ (∀ k, k < 8 → vd_r N' 66 k = if i ≤ k ∧ vd_bt rfr k = 1 then some (129 + 5 * j) else vd_r N 66 k) ∧ (∀ c i, ¬ (129 ≤ c ∧ i = 3 ∧ c ≤ 179 ∧ c % 5 = 4) → g' c i = g c i) := fun g1 h1 k1 e1 => by
        obtain ⟨N', g', e, q1, q2, q3, q4, q5, q6⟩ := ih (i + 1) _ g1 (by omega) hN' h1 hnow' (by rw [k1 63 77 (by omega), h77])
        refine ⟨N', g', fun d Q => ?_, q1, q2, (vd_Ms.sr N 66 i _).trans q3, fun c k q => by rw [q4 c k q, vd_r_sr, if_neg (by omega)], fun k hk => ?_, fun c i q => by rw [q6 c i q, k1 c i q]⟩
        · rw [← e d Q]
          conv => lhs; rw [vd_S276_84 hN]
          simp (disch := first | assumption | omega) only [vd_I_toInt, show ((i : Int) < 8) by omega, if_true]
          rw [e1 d Q]
          simp (disch := first | assumption | omega) only [vd_S276_151 hN', vd_I_add, ei]
        · rw [q5 k hk]
          by_cases ek : k = i
          · subst ek
            rw [if_neg (by omega), if_pos ⟨Nat.le_refl k, c⟩, vd_r_sr, if_pos ⟨rfl, rfl⟩]
          · by_cases cj : i + 1 ≤ k ∧ vd_bt rfr k = 1
            · rw [if_pos cj, if_pos ⟨by omega, cj.2⟩]
            · rw [if_neg cj, if_neg (fun q => cj ⟨by omega, q.2⟩), vd_r_sr, if_neg (fun q => ek q.2)]
      cases ho : vd_r N 66 i with
      | none =>
        refine fin (vd_up g (129 + 5 * j) 3 (g (129 + 5 * j) 3 + vd_I 1)) (hd.step (x := i) (by omega) hj hv hne (fun k hk => ?_)) (fun c i q => vd_up_ne (by omega)) (fun d Q => ?_)
        · rw [hi', ho, if_neg (show ¬ ((none : Option Nat) = some (129 + 5 * k)) by intro q; cases q)]
          by_cases c : k = j
          · subst c
            rw [vd_up_eq, if_pos rfl]; rfl
          · rw [vd_up_ne (by omega), if_neg c]
            show _ = _ + vd_I 0
            rw [hd.1 k hk, vd_I_add, Int.add_zero]
        · conv => lhs; rw [vd_S276_90 hN]
          simp (disch := first | exact vd_lg_vr _ | assumption | omega) only [h77, bt, c, vd_I_toInt, show ¬ ((1 : Int) = 0) by decide, if_false, vd_S276_104 hN, vd_S276_109 hN, Int.toNat_natCast, ho, vd_vr_none, vd_S276_110n hN, vd_S276_128 hN, hnow, vd_vr_some, vd_S276_137 hN, vd_S276_138 hN', hnow', vd_S276_143 hN', vd_S276_148 hN']
      | some q =>
        obtain ⟨m', hm, eq⟩ := hd.2 i q (by omega) (by rw [hi', ho])
        subst eq
        have km : vd_k N (129 + 5 * m') = 13 := (vd_PD_of hN hm).1.1
        refine fin (vd_up (vd_up g (129 + 5 * m') 3 (g (129 + 5 * m') 3 - vd_I 1)) (129 + 5 * j) 3 ((vd_up g (129 + 5 * m') 3 (g (129 + 5 * m') 3 - vd_I 1)) (129 + 5 * j) 3 + vd_I 1)) (hd.step (x := i) (by omega) hj hv hne (fun k hk => ?_)) (fun c i q => by rw [vd_up_ne (by omega), vd_up_ne (by omega)]) (fun d Q => ?_)
        · rw [hi', ho]
          obtain ⟨u, eu⟩ : ∃ u : Int, g (129 + 5 * k) 3 = vd_I u := ⟨_, hd.1 k hk⟩
          by_cases c : k = j
          · subst c
            rw [vd_up_eq, if_pos rfl]
            by_cases c2 : m' = k
            · subst c2
              rw [vd_up_eq, if_pos rfl, eu, vd_I_sub, vd_I_add, vd_I_add]
              congr 1
              omega
            · rw [vd_up_ne (by omega), if_neg (fun q => c2 (by have := Option.some.inj q; omega))]
              rfl
          · rw [vd_up_ne (by omega), if_neg c]
            by_cases c2 : m' = k
            · subst c2
              rw [vd_up_eq, if_pos rfl, eu, vd_I_sub, vd_I_add]
              congr 1
            · rw [vd_up_ne (by omega), if_neg (fun q => c2 (by have := Option.some.inj q; omega)), eu, vd_I_add]
              congr 1
              omega
        · conv => lhs; rw [vd_S276_90 hN]
          simp (disch := first | exact vd_lg_vr _ | assumption | omega) only [h77, bt, c, vd_I_toInt, show ¬ ((1 : Int) = 0) by decide, if_false, vd_S276_104 hN, vd_S276_109 hN, Int.toNat_natCast, ho, vd_vr_some, vd_S276_110 hN, vd_S276_113 hN, vd_S276_118 hN, vd_S276_120 hN, vd_S276_125 hN, vd_S276_128 hN, hnow, vd_S276_137 hN, vd_S276_138 hN', hnow', vd_S276_143 hN', vd_S276_148 hN']
    · have c0 : vd_bt rfr i = 0 := by omega
      obtain ⟨N', g', e, q1, q2, q3, q4, q5, q6⟩ := ih (i + 1) N g (by omega) hN hd hnow h77
      refine ⟨N', g', fun d Q => ?_, q1, q2, q3, q4, fun k hk => ?_, q6⟩
      · rw [← e d Q]
        conv => lhs; rw [vd_S276_84 hN]
        simp (disch := first | assumption | omega) only [vd_I_toInt, show ((i : Int) < 8) by omega, if_true, vd_S276_90 hN, h77, bt, c0, eq_self, vd_S276_101 hN, vd_S276_151 hN, vd_I_add, ei]
      · rw [q5 k hk]
        by_cases ek : k = i
        · subst ek
          rw [if_neg (by omega), if_neg (fun q => c q.2)]
        · by_cases cj : i + 1 ≤ k ∧ vd_bt rfr k = 1
          · rw [if_pos cj, if_pos ⟨by omega, cj.2⟩]
          · rw [if_neg cj, if_neg (fun q => cj ⟨by omega, q.2⟩)]
end VDHR
