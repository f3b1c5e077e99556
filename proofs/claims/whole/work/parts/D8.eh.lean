/-! ===== the loops round a square, of the reference ===== -/
section VDEH
variable {N : vd_M} {W H q pl n : Nat} {pw ph : Int} {O : Nat → Nat → Option Nat} {P K : Nat → Nat → Nat → Int}
theorem vd_L247a (hN : vd_SR N) (hq : vd_PD N q) (hn63 : vd_r N 63 23 = some q) (hn : vd_nn4 n) (kv : vd_PKV W H pw ph O P K) (p0 : 1 ≤ pw ∧ pw ≤ 192) (q0 : 1 ≤ ph ∧ ph ≤ 192) (hpl : pl < 3) {x y : Nat} (hx4 : x % 4 = 0) (hx : x < vd_ws pl pw) (hy : y < vd_ws pl ph) : ∀ (m j : Nat) (g : Nat → Nat → Int32), j + m = 2 * n → (g q 0 = vd_I pw ∧ g q 1 = vd_I ph) → vd_KWr pw ph K g → vd_PSR q pw ph P g → (∀ j', j' < j → g 126 j' = vd_I (vd_aA P K pl x y n j')) → ∃ g' : Nat → Nat → Int32, (∀ d Q, vd_wp (d + 2) 247 35 [.ref 63, .int (vd_I (pl : Int)), .int (vd_I (x : Int)), .int (vd_I (y : Int)), .int (vd_I (n : Int)), .int (vd_I (vd_on (vd_ka K pl x y n) (j - 1))), .int (vd_I (j : Int))] [] (vd_mf N g) Q = vd_wp (d + 2) 247 126 [.ref 63, .int (vd_I (pl : Int)), .int (vd_I (x : Int)), .int (vd_I (y : Int)), .int (vd_I (n : Int)), .int (vd_I (vd_on (vd_ka K pl x y n) (2 * n - 1))), .int (vd_I ((2 * n : Nat) : Int))] [] (vd_mf N g') Q) ∧ (∀ j', j' < 2 * n → g' 126 j' = vd_I (vd_aA P K pl x y n j')) ∧ (∀ c i, c ≠ 126 → g' c i = g c i) := by
  have n32 : 4 ≤ n ∧ n ≤ 32 ∧ n % 4 = 0 := by unfold vd_nn4 at hn; omega
  have hk := hq.1.1
  have hqb := hq.2.2.2
  have wsb := (vd_ws_b (pl := pl) p0.1 p0.2).1
  have hsb := (vd_ws_b (pl := pl) q0.1 q0.2).1
  have sd : vd_sd pl ≤ 192 := by unfold vd_sd; split <;> omega
  intro m
  induction m with
  | zero =>
    intro j g hj hg kw ps hA
    have ej : j = 2 * n := by omega
    subst ej
    have c : ¬ (((2 * n : Nat) : Int) < 2 * (n : Int)) := by omega
    refine ⟨g, fun d Q => ?_, hA, fun _ _ _ => rfl⟩
    rw [vd_S247_35 hN]
    simp (disch := omega) only [vd_I_mul, vd_I_toInt, c, if_false]
  | succ m ih =>
    intro j g hj hg kw ps hA
    have c : (j : Int) < 2 * (n : Int) := by omega
    have e1 : (j : Int) + 1 = ((j + 1 : Nat) : Int) := by omega
    have ex : (x : Int) + (j : Int) = ((x + j : Nat) : Int) := by omega
    have n1 : ((j : Nat) : Int).toNat = j := Int.toNat_natCast _
    have b0 : vd_fok .boolean (vd_I 0) = true := by decide
    have kk : ∀ c i, c ≠ 126 → vd_up g 126 j (vd_I (vd_aA P K pl x y n j)) c i = g c i := fun c i h => vd_up_ne (by omega)
    obtain ⟨g9, q1, q2, q3⟩ := ih (j + 1) (vd_up g 126 j (vd_I (vd_aA P K pl x y n j))) (by omega) ⟨by rw [kk _ _ (by omega)]; exact hg.1, by rw [kk _ _ (by omega)]; exact hg.2⟩ (fun pl a b h1 h2 h3 => by rw [kk _ _ (by omega)]; exact kw pl a b h1 h2 h3) (fun pl a b h1 h2 h3 => by rw [kk _ _ (by omega)]; exact ps pl a b h1 h2 h3) (fun j' h => by
      by_cases ej : j' = j
      · rw [ej, vd_up_eq]
      · rw [vd_up_ne (by omega)]; exact hA j' (by omega))
    have tail : ∀ d Q v, vd_wp (d + 2) 247 119 [.ref 63, .int (vd_I (pl : Int)), .int (vd_I (x : Int)), .int (vd_I (y : Int)), .int (vd_I (n : Int)), .int (vd_I (vd_on (vd_ka K pl x y n) j)), .int (vd_I (j : Int))] [.int v, .int (vd_I (j : Int)), .ref 126] (vd_mf N g) Q = vd_wp (d + 2) 247 35 [.ref 63, .int (vd_I (pl : Int)), .int (vd_I (x : Int)), .int (vd_I (y : Int)), .int (vd_I (n : Int)), .int (vd_I (vd_on (vd_ka K pl x y n) j)), .int (vd_I ((j + 1 : Nat) : Int))] [] (vd_mf N (vd_up g 126 j v)) Q := by
      intro d Q v
      simp (disch := omega) only [vd_S247_119 hN, n1, vd_I_add, e1]
    rw [Nat.add_sub_cancel] at q1
    refine ⟨g9, fun d Q => ?_, q2, fun c i h => by rw [q3 c i h, kk c i h]⟩
    rw [← q1 d Q, vd_S247_35 hN]
    by_cases cp : j - 1 < vd_ka K pl x y n
    · have P248 := vd_P248 hN hq hn63 kw kv hg.1 hg.2 p0 q0 hpl (X := ((x + j : Nat) : Int)) (Y := (y : Int) - 1) (by omega) (by omega) (by omega) (by omega)
      rw [vd_ka_s hn hx4 (by omega) cp] at P248
      rw [vd_on_1 cp]
      have z1 : ¬ ((1 : Int) = 0) := by decide
      by_cases cj : j < vd_ka K pl x y n
      · have ki := vd_kaI kv p0 q0 hx4 cj
        have ey : (y : Int) - 1 = ((y - 1 : Nat) : Int) := by omega
        have ea : vd_aA P K pl x y n j = P pl (x + j) (y - 1) := by unfold vd_aA; rw [vd_ed_la, if_pos cj]
        have P229 := fun (d : Nat) (Q : vd_M → (Option Value ⊕ Nat) → Prop) => vd_P229 (d := d) (Q := Q) hN hq hg.1 p0.1 p0.2 hpl (x := x + j) (y := y - 1) (by omega) (by omega) (ps pl (x + j) (y - 1) hpl (by omega) (by omega))
        rw [← ea] at P229
        rw [ey] at P248
        rw [vd_on_1 cj] at P248 tail
        rw [vd_on_1 cj]
        simp (disch := first | assumption | omega) only [vd_I_mul, vd_I_toInt, c, if_true, if_false, z1, vd_S247_44 hN, vd_S247_49 hN, vd_S247_58 hN, vd_S247_61 hN, vd_S247_64 hN, vd_S247_69 hN, vd_S247_82 hN, hn63, vd_vr_some, vd_S247_94 hN, vd_S247_97 hN, vd_I_add, vd_I_sub, ex, ey, P248, P229, tail, vd_rs_v, vd_rs_n]
      · have ea : vd_aA P K pl x y n j = vd_la (vd_ka K pl x y n) (fun j => P pl (x + j) (y - 1)) 127 j := by unfold vd_aA; rw [vd_ed_la, if_neg cj]
        rw [vd_on_0 cj] at P248 tail
        rw [vd_on_0 cj]
        by_cases c0 : j = 0
        · subst c0
          omega
        · have c0' : ¬ ((j : Int) = 0) := by omega
          have ej1 : (j : Int) - 1 = ((j - 1 : Nat) : Int) := by omega
          have ea2 : g 126 (j - 1) = vd_I (vd_aA P K pl x y n j) := by
            rw [hA (j - 1) (by omega), ea]
            unfold vd_la vd_aA
            rw [if_neg c0]
          have n2 : ((j - 1 : Nat) : Int).toNat = j - 1 := Int.toNat_natCast _
          simp (disch := first | assumption | omega) only [vd_I_mul, vd_I_toInt, c, if_true, if_false, z1, vd_S247_44 hN, vd_S247_49 hN, vd_S247_58 hN, vd_S247_61 hN, vd_S247_68 hN, vd_S247_69 hN, vd_S247_100 hN, c0', vd_S247_110 hN, vd_S247_118 hN, ej1, n2, ea2, vd_I_add, vd_I_sub, ex, P248, tail, vd_rs_v, vd_rs_n]
    · have cj : ¬ j < vd_ka K pl x y n := by omega
      have ea : vd_aA P K pl x y n j = vd_la (vd_ka K pl x y n) (fun j => P pl (x + j) (y - 1)) 127 j := by unfold vd_aA; rw [vd_ed_la, if_neg cj]
      rw [vd_on_0 cp]
      rw [vd_on_0 cj] at tail
      rw [vd_on_0 cj]
      by_cases c0 : j = 0
      · subst c0
        have ea2 : vd_aA P K pl x y n 0 = 127 := by rw [ea]; rfl
        rw [ea2]
        have z0 : ((0 : Nat) : Int) = 0 := rfl
        rw [z0] at tail c ⊢
        simp (disch := first | assumption | omega) only [vd_I_mul, vd_I_toInt, c, if_true, vd_S247_44 hN, vd_S247_68 hN, vd_S247_69 hN, vd_S247_100 hN, vd_S247_105 hN, tail, vd_rs_v, vd_rs_n]
      · have c0' : ¬ ((j : Int) = 0) := by omega
        have ej1 : (j : Int) - 1 = ((j - 1 : Nat) : Int) := by omega
        have ea2 : g 126 (j - 1) = vd_I (vd_aA P K pl x y n j) := by
          rw [hA (j - 1) (by omega), ea]
          unfold vd_la vd_aA
          rw [if_neg c0]
        have n2 : ((j - 1 : Nat) : Int).toNat = j - 1 := Int.toNat_natCast _
        simp (disch := first | assumption | omega) only [vd_I_mul, vd_I_toInt, c, if_true, if_false, vd_S247_44 hN, vd_S247_68 hN, vd_S247_69 hN, vd_S247_100 hN, c0', vd_S247_110 hN, vd_S247_118 hN, ej1, n2, ea2, vd_I_add, vd_I_sub, tail, vd_rs_v, vd_rs_n]
theorem vd_L247b (hN : vd_SR N) (hq : vd_PD N q) (hn63 : vd_r N 63 23 = some q) (hn : vd_nn4 n) (kv : vd_PKV W H pw ph O P K) (p0 : 1 ≤ pw ∧ pw ≤ 192) (q0 : 1 ≤ ph ∧ ph ≤ 192) (hpl : pl < 3) {x y : Nat} (hy4 : y % 4 = 0) (hx : x < vd_ws pl pw) (hy : y < vd_ws pl ph) : ∀ (m j : Nat) (g : Nat → Nat → Int32), j + m = n → (g q 0 = vd_I pw ∧ g q 1 = vd_I ph) → vd_KWr pw ph K g → vd_PSR q pw ph P g → (∀ j', j' < j → g 127 j' = vd_I (vd_aL P K pl x y n j')) → ∃ g' : Nat → Nat → Int32, (∀ d Q, vd_wp (d + 2) 247 135 [.ref 63, .int (vd_I (pl : Int)), .int (vd_I (x : Int)), .int (vd_I (y : Int)), .int (vd_I (n : Int)), .int (vd_I (vd_on (vd_kb K pl x y n) (j - 1))), .int (vd_I (j : Int))] [] (vd_mf N g) Q = vd_wp (d + 2) 247 225 [.ref 63, .int (vd_I (pl : Int)), .int (vd_I (x : Int)), .int (vd_I (y : Int)), .int (vd_I (n : Int)), .int (vd_I (vd_on (vd_kb K pl x y n) (n - 1))), .int (vd_I (n : Int))] [] (vd_mf N g') Q) ∧ (∀ j', j' < n → g' 127 j' = vd_I (vd_aL P K pl x y n j')) ∧ (∀ c i, c ≠ 127 → g' c i = g c i) := by
  have n32 : 4 ≤ n ∧ n ≤ 32 ∧ n % 4 = 0 := by unfold vd_nn4 at hn; omega
  have hk := hq.1.1
  have hqb := hq.2.2.2
  have wsb := (vd_ws_b (pl := pl) p0.1 p0.2).1
  have hsb := (vd_ws_b (pl := pl) q0.1 q0.2).1
  have sd : vd_sd pl ≤ 192 := by unfold vd_sd; split <;> omega
  intro m
  induction m with
  | zero =>
    intro j g hj hg kw ps hA
    have ej : j = n := by omega
    rw [ej] at hA ⊢
    have c : ¬ ((n : Int) < (n : Int)) := by omega
    refine ⟨g, fun d Q => ?_, hA, fun _ _ _ => rfl⟩
    rw [vd_S247_135 hN]
    simp (disch := omega) only [vd_I_toInt, c, if_false]
  | succ m ih =>
    intro j g hj hg kw ps hA
    have c : (j : Int) < (n : Int) := by omega
    have e1 : (j : Int) + 1 = ((j + 1 : Nat) : Int) := by omega
    have ex : (y : Int) + (j : Int) = ((y + j : Nat) : Int) := by omega
    have n1 : ((j : Nat) : Int).toNat = j := Int.toNat_natCast _
    have b0 : vd_fok .boolean (vd_I 0) = true := by decide
    have kk : ∀ c i, c ≠ 127 → vd_up g 127 j (vd_I (vd_aL P K pl x y n j)) c i = g c i := fun c i h => vd_up_ne (by omega)
    obtain ⟨g9, q1, q2, q3⟩ := ih (j + 1) (vd_up g 127 j (vd_I (vd_aL P K pl x y n j))) (by omega) ⟨by rw [kk _ _ (by omega)]; exact hg.1, by rw [kk _ _ (by omega)]; exact hg.2⟩ (fun pl a b h1 h2 h3 => by rw [kk _ _ (by omega)]; exact kw pl a b h1 h2 h3) (fun pl a b h1 h2 h3 => by rw [kk _ _ (by omega)]; exact ps pl a b h1 h2 h3) (fun j' h => by
      by_cases ej : j' = j
      · rw [ej, vd_up_eq]
      · rw [vd_up_ne (by omega)]; exact hA j' (by omega))
    have tail : ∀ d Q v, vd_wp (d + 2) 247 218 [.ref 63, .int (vd_I (pl : Int)), .int (vd_I (x : Int)), .int (vd_I (y : Int)), .int (vd_I (n : Int)), .int (vd_I (vd_on (vd_kb K pl x y n) j)), .int (vd_I (j : Int))] [.int v, .int (vd_I (j : Int)), .ref 127] (vd_mf N g) Q = vd_wp (d + 2) 247 135 [.ref 63, .int (vd_I (pl : Int)), .int (vd_I (x : Int)), .int (vd_I (y : Int)), .int (vd_I (n : Int)), .int (vd_I (vd_on (vd_kb K pl x y n) j)), .int (vd_I ((j + 1 : Nat) : Int))] [] (vd_mf N (vd_up g 127 j v)) Q := by
      intro d Q v
      simp (disch := omega) only [vd_S247_218 hN, n1, vd_I_add, e1]
    rw [Nat.add_sub_cancel] at q1
    refine ⟨g9, fun d Q => ?_, q2, fun c i h => by rw [q3 c i h, kk c i h]⟩
    rw [← q1 d Q, vd_S247_135 hN]
    by_cases cp : j - 1 < vd_kb K pl x y n
    · have P248 := vd_P248 hN hq hn63 kw kv hg.1 hg.2 p0 q0 hpl (X := (x : Int) - 1) (Y := ((y + j : Nat) : Int)) (by omega) (by omega) (by omega) (by omega)
      rw [vd_kb_s hn hy4 (by omega) cp] at P248
      rw [vd_on_1 cp]
      have z1 : ¬ ((1 : Int) = 0) := by decide
      by_cases cj : j < vd_kb K pl x y n
      · have ki := vd_kbI kv p0 q0 hy4 cj
        have ey : (x : Int) - 1 = ((x - 1 : Nat) : Int) := by omega
        have ea : vd_aL P K pl x y n j = P pl (x - 1) (y + j) := by unfold vd_aL; rw [vd_ed_la, if_pos cj]
        have P229 := fun (d : Nat) (Q : vd_M → (Option Value ⊕ Nat) → Prop) => vd_P229 (d := d) (Q := Q) hN hq hg.1 p0.1 p0.2 hpl (x := x - 1) (y := y + j) (by omega) (by omega) (ps pl (x - 1) (y + j) hpl (by omega) (by omega))
        rw [← ea] at P229
        rw [ey] at P248
        rw [vd_on_1 cj] at P248 tail
        rw [vd_on_1 cj]
        simp (disch := first | assumption | omega) only [vd_I_toInt, c, if_true, if_false, z1, vd_S247_142 hN, vd_S247_147 hN, vd_S247_156 hN, vd_S247_159 hN, vd_S247_162 hN, vd_S247_167 hN, vd_S247_180 hN, hn63, vd_vr_some, vd_S247_192 hN, vd_S247_195 hN, vd_I_add, vd_I_sub, ex, ey, P248, P229, tail, vd_rs_v, vd_rs_n]
      · have ea : vd_aL P K pl x y n j = vd_la (vd_kb K pl x y n) (fun j => P pl (x - 1) (y + j)) 129 j := by unfold vd_aL; rw [vd_ed_la, if_neg cj]
        rw [vd_on_0 cj] at P248 tail
        rw [vd_on_0 cj]
        by_cases c0 : j = 0
        · subst c0
          omega
        · have c0' : ¬ ((j : Int) = 0) := by omega
          have ej1 : (j : Int) - 1 = ((j - 1 : Nat) : Int) := by omega
          have ea2 : g 127 (j - 1) = vd_I (vd_aL P K pl x y n j) := by
            rw [hA (j - 1) (by omega), ea]
            unfold vd_la vd_aL
            rw [if_neg c0]
          have n2 : ((j - 1 : Nat) : Int).toNat = j - 1 := Int.toNat_natCast _
          simp (disch := first | assumption | omega) only [vd_I_toInt, c, if_true, if_false, z1, vd_S247_142 hN, vd_S247_147 hN, vd_S247_156 hN, vd_S247_159 hN, vd_S247_166 hN, vd_S247_167 hN, vd_S247_198 hN, c0', vd_S247_209 hN, vd_S247_217 hN, ej1, n2, ea2, vd_I_add, vd_I_sub, ex, P248, tail, vd_rs_v, vd_rs_n]
    · have cj : ¬ j < vd_kb K pl x y n := by omega
      have ea : vd_aL P K pl x y n j = vd_la (vd_kb K pl x y n) (fun j => P pl (x - 1) (y + j)) 129 j := by unfold vd_aL; rw [vd_ed_la, if_neg cj]
      rw [vd_on_0 cp]
      rw [vd_on_0 cj] at tail
      rw [vd_on_0 cj]
      by_cases c0 : j = 0
      · subst c0
        have ea2 : vd_aL P K pl x y n 0 = 129 := by rw [ea]; rfl
        rw [ea2]
        have z0 : ((0 : Nat) : Int) = 0 := rfl
        rw [z0] at tail c ⊢
        simp (disch := first | assumption | omega) only [vd_I_toInt, c, if_true, vd_S247_142 hN, vd_S247_166 hN, vd_S247_167 hN, vd_S247_198 hN, vd_S247_203 hN, tail, vd_rs_v, vd_rs_n]
      · have c0' : ¬ ((j : Int) = 0) := by omega
        have ej1 : (j : Int) - 1 = ((j - 1 : Nat) : Int) := by omega
        have ea2 : g 127 (j - 1) = vd_I (vd_aL P K pl x y n j) := by
          rw [hA (j - 1) (by omega), ea]
          unfold vd_la vd_aL
          rw [if_neg c0]
        have n2 : ((j - 1 : Nat) : Int).toNat = j - 1 := Int.toNat_natCast _
        simp (disch := first | assumption | omega) only [vd_I_toInt, c, if_true, if_false, vd_S247_142 hN, vd_S247_166 hN, vd_S247_167 hN, vd_S247_198 hN, c0', vd_S247_209 hN, vd_S247_217 hN, ej1, n2, ea2, vd_I_add, vd_I_sub, tail, vd_rs_v, vd_rs_n]
theorem vd_P247 (hN : vd_SR N) (hq : vd_PD N q) (hn63 : vd_r N 63 23 = some q) (hn : vd_nn4 n) (kv : vd_PKV W H pw ph O P K) (p0 : 1 ≤ pw ∧ pw ≤ 192) (q0 : 1 ≤ ph ∧ ph ≤ 192) (hpl : pl < 3) {x y : Nat} (hx4 : x % 4 = 0) (hy4 : y % 4 = 0) (hx : x < vd_ws pl pw) (hy : y < vd_ws pl ph) {g : Nat → Nat → Int32} (hg : g q 0 = vd_I pw ∧ g q 1 = vd_I ph) (kw : vd_KWr pw ph K g) (ps : vd_PSR q pw ph P g) : ∃ g' : Nat → Nat → Int32, (∀ d Q, vd_wp (d + 2) 247 0 [.ref 63, .int (vd_I (pl : Int)), .int (vd_I (x : Int)), .int (vd_I (y : Int)), .int (vd_I (n : Int)), vd_U, vd_U] [] (vd_mf N g) Q = Q (vd_mf N g') (.inl none)) ∧ vd_ER n (vd_aA P K pl x y n) (vd_aL P K pl x y n) (vd_aC P K pl x y n) g' ∧ g' 63 127 = vd_I (vd_on (vd_ka K pl x y n) 0) ∧ g' 63 128 = vd_I (vd_on (vd_kb K pl x y n) 0) ∧ (∀ c i, c ≠ 126 → c ≠ 127 → ¬ (c = 63 ∧ 126 ≤ i ∧ i ≤ 128) → g' c i = g c i) := by
  have n32 : 4 ≤ n ∧ n ≤ 32 ∧ n % 4 = 0 := by unfold vd_nn4 at hn; omega
  have hk := hq.1.1
  have hqb := hq.2.2.2
  have wsb := (vd_ws_b (pl := pl) p0.1 p0.2).1
  have hsb := (vd_ws_b (pl := pl) q0.1 q0.2).1
  have sd : vd_sd pl ≤ 192 := by unfold vd_sd; split <;> omega
  have onb : ∀ k j, vd_fok .boolean (vd_I (vd_on k j)) = true := by
    intro k j
    unfold vd_on
    split <;> decide
  have P1 := vd_P248 hN hq hn63 kw kv hg.1 hg.2 p0 q0 hpl (X := (x : Int)) (Y := (y : Int) - 1) (by omega) (by omega) (by omega) (by omega)
  rw [vd_ka_0 hn] at P1
  have st : ∀ g1 : Nat → Nat → Int32, (∀ c i, c ≠ 126 → c ≠ 127 → ¬ (c = 63 ∧ 126 ≤ i ∧ i ≤ 128) → g1 c i = g c i) → (g1 q 0 = vd_I pw ∧ g1 q 1 = vd_I ph) ∧ vd_KWr pw ph K g1 ∧ vd_PSR q pw ph P g1 := by
    intro g1 h
    refine ⟨⟨by rw [h _ _ (by omega) (by omega) (by omega)]; exact hg.1, by rw [h _ _ (by omega) (by omega) (by omega)]; exact hg.2⟩, fun pl a b h1 h2 h3 => by rw [h _ _ (by omega) (by omega) (by omega)]; exact kw pl a b h1 h2 h3, fun pl a b h1 h2 h3 => by rw [h _ _ (by omega) (by omega) (by omega)]; exact ps pl a b h1 h2 h3⟩
  obtain ⟨g1, hg1⟩ : ∃ g1, g1 = vd_up g 63 127 (vd_I (vd_on (vd_ka K pl x y n) 0)) := ⟨_, rfl⟩
  have k1 : ∀ c i, c ≠ 126 → c ≠ 127 → ¬ (c = 63 ∧ 126 ≤ i ∧ i ≤ 128) → g1 c i = g c i := fun c i _ _ h => by rw [hg1, vd_up_ne (by omega)]
  obtain ⟨s1, s2, s3⟩ := st g1 k1
  have P2 := vd_P248 hN hq hn63 s2 kv s1.1 s1.2 p0 q0 hpl (X := (x : Int) - 1) (Y := (y : Int)) (by omega) (by omega) (by omega) (by omega)
  rw [vd_kb_0 hn] at P2
  obtain ⟨g2, hg2⟩ : ∃ g2, g2 = vd_up g1 63 128 (vd_I (vd_on (vd_kb K pl x y n) 0)) := ⟨_, rfl⟩
  have k2 : ∀ c i, c ≠ 126 → c ≠ 127 → ¬ (c = 63 ∧ 126 ≤ i ∧ i ≤ 128) → g2 c i = g c i := fun c i h1 h2 h => by rw [hg2, vd_up_ne (by omega)]; exact k1 c i h1 h2 h
  obtain ⟨t1, t2, t3⟩ := st g2 k2
  obtain ⟨g3, a1, a2, a3⟩ := vd_L247a hN hq hn63 hn kv p0 q0 hpl hx4 hx hy (2 * n) 0 g2 (by omega) t1 t2 t3 (fun j h => by omega)
  have k3 : ∀ c i, c ≠ 126 → c ≠ 127 → ¬ (c = 63 ∧ 126 ≤ i ∧ i ≤ 128) → g3 c i = g c i := fun c i h1 h2 h => by rw [a3 c i h1]; exact k2 c i h1 h2 h
  obtain ⟨u1, u2, u3⟩ := st g3 k3
  obtain ⟨g4, b1, b2, b3⟩ := vd_L247b hN hq hn63 hn kv p0 q0 hpl hy4 hx hy n 0 g3 (by omega) u1 u2 u3 (fun j h => by omega)
  have k4 : ∀ c i, c ≠ 126 → c ≠ 127 → ¬ (c = 63 ∧ 126 ≤ i ∧ i ≤ 128) → g4 c i = g c i := fun c i h1 h2 h => by rw [b3 c i h2]; exact k3 c i h1 h2 h
  obtain ⟨v1, v2, v3⟩ := st g4 k4
  have P3 := vd_P248 hN hq hn63 v2 kv v1.1 v1.2 p0 q0 hpl (X := (x : Int) - 1) (Y := (y : Int) - 1) (by omega) (by omega) (by omega) (by omega)
  have g127 : g2 63 127 = vd_I (vd_on (vd_ka K pl x y n) 0) := by rw [hg2, vd_up_ne (by omega), hg1, vd_up_eq]
  have g128 : g3 63 128 = vd_I (vd_on (vd_kb K pl x y n) 0) := by rw [a3 _ _ (by omega), hg2, vd_up_eq]
  have g4127 : g4 63 127 = vd_I (vd_on (vd_ka K pl x y n) 0) := by rw [b3 _ _ (by omega), a3 _ _ (by omega)]; exact g127
  have head : ∀ d Q, vd_wp (d + 2) 247 0 [.ref 63, .int (vd_I (pl : Int)), .int (vd_I (x : Int)), .int (vd_I (y : Int)), .int (vd_I (n : Int)), vd_U, vd_U] [] (vd_mf N g) Q = vd_wp (d + 2) 247 237 [.ref 63, .int (vd_I (pl : Int)), .int (vd_I (x : Int)), .int (vd_I (y : Int)), .int (vd_I (n : Int)), .int (vd_I (vd_on (vd_kb K pl x y n) (n - 1))), .int (vd_I (n : Int))] [.int (vd_I (vd_bz (vd_mk K pl ((x : Int) - 1) ((y : Int) - 1)))), .ref 63] (vd_mf N g4) Q := by
    intro d Q
    rw [vd_S247_0 hN]
    simp (disch := first | assumption | omega | exact onb _ _) only [vd_I_sub, vd_S247_7 hN, P1, vd_S247_10 hN, vd_S247_20 hN, ← hg1, P2, vd_S247_23 hN, vd_rs_v, vd_rs_n]
    rw [← hg2]
    have e1 : g1 63 127 = vd_I (vd_on (vd_ka K pl x y n) 0) := by rw [hg1, vd_up_eq]
    rw [e1]
    refine (a1 d Q).trans ?_
    rw [vd_S247_126 hN, g128]
    refine (b1 d Q).trans ?_
    simp (disch := first | assumption | omega) only [vd_S247_225 hN, vd_I_sub, vd_S247_234 hN, P3, vd_rs_v, vd_rs_n]
  have fin : ∀ v : Int32, v = vd_I (vd_aC P K pl x y n) → vd_ER n (vd_aA P K pl x y n) (vd_aL P K pl x y n) (vd_aC P K pl x y n) (vd_up g4 63 126 v) ∧ (vd_up g4 63 126 v) 63 127 = vd_I (vd_on (vd_ka K pl x y n) 0) ∧ (vd_up g4 63 126 v) 63 128 = vd_I (vd_on (vd_kb K pl x y n) 0) ∧ (∀ c i, c ≠ 126 → c ≠ 127 → ¬ (c = 63 ∧ 126 ≤ i ∧ i ≤ 128) → (vd_up g4 63 126 v) c i = g c i) := by
    intro v hv
    refine ⟨⟨fun j hj => ?_, fun j hj => ?_, ?_⟩, ?_, ?_, fun c i h1 h2 h => ?_⟩
    · rw [vd_up_ne (by omega), b3 _ _ (by omega)]; exact a2 j hj
    · rw [vd_up_ne (by omega)]; exact b2 j hj
    · rw [vd_up_eq]; exact hv
    · rw [vd_up_ne (by omega)]; exact g4127
    · rw [vd_up_ne (by omega), b3 _ _ (by omega)]; exact g128
    · rw [vd_up_ne (by omega)]; exact k4 c i h1 h2 h
  have z1 : ¬ ((1 : Int) = 0) := by decide
  by_cases cz : vd_mk K pl ((x : Int) - 1) ((y : Int) - 1) = 0
  · have eb : vd_bz (vd_mk K pl ((x : Int) - 1) ((y : Int) - 1)) = 0 := if_pos cz
    by_cases ca : 0 < vd_ka K pl x y n
    · refine ⟨_, fun d Q => ?_, fin (vd_I 129) (by unfold vd_aC; rw [if_pos cz, if_pos ca])⟩
      rw [head, eb]
      simp (disch := first | assumption | omega) only [vd_S247_237 hN, vd_I_toInt, if_true, if_false, vd_S247_257 hN, g4127, vd_on_1 ca, z1, vd_S247_264 hN, vd_S247_272 hN]
    · refine ⟨_, fun d Q => ?_, fin (vd_I 127) (by unfold vd_aC; rw [if_pos cz, if_neg ca])⟩
      rw [head, eb]
      simp (disch := first | assumption | omega) only [vd_S247_237 hN, vd_I_toInt, if_true, if_false, vd_S247_257 hN, g4127, vd_on_0 ca, vd_S247_270 hN, vd_S247_272 hN]
  · have eb : vd_bz (vd_mk K pl ((x : Int) - 1) ((y : Int) - 1)) = 1 := if_neg cz
    have mi := vd_mk_in kv p0 q0 cz
    have ex : (x : Int) - 1 = ((x - 1 : Nat) : Int) := by omega
    have ey : (y : Int) - 1 = ((y - 1 : Nat) : Int) := by omega
    have P229 := fun (d : Nat) (Q : vd_M → (Option Value ⊕ Nat) → Prop) => vd_P229 (d := d) (Q := Q) hN hq v1.1 p0.1 p0.2 hpl (x := x - 1) (y := y - 1) (by omega) (by omega) (v3 pl (x - 1) (y - 1) hpl (by omega) (by omega))
    refine ⟨_, fun d Q => ?_, fin (vd_I (P pl (x - 1) (y - 1))) (by unfold vd_aC; rw [if_neg cz])⟩
    rw [head, eb]
    simp (disch := first | assumption | omega) only [vd_S247_237 hN, vd_I_toInt, if_true, if_false, z1, vd_S247_240 hN, hn63, vd_vr_some, vd_I_sub, ex, ey, vd_S247_251 hN, P229, vd_S247_254 hN, vd_S247_272 hN, vd_rs_v, vd_rs_n]
end VDEH
