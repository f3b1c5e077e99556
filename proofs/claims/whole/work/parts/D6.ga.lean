/-! ===== what stands round a square, gathered by the class ===== -/
theorem vd_kaI {W H : Nat} {pw ph : Int} {O : Nat → Nat → Option Nat} {P K : Nat → Nat → Nat → Int} (kv : vd_PKV W H pw ph O P K) (p0 : 1 ≤ pw ∧ pw ≤ 192) (q0 : 1 ≤ ph ∧ ph ≤ 192) {pl x y n j : Nat} (hx4 : x % 4 = 0) (h : j < vd_ka K pl x y n) : 1 ≤ y ∧ x + j < vd_ws pl pw ∧ y ≤ vd_ws pl ph := by
  have l := vd_lead_in (vd_Fa K pl x y) (n / 2) 0 (j / 4) (by omega) (by unfold vd_ka at h; omega)
  have m := vd_mk_in kv p0 q0 l
  have w4 : vd_ws pl pw % 4 = 0 := by unfold vd_ws; split <;> omega
  omega
theorem vd_kbI {W H : Nat} {pw ph : Int} {O : Nat → Nat → Option Nat} {P K : Nat → Nat → Nat → Int} (kv : vd_PKV W H pw ph O P K) (p0 : 1 ≤ pw ∧ pw ≤ 192) (q0 : 1 ≤ ph ∧ ph ≤ 192) {pl x y n j : Nat} (hy4 : y % 4 = 0) (h : j < vd_kb K pl x y n) : 1 ≤ x ∧ y + j < vd_ws pl ph ∧ x ≤ vd_ws pl pw := by
  have l := vd_lead_in (vd_Fl K pl x y) (n / 4) 0 (j / 4) (by omega) (by unfold vd_kb at h; omega)
  have m := vd_mk_in kv p0 q0 l
  have w4 : vd_ws pl ph % 4 = 0 := by unfold vd_ws; split <;> omega
  omega
theorem vd_kab {K : Nat → Nat → Nat → Int} {pl x y n : Nat} (hn : vd_nn4 n) : vd_ka K pl x y n ≤ 2 * n ∧ vd_kb K pl x y n ≤ n := by
  have a := (vd_lead_b (vd_Fa K pl x y) (n / 2) 0).2
  have b := (vd_lead_b (vd_Fl K pl x y) (n / 4) 0).2
  unfold vd_ka vd_kb
  unfold vd_nn4 at hn
  omega
section VDGA
variable {M : vd_M} {ow fa lo lf W H p s pl n : Nat} {pw ph : Int} {O : Nat → Nat → Option Nat} {P K : Nat → Nat → Nat → Int}
theorem vd_P124 (hM : vd_SC M ow fa lo lf) (hp : vd_PC M p s) {f : Nat → Nat → Int32} (hk : vd_KC K f) (hs : vd_PSC s pw ph P f) (kv : vd_PKV W H pw ph O P K) (p0 : 1 ≤ pw ∧ pw ≤ 192) (q0 : 1 ≤ ph ∧ ph ≤ 192) (hpl : pl < 3) (hn : vd_nn4 n) {x y : Nat} (hx4 : x % 4 = 0) (hx : x < vd_ws pl pw) (hy : y < vd_ws pl ph) (f2 : f 52 2 = vd_I (pl : Int)) (f3 : f 52 3 = vd_I (x : Int)) (f4 : f 52 4 = vd_I (y : Int)) (f5 : f 52 5 = vd_I (n : Int)) : ∃ f' : Nat → Nat → Int32, (∀ d Q, vd_wp (d + 1) 124 0 [.ref 52, .ref s, vd_U, vd_U, vd_U] [] (vd_mf M f) Q = Q (vd_mf M f') (.inl none)) ∧ (∀ j, j < 2 * n → f' 53 (65 + j) = vd_I (vd_aA P K pl x y n j)) ∧ f' 52 6 = vd_I (if 0 < vd_ka K pl x y n then 1 else 0) ∧ (∀ c i, ¬ (c = 53 ∧ 65 ≤ i) → ¬ (c = 52 ∧ i = 6) → f' c i = f c i) := by
  have n32 : 4 ≤ n ∧ n ≤ 32 ∧ n % 4 = 0 := by unfold vd_nn4 at hn; omega
  have wsb := (vd_ws_b (pl := pl) p0.1 p0.2).1
  have hsb := (vd_ws_b (pl := pl) q0.1 q0.2).1
  have sd : vd_sd pl ≤ 192 := by unfold vd_sd; split <;> omega
  have hs2 := hp.2.2.2.1
  have kb := (vd_kab (K := K) (pl := pl) (x := x) (y := y) hn).1
  have L1 := fun a3 a4 d Q => vd_L124k hM hk kv.2.1 hpl hn (x := x) (y := y) (by omega) (by omega) f2 f3 f4 f5 s a3 a4 d Q (n / 2) 0 (by omega)
  have ek : 4 * ((vd_lead (vd_Fa K pl x y) (n / 2) 0 : Nat) : Int) = ((vd_ka K pl x y n : Nat) : Int) := by unfold vd_ka; omega
  rw [ek] at L1
  obtain ⟨fv, hfv⟩ : ∃ fv : Int, fv = if 0 < vd_ka K pl x y n then 1 else 0 := ⟨_, rfl⟩
  obtain ⟨f9, q1, q2, q3⟩ := vd_L124j hM hp hpl hn (x := x) (y := y) (kc := vd_ka K pl x y n) (S := fun j => P pl (x + j) (y - 1)) (by omega) (by omega) (fun j a b => by have := vd_kaI kv p0 q0 hx4 a; omega) (by omega) (by omega) (2 * n) 0 (vd_up f 52 6 (vd_I fv)) (by omega) ⟨by rw [vd_up_ne (by omega)]; exact f2, by rw [vd_up_ne (by omega)]; exact f3, by rw [vd_up_ne (by omega)]; exact f4, by rw [vd_up_ne (by omega)]; exact f5⟩ (fun j a b e => by
    have := vd_kaI kv p0 q0 hx4 b
    rw [vd_up_ne (by omega)]
    exact hs pl (x + j) (y - 1) hpl (by omega) (by omega))
  refine ⟨f9, fun d Q => ?_, fun j hj => q2 j (by omega) hj, ?_, fun c i h1 h2 => ?_⟩
  · rw [← q1 d Q, vd_S124_0 hM]
    have e := L1 vd_U vd_U d Q
    rw [show 4 * ((0 : Nat) : Int) = 0 by omega] at e
    refine e.trans ?_
    rw [vd_S124_44 hM]
    by_cases c : 0 < vd_ka K pl x y n
    · rw [if_pos c] at hfv
      have c' : 0 < ((vd_ka K pl x y n : Nat) : Int) := by omega
      subst hfv
      have b0 : vd_fok .boolean (vd_I 0) = true := by decide
      have b1 : vd_fok .boolean (vd_I 1) = true := by decide
      simp (disch := first | assumption | omega) only [vd_S124_49 hM, vd_S124_54 hM, vd_I_toInt, c', if_true]
      rfl
    · rw [if_neg c] at hfv
      have c' : ¬ (0 < ((vd_ka K pl x y n : Nat) : Int)) := by omega
      subst hfv
      have b0 : vd_fok .boolean (vd_I 0) = true := by decide
      have b1 : vd_fok .boolean (vd_I 1) = true := by decide
      simp (disch := first | assumption | omega) only [vd_S124_53 hM, vd_S124_54 hM, vd_I_toInt, c', if_false]
      rfl
  · rw [q3 52 6 (by omega), vd_up_eq, hfv]
  · rw [q3 c i (by omega), vd_up_ne (by omega)]
theorem vd_P125 (hM : vd_SC M ow fa lo lf) (hp : vd_PC M p s) {f : Nat → Nat → Int32} (hk : vd_KC K f) (hs : vd_PSC s pw ph P f) (kv : vd_PKV W H pw ph O P K) (p0 : 1 ≤ pw ∧ pw ≤ 192) (q0 : 1 ≤ ph ∧ ph ≤ 192) (hpl : pl < 3) (hn : vd_nn4 n) {x y : Nat} (hy4 : y % 4 = 0) (hx : x < vd_ws pl pw) (hy : y < vd_ws pl ph) (f2 : f 52 2 = vd_I (pl : Int)) (f3 : f 52 3 = vd_I (x : Int)) (f4 : f 52 4 = vd_I (y : Int)) (f5 : f 52 5 = vd_I (n : Int)) : ∃ f' : Nat → Nat → Int32, (∀ d Q, vd_wp (d + 1) 125 0 [.ref 52, .ref s, vd_U, vd_U, vd_U] [] (vd_mf M f) Q = Q (vd_mf M f') (.inl none)) ∧ (∀ j, j < 2 * n → f' 53 (63 - j) = vd_I (vd_aL P K pl x y n j)) ∧ f' 52 7 = vd_I (if 0 < vd_kb K pl x y n then 1 else 0) ∧ (∀ c i, ¬ (c = 53 ∧ i ≤ 63) → ¬ (c = 52 ∧ i = 7) → f' c i = f c i) := by
  have n32 : 4 ≤ n ∧ n ≤ 32 ∧ n % 4 = 0 := by unfold vd_nn4 at hn; omega
  have wsb := (vd_ws_b (pl := pl) p0.1 p0.2).1
  have hsb := (vd_ws_b (pl := pl) q0.1 q0.2).1
  have sd : vd_sd pl ≤ 192 := by unfold vd_sd; split <;> omega
  have hs2 := hp.2.2.2.1
  have kb := (vd_kab (K := K) (pl := pl) (x := x) (y := y) hn).2
  have L1 := fun a3 a4 d Q => vd_L125k hM hk kv.2.1 hpl hn (x := x) (y := y) (by omega) (by omega) f2 f3 f4 f5 s a3 a4 d Q (n / 4) 0 (by omega)
  have ek : 4 * ((vd_lead (vd_Fl K pl x y) (n / 4) 0 : Nat) : Int) = ((vd_kb K pl x y n : Nat) : Int) := by unfold vd_kb; omega
  rw [ek] at L1
  obtain ⟨fv, hfv⟩ : ∃ fv : Int, fv = if 0 < vd_kb K pl x y n then 1 else 0 := ⟨_, rfl⟩
  obtain ⟨f9, q1, q2, q3⟩ := vd_L125j hM hp hpl hn (x := x) (y := y) (kc := vd_kb K pl x y n) (S := fun j => P pl (x - 1) (y + j)) (by omega) (by omega) (fun j a b => by have := vd_kbI kv p0 q0 hy4 a; omega) (by omega) (by omega) (2 * n) 0 (vd_up f 52 7 (vd_I fv)) (by omega) ⟨by rw [vd_up_ne (by omega)]; exact f2, by rw [vd_up_ne (by omega)]; exact f3, by rw [vd_up_ne (by omega)]; exact f4, by rw [vd_up_ne (by omega)]; exact f5⟩ (fun j a b e => by
    have := vd_kbI kv p0 q0 hy4 b
    rw [vd_up_ne (by omega)]
    exact hs pl (x - 1) (y + j) hpl (by omega) (by omega))
  refine ⟨f9, fun d Q => ?_, fun j hj => q2 j (by omega) hj, ?_, fun c i h1 h2 => ?_⟩
  · rw [← q1 d Q, vd_S125_0 hM]
    have e := L1 vd_U vd_U d Q
    rw [show 4 * ((0 : Nat) : Int) = 0 by omega] at e
    refine e.trans ?_
    rw [vd_S125_42 hM]
    by_cases c : 0 < vd_kb K pl x y n
    · rw [if_pos c] at hfv
      have c' : 0 < ((vd_kb K pl x y n : Nat) : Int) := by omega
      subst hfv
      have b0 : vd_fok .boolean (vd_I 0) = true := by decide
      have b1 : vd_fok .boolean (vd_I 1) = true := by decide
      simp (disch := first | assumption | omega) only [vd_S125_47 hM, vd_S125_52 hM, vd_I_toInt, c', if_true]
      rfl
    · rw [if_neg c] at hfv
      have c' : ¬ (0 < ((vd_kb K pl x y n : Nat) : Int)) := by omega
      subst hfv
      have b0 : vd_fok .boolean (vd_I 0) = true := by decide
      have b1 : vd_fok .boolean (vd_I 1) = true := by decide
      simp (disch := first | assumption | omega) only [vd_S125_51 hM, vd_S125_52 hM, vd_I_toInt, c', if_false]
      rfl
  · rw [q3 52 7 (by omega), vd_up_eq, hfv]
  · rw [q3 c i (by omega), vd_up_ne (by omega)]
theorem vd_P123 (hM : vd_SC M ow fa lo lf) (hp : vd_PC M p s) {f : Nat → Nat → Int32} (hk : vd_KC K f) (hs : vd_PSC s pw ph P f) (kv : vd_PKV W H pw ph O P K) (p0 : 1 ≤ pw ∧ pw ≤ 192) (q0 : 1 ≤ ph ∧ ph ≤ 192) (hpl : pl < 3) (hn : vd_nn4 n) {x y : Nat} (hx4 : x % 4 = 0) (hy4 : y % 4 = 0) (hx : x < vd_ws pl pw) (hy : y < vd_ws pl ph) : ∃ f' : Nat → Nat → Int32, (∀ d Q, vd_wp (d + 2) 123 0 [.ref 52, .ref p, .int (vd_I (pl : Int)), .int (vd_I (x : Int)), .int (vd_I (y : Int)), .int (vd_I (n : Int))] [] (vd_mf M f) Q = Q (vd_mf M f') (.inl none)) ∧ vd_EC n (vd_Ee (vd_aA P K pl x y n) (vd_aL P K pl x y n) (vd_aC P K pl x y n)) f' ∧ (f' 52 2 = vd_I (pl : Int) ∧ f' 52 3 = vd_I (x : Int) ∧ f' 52 4 = vd_I (y : Int) ∧ f' 52 5 = vd_I (n : Int)) ∧ f' 52 6 = vd_I (if 0 < vd_ka K pl x y n then 1 else 0) ∧ f' 52 7 = vd_I (if 0 < vd_kb K pl x y n then 1 else 0) ∧ (∀ c i, c ≠ 52 → c ≠ 53 → f' c i = f c i) := by
  have n32 : 4 ≤ n ∧ n ≤ 32 ∧ n % 4 = 0 := by unfold vd_nn4 at hn; omega
  have wsb := (vd_ws_b (pl := pl) p0.1 p0.2).1
  have hsb := (vd_ws_b (pl := pl) q0.1 q0.2).1
  have sd : vd_sd pl ≤ 192 := by unfold vd_sd; split <;> omega
  obtain ⟨⟨hk7, hrs⟩, ⟨hks, hls⟩, hp1, hp2, hp3⟩ := id hp
  obtain ⟨f1, hf1⟩ : ∃ f1, f1 = vd_up (vd_up (vd_up (vd_up f 52 2 (vd_I (pl : Int))) 52 3 (vd_I (x : Int))) 52 4 (vd_I (y : Int))) 52 5 (vd_I (n : Int)) := ⟨_, rfl⟩
  have k1 : ∀ c i, c ≠ 52 → f1 c i = f c i := by
    intro c i h
    rw [hf1, vd_up_ne (by omega), vd_up_ne (by omega), vd_up_ne (by omega), vd_up_ne (by omega)]
  have a2 : f1 52 2 = vd_I (pl : Int) := by rw [hf1, vd_up_ne (by omega), vd_up_ne (by omega), vd_up_ne (by omega), vd_up_eq]
  have a3 : f1 52 3 = vd_I (x : Int) := by rw [hf1, vd_up_ne (by omega), vd_up_ne (by omega), vd_up_eq]
  have a4 : f1 52 4 = vd_I (y : Int) := by rw [hf1, vd_up_ne (by omega), vd_up_eq]
  have a5 : f1 52 5 = vd_I (n : Int) := by rw [hf1, vd_up_eq]
  have KC1 : vd_KC K f1 := fun pl a b h1 h2 h3 => by rw [k1 _ _ (by omega)]; exact hk pl a b h1 h2 h3
  have PS1 : vd_PSC s pw ph P f1 := fun pl a b h1 h2 h3 => by rw [k1 _ _ (by omega)]; exact hs pl a b h1 h2 h3
  obtain ⟨f2, q1, q2, q3, q4⟩ := vd_P124 hM hp KC1 PS1 kv p0 q0 hpl hn hx4 hx hy a2 a3 a4 a5
  have KC2 : vd_KC K f2 := fun pl a b h1 h2 h3 => by rw [q4 _ _ (by omega) (by omega)]; exact KC1 pl a b h1 h2 h3
  have PS2 : vd_PSC s pw ph P f2 := fun pl a b h1 h2 h3 => by rw [q4 _ _ (by omega) (by omega)]; exact PS1 pl a b h1 h2 h3
  obtain ⟨f3, r1, r2, r3, r4⟩ := vd_P125 hM hp KC2 PS2 kv p0 q0 hpl hn hy4 hx hy (by rw [q4 _ _ (by omega) (by omega)]; exact a2) (by rw [q4 _ _ (by omega) (by omega)]; exact a3) (by rw [q4 _ _ (by omega) (by omega)]; exact a4) (by rw [q4 _ _ (by omega) (by omega)]; exact a5)
  have KC3 : vd_KC K f3 := fun pl a b h1 h2 h3 => by rw [r4 _ _ (by omega) (by omega)]; exact KC2 pl a b h1 h2 h3
  have PS3 : vd_PSC s pw ph P f3 := fun pl a b h1 h2 h3 => by rw [r4 _ _ (by omega) (by omega)]; exact PS2 pl a b h1 h2 h3
  have f36 : f3 52 6 = vd_I (if 0 < vd_ka K pl x y n then 1 else 0) := by rw [r4 _ _ (by omega) (by omega)]; exact q3
  obtain ⟨f4, hf4⟩ : ∃ f4, f4 = vd_up f3 53 64 (vd_I (if 0 < vd_ka K pl x y n then 129 else 127)) := ⟨_, rfl⟩
  have KC4 : vd_KC K f4 := fun pl a b h1 h2 h3 => by rw [hf4, vd_up_ne (by omega)]; exact KC3 pl a b h1 h2 h3
  have P118 := vd_P118 hM KC4 hpl (x := (x : Int) - 1) (y := (y : Int) - 1) (by omega) (by omega) (by omega) (by omega)
  have mv := vd_mk_v kv.2.1 pl ((x : Int) - 1) ((y : Int) - 1)
  have z0 : (0 : Int) ≤ 64 := by decide
  have head : ∀ d Q, vd_wp (d + 2) 123 0 [.ref 52, .ref p, .int (vd_I (pl : Int)), .int (vd_I (x : Int)), .int (vd_I (y : Int)), .int (vd_I (n : Int))] [] (vd_mf M f) Q = vd_wp (d + 2) 123 75 [.ref 52, .ref p, .int (vd_I (pl : Int)), .int (vd_I (x : Int)), .int (vd_I (y : Int)), .int (vd_I (n : Int))] [.int (vd_I (vd_mk K pl ((x : Int) - 1) ((y : Int) - 1)))] (vd_mf M f4) Q := by
    intro d Q
    rw [vd_S123_0 hM _ _ _ _ _ _ _ _ hk7, ← hf1, hrs]
    simp (disch := first | assumption | omega) only [vd_vr, vd_S123_27 hM, q1, vd_rs_n, vd_S123_30 hM, hrs, vd_S123_35 hM, r1, vd_S123_38 hM, f36]
    have e59 : ∀ v : Int32, vd_wp (d + 2) 123 59 [.ref 52, .ref p, .int (vd_I (pl : Int)), .int (vd_I (x : Int)), .int (vd_I (y : Int)), .int (vd_I (n : Int))] [.int v, .int (vd_I 64), .ref 53] (vd_mf M f3) Q = vd_wp (d + 2) 123 72 [.ref 52, .ref p, .int (vd_I (pl : Int)), .int (vd_I (x : Int)), .int (vd_I (y : Int)), .int (vd_I (n : Int))] [.int (vd_I ((y : Int) - 1)), .int (vd_I ((x : Int) - 1)), .int (vd_I (pl : Int)), .ref 37] (vd_mf M (vd_up f3 53 64 v)) Q := by
      intro v
      rw [vd_S123_59 hM _ _ _ _ _ _ _ _ _ _ z0 (by decide)]
      simp (disch := omega) only [vd_I_sub]
      rfl
    by_cases c : 0 < vd_ka K pl x y n
    · simp (disch := omega) only [c, if_true, vd_I_toInt, vd_S123_51 hM, vd_S123_57 hM, e59, show ¬ ((1 : Int) = 0) by decide, if_false]
      rw [if_pos c] at hf4
      rw [← hf4, vd_S123_72 hM, P118]
      simp only [vd_rs_v, vd_rs_n]
    · simp (disch := omega) only [c, if_true, vd_I_toInt, vd_S123_51 hM, vd_S123_57 hM, e59, if_false]
      rw [if_neg c] at hf4
      rw [← hf4, vd_S123_72 hM, P118]
      simp only [vd_rs_v, vd_rs_n]
  have fr4 : ∀ c i, c ≠ 52 → c ≠ 53 → f4 c i = f c i := by
    intro c i h1 h2
    rw [hf4, vd_up_ne (by omega), r4 _ _ (by omega) (by omega), q4 _ _ (by omega) (by omega), k1 _ _ h1]
  have fin : ∀ f5 : Nat → Nat → Int32, f5 53 64 = vd_I (vd_aC P K pl x y n) → (∀ c i, ¬ (c = 53 ∧ i = 64) → f5 c i = f4 c i) → vd_EC n (vd_Ee (vd_aA P K pl x y n) (vd_aL P K pl x y n) (vd_aC P K pl x y n)) f5 ∧ (f5 52 2 = vd_I (pl : Int) ∧ f5 52 3 = vd_I (x : Int) ∧ f5 52 4 = vd_I (y : Int) ∧ f5 52 5 = vd_I (n : Int)) ∧ f5 52 6 = vd_I (if 0 < vd_ka K pl x y n then 1 else 0) ∧ f5 52 7 = vd_I (if 0 < vd_kb K pl x y n then 1 else 0) ∧ (∀ c i, c ≠ 52 → c ≠ 53 → f5 c i = f c i) := by
    intro f5 hc h5
    refine ⟨fun z z0 z1 => ?_, ⟨?_, ?_, ?_, ?_⟩, ?_, ?_, fun c i h1 h2 => by rw [h5 c i (by omega)]; exact fr4 c i h1 h2⟩
    · by_cases c0 : z = 0
      · subst c0
        rw [vd_Ee_0]
        exact hc
      · by_cases c1 : 0 < z
        · rw [vd_Ee_p c1]
          have e : (64 + z).toNat = 65 + (z - 1).toNat := by omega
          rw [e, h5 _ _ (by omega), hf4, vd_up_ne (by omega), r4 _ _ (by omega) (by omega)]
          exact q2 _ (by omega)
        · rw [vd_Ee_n (by omega)]
          have e : (64 + z).toNat = 63 - (-z - 1).toNat := by omega
          rw [e, h5 _ _ (by omega), hf4, vd_up_ne (by omega)]
          exact r2 _ (by omega)
    · rw [h5 _ _ (by omega), hf4, vd_up_ne (by omega), r4 _ _ (by omega) (by omega), q4 _ _ (by omega) (by omega)]; exact a2
    · rw [h5 _ _ (by omega), hf4, vd_up_ne (by omega), r4 _ _ (by omega) (by omega), q4 _ _ (by omega) (by omega)]; exact a3
    · rw [h5 _ _ (by omega), hf4, vd_up_ne (by omega), r4 _ _ (by omega) (by omega), q4 _ _ (by omega) (by omega)]; exact a4
    · rw [h5 _ _ (by omega), hf4, vd_up_ne (by omega), r4 _ _ (by omega) (by omega), q4 _ _ (by omega) (by omega)]; exact a5
    · rw [h5 _ _ (by omega), hf4, vd_up_ne (by omega)]; exact f36
    · rw [h5 _ _ (by omega), hf4, vd_up_ne (by omega)]; exact r3
  by_cases cz : vd_mk K pl ((x : Int) - 1) ((y : Int) - 1) = 0
  · refine ⟨f4, fun d Q => ?_, fin f4 ?_ (fun _ _ _ => rfl)⟩
    · rw [head, vd_S123_75 hM, cz]
      simp only [vd_I_toInt (by omega : (-2147483648 : Int) ≤ 0) (by omega), if_true, vd_S123_101 hM]
    · rw [hf4, vd_up_eq]
      unfold vd_aC
      rw [if_pos cz]
  · have mi := vd_mk_in kv p0 q0 cz
    have ex : (x : Int) - 1 = ((x - 1 : Nat) : Int) := by omega
    have ey : (y : Int) - 1 = ((y - 1 : Nat) : Int) := by omega
    have sv : f4 s (vd_ax pl (x - 1) (y - 1)) = vd_I (P pl (x - 1) (y - 1)) := by rw [hf4, vd_up_ne (by omega)]; exact PS3 pl (x - 1) (y - 1) hpl (by omega) (by omega)
    have ab : vd_ax pl (x - 1) (y - 1) < 55296 := by
      unfold vd_ax
      unfold vd_sd at wsb hsb
      split
      · rename_i c
        rw [if_pos c] at wsb hsb
        omega
      · rename_i c
        rw [if_neg c] at wsb hsb
        omega
    have P109 := fun (d : Nat) (Q : vd_M → (Option Value ⊕ Nat) → Prop) => vd_P109 (x := x - 1) (y := y - 1) (f := f4) (d := d) (Q := Q) hM hpl
    refine ⟨vd_up f4 53 64 (vd_I (P pl (x - 1) (y - 1))), fun d Q => ?_, fin _ ?_ (fun c i h => vd_up_ne (by omega))⟩
    · rw [head, vd_S123_75 hM]
      have cs : vd_cs [Value.ref s, .int (vd_I 64), .ref 53] ≤ 8 := (by decide : 3 ≤ 8)
      rw [vd_I_toInt (by omega) (by omega), if_neg cz, vd_S123_78 hM _ _ _ _ _ _ _ _ hk7, hrs]
      simp (disch := first | assumption | omega) only [vd_vr, vd_I_sub, ex, ey, vd_S123_96 hM, P109, vd_S123_99 hM, vd_S123_100 hM, vd_S123_101 hM, Int.toNat_natCast, sv, vd_rs_v, vd_rs_n]
      rfl
    · rw [vd_up_eq]
      unfold vd_aC
      rw [if_neg cz]
end VDGA
