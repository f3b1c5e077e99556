/-! ===== a frame's header: the reference behind a fault ===== -/
/-- where the reference's frame goes: 0 its end (a fault), 1 a picture again, 2 the work -/
def vd_T174 : Nat × Int32 × Int32 × Int32 → vd_Tg := fun a d Q M' => if a.1 = 0 ∨ ¬ (vd_i M' 63 76).toInt = 0 then Q M' (.inl none) else if a.1 = 1 then vd_wp (d + 4) 174 67 [.ref 63, .int a.2.1, vd_U, vd_U] [] M' Q else vd_wp (d + 4) 174 292 [.ref 63, .int a.2.1, .int a.2.2.1, .int a.2.2.2] [] M' Q
section VDHC
variable {M N : vd_M} {ow fa lo lf : Nat}
theorem vd_T174_0 (x : Int32 × Int32 × Int32) (d : Nat) (Q : vd_M → (Option Value ⊕ Nat) → Prop) (M' : vd_M) : vd_T174 (0, x) d Q M' = Q M' (.inl none) := by
  unfold vd_T174
  rw [if_pos (Or.inl rfl)]
theorem vd_T174_b {g : Nat → Nat → Int32} (h : ¬ (g 63 76).toInt = 0) (a : Nat × Int32 × Int32 × Int32) (d : Nat) (Q : vd_M → (Option Value ⊕ Nat) → Prop) : vd_T174 a d Q (vd_mf N g) = Q (vd_mf N g) (.inl none) := by
  unfold vd_T174
  exact if_pos (Or.inr h)
theorem vd_T174_1 {g : Nat → Nat → Int32} (h : g 63 76 = vd_I 0) (x1 x2 x3 : Int32) (d : Nat) (Q : vd_M → (Option Value ⊕ Nat) → Prop) : vd_T174 (1, x1, x2, x3) d Q (vd_mf N g) = vd_wp (d + 4) 174 67 [.ref 63, .int x1, vd_U, vd_U] [] (vd_mf N g) Q := by
  unfold vd_T174
  have h2 : vd_i (vd_mf N g) 63 76 = vd_I 0 := h
  rw [if_neg (by rw [h2]; show ¬ ((1 : Nat) = 0 ∨ ¬ (vd_I 0).toInt = 0); decide), if_pos rfl]
theorem vd_T174_2 {g : Nat → Nat → Int32} (h : g 63 76 = vd_I 0) (x1 x2 x3 : Int32) (d : Nat) (Q : vd_M → (Option Value ⊕ Nat) → Prop) : vd_T174 (2, x1, x2, x3) d Q (vd_mf N g) = vd_wp (d + 4) 174 292 [.ref 63, .int x1, .int x2, .int x3] [] (vd_mf N g) Q := by
  unfold vd_T174
  have h2 : vd_i (vd_mf N g) 63 76 = vd_I 0 := h
  rw [if_neg (by rw [h2]; show ¬ ((2 : Nat) = 0 ∨ ¬ (vd_I 0).toInt = 0); decide), if_neg (by show ¬ (2 : Nat) = 1; decide)]
theorem vd_B174b (hN : vd_SR N) : (∀ x1 x2 x3 : Int32, vd_BH N vd_T174 4 174 285 [.ref 63, .int x1, .int x2, .int x3] []) ∧ (∀ (x1 : Int32) (a2 a3 : Value) (s : Int), vd_bnP 16 s → vd_BH N vd_T174 4 174 245 [.ref 63, .int x1, a2, a3] [.int (vd_I s)]) ∧ (∀ (x1 : Int32) (a2 a3 : Value), vd_BH N vd_T174 4 174 239 [.ref 63, .int x1, a2, a3] []) ∧ (∀ (x1 : Int32) (a2 a3 : Value) (s : Int), vd_bnP 2 s → vd_BH N vd_T174 4 174 224 [.ref 63, .int x1, a2, a3] [.int (vd_I s), .ref 63]) ∧ (∀ (x1 : Int32) (a2 a3 : Value) (s : Int), vd_b01P s → vd_BH N vd_T174 4 174 215 [.ref 63, .int x1, a2, a3] [.int (vd_I s), .ref 63]) ∧ (∀ (x1 : Int32) (a2 a3 : Value) (s : Int), vd_b01P s → vd_BH N vd_T174 4 174 207 [.ref 63, .int x1, a2, a3] [.int (vd_I s), .ref 63]) ∧ (∀ (x1 : Int32) (a2 a3 : Value), vd_BH N vd_T174 4 174 202 [.ref 63, .int x1, a2, a3] []) := by
  have b285 : ∀ x1 x2 x3 : Int32, vd_BH N vd_T174 4 174 285 [.ref 63, .int x1, .int x2, .int x3] [] := fun x1 x2 x3 => vd_BH.ret (0, 0, 0, 0) vd_okJ (fun d g Q hz => by simp only [vd_S174_285 hN, vd_S174_298 hN, hz, if_false, vd_T174_0])
  have b280 : ∀ (x1 x2 x3 : Int32) (y : Int), y = 0 ∨ y = 1 → vd_BH N vd_T174 4 174 280 [.ref 63, .int x1, .int x2, .int x3] [.int (vd_I y), .ref 63] := fun x1 x2 x3 y hy => vd_BH.call (vd_B176 hN 3 (x := 7) (y := y) (by decide) (by decide) hy) vd_okJ (b285 x1 x2 x3) (fun d g Q _ => by simp only [vd_S174_280 hN, vd_S174_282 hN])
  have b245 : ∀ (x1 : Int32) (a2 a3 : Value) (s : Int), vd_bnP 16 s → vd_BH N vd_T174 4 174 245 [.ref 63, .int x1, a2, a3] [.int (vd_I s)] := fun x1 a2 a3 s hs g p e b hq hb => by
    have hs := hs.n (z := 65536) (by decide)
    have k : ∃ y : Int, (y = 0 ∨ y = 1) ∧ ∀ d Q, vd_wp (d + 4) 174 245 [.ref 63, .int x1, a2, a3] [.int (vd_I s)] (vd_mf N g) Q = vd_wp (d + 4) 174 280 [.ref 63, .int x1, .int (vd_I s), .int ((g 63 74 + vd_I 7) / vd_I 8)] [.int (vd_I y), .ref 63] (vd_mf N g) Q := by
      by_cases c : 0 < s
      · by_cases c2 : ((g 63 74 + vd_I 7) / vd_I 8 + vd_I s).toInt < (g 63 75 / vd_I 8).toInt
        · exact ⟨1, Or.inr rfl, fun d Q => by simp (disch := omega) only [vd_S174_245 hN, vd_S174_262 hN, vd_S174_275 hN, vd_I_toInt, c, c2, if_true]⟩
        · exact ⟨0, Or.inl rfl, fun d Q => by simp (disch := omega) only [vd_S174_245 hN, vd_S174_262 hN, vd_S174_279 hN, vd_I_toInt, c, c2, if_true, if_false]⟩
      · exact ⟨0, Or.inl rfl, fun d Q => by simp (disch := omega) only [vd_S174_245 hN, vd_S174_279 hN, vd_I_toInt, c, if_false]⟩
    obtain ⟨y, hy, he⟩ := k
    obtain ⟨g', a, q1, q2⟩ := b280 x1 (vd_I s) ((g 63 74 + vd_I 7) / vd_I 8) y hy g p e b hq hb
    exact ⟨g', a, fun d Q => by rw [he, q1], q2⟩
  have b239 : ∀ (x1 : Int32) (a2 a3 : Value), vd_BH N vd_T174 4 174 239 [.ref 63, .int x1, a2, a3] [] := fun x1 a2 a3 => vd_BH.ask (vd_B175 hN 3 16 (by decide) (by decide)) vd_okJ (b245 x1 a2 a3 0 (by unfold vd_bnP; decide)) (fun d g Q _ => by simp only [vd_S174_239 hN, vd_S174_242 hN])
  have b224 : ∀ (x1 : Int32) (a2 a3 : Value) (s : Int), vd_bnP 2 s → vd_BH N vd_T174 4 174 224 [.ref 63, .int x1, a2, a3] [.int (vd_I s), .ref 63] := fun x1 a2 a3 s _ => vd_BH.go (vd_okg1 (c := 63) (i := 78) (v := vd_I s) (by unfold vd_inH; omega) (by omega)) (vd_B228 hN x1 a2 a3 (b239 x1 a2 a3)).1 (fun d g Q _ => by simp only [vd_S174_224 hN])
  have b215 : ∀ (x1 : Int32) (a2 a3 : Value) (s : Int), vd_b01P s → vd_BH N vd_T174 4 174 215 [.ref 63, .int x1, a2, a3] [.int (vd_I s), .ref 63] := fun x1 a2 a3 s hs => by
    have hok : vd_fok .boolean (vd_I s) = true := by rcases hs with rfl | rfl <;> decide
    exact vd_BH.ask (vd_B175 hN 3 2 (by decide) (by decide)) (vd_okg1 (c := 63) (i := 82) (v := vd_I s) (by unfold vd_inH; omega) (by omega)) (b224 x1 a2 a3 0 (by unfold vd_bnP; decide)) (fun d g Q _ => by simp (disch := assumption) only [vd_S174_215 hN, vd_S174_221 hN])
  have b207 : ∀ (x1 : Int32) (a2 a3 : Value) (s : Int), vd_b01P s → vd_BH N vd_T174 4 174 207 [.ref 63, .int x1, a2, a3] [.int (vd_I s), .ref 63] := fun x1 a2 a3 s hs => by
    have hok : vd_fok .boolean (vd_I s) = true := by rcases hs with rfl | rfl <;> decide
    exact vd_BH.ask (vd_B177 hN 3 (by decide)) (vd_okg1 (c := 63) (i := 81) (v := vd_I s) (by unfold vd_inH; omega) (by omega)) (b215 x1 a2 a3 0 (Or.inl rfl)) (fun d g Q _ => by simp (disch := assumption) only [vd_S174_207 hN, vd_S174_212 hN])
  have b202 : ∀ (x1 : Int32) (a2 a3 : Value), vd_BH N vd_T174 4 174 202 [.ref 63, .int x1, a2, a3] [] := fun x1 a2 a3 => vd_BH.ask (vd_B177 hN 3 (by decide)) vd_okJ (b207 x1 a2 a3 0 (Or.inl rfl)) (fun d g Q _ => by simp only [vd_S174_202 hN, vd_S174_204 hN])
  exact ⟨b285, b245, b239, b224, b215, b207, b202⟩
def vd_B174P (N : vd_M) : Prop := (∀ (a1 a2 a3 : Value) (s : Int), vd_bnP 2 s → vd_BH N vd_T174 4 174 6 [.ref 63, a1, a2, a3] [.int (vd_I s), .ref 63]) ∧ (∀ (a1 a2 a3 : Value), vd_BH N vd_T174 4 174 19 [.ref 63, a1, a2, a3] []) ∧ (∀ (a1 a2 a3 : Value) (s : Int), vd_b01P s → vd_BH N vd_T174 4 174 31 [.ref 63, a1, a2, a3] [.int (vd_I s)]) ∧ (∀ (a1 a2 a3 : Value) (s : Int), vd_bnP 3 s → vd_BH N vd_T174 4 174 39 [.ref 63, a1, a2, a3] [.int (vd_I s)]) ∧ (∀ (x1 : Int32) (a2 a3 : Value), vd_BH N vd_T174 4 174 59 [.ref 63, .int x1, a2, a3] []) ∧ (∀ (a1 a2 a3 : Value) (s : Int), vd_b01P s → vd_BH N vd_T174 4 174 97 [.ref 63, a1, a2, a3] [.int (vd_I s)]) ∧ (∀ (x1 : Int32) (a2 a3 : Value) (s : Int), vd_b01P s → vd_BH N vd_T174 4 174 103 [.ref 63, .int x1, a2, a3] [.int (vd_I s), .ref 63]) ∧ (∀ (x1 : Int32) (a2 a3 : Value) (s : Int), vd_b01P s → vd_BH N vd_T174 4 174 111 [.ref 63, .int x1, a2, a3] [.int (vd_I s), .ref 63]) ∧ (∀ (x1 : Int32) (a2 a3 : Value) (s : Int), vd_b01P s → vd_BH N vd_T174 4 174 148 [.ref 63, .int x1, a2, a3] [.int (vd_I s), .ref 63]) ∧ (∀ (x1 : Int32) (a2 a3 : Value) (s : Int), vd_bnP 8 s → vd_BH N vd_T174 4 174 158 [.ref 63, .int x1, a2, a3] [.int (vd_I s), .ref 63]) ∧ (∀ (x1 : Int32) (a2 a3 : Value), vd_BH N vd_T174 4 174 195 [.ref 63, .int x1, a2, a3] [])
theorem vd_B174a (hN : vd_SR N) : vd_B174P N := by
  obtain ⟨_, _, _, _, _, _, b202⟩ := vd_B174b hN
  have b195 : ∀ (x1 : Int32) (a2 a3 : Value), vd_BH N vd_T174 4 174 195 [.ref 63, .int x1, a2, a3] [] := fun x1 a2 a3 => vd_BH.go vd_okJ (b202 x1 a2 a3) (fun d g Q _ => by simp only [vd_S174_195 hN])
  have b180 : ∀ (x1 : Int32) (a2 a3 : Value), vd_BH N vd_T174 4 174 180 [.ref 63, .int x1, a2, a3] [.ref 63] := fun x1 a2 a3 => vd_BH.call (vd_B180w hN) (vd_okg1 (c := 63) (i := 33) (v := vd_I 0) (by unfold vd_inH; omega) (by omega)) (b202 x1 a2 a3) (fun d g Q _ => by simp (disch := first | decide | omega) only [vd_S174_180 hN, vd_S174_181 hN, vd_S174_198 hN, vd_S174_199 hN, vd_fok0, vd_I_toInt, eq_self, if_true])
  have b176 : ∀ (x1 : Int32) (a2 a3 : Value), vd_BH N vd_T174 4 174 176 [.ref 63, .int x1, a2, a3] [.ref 63] := fun x1 a2 a3 => vd_BH.call (vd_B179w hN) (vd_okg1 (c := 63) (i := 33) (v := vd_I 1) (by unfold vd_inH; omega) (by omega)) (b195 x1 a2 a3) (fun d g Q _ => by simp (disch := first | decide | omega) only [vd_S174_176 hN, vd_S174_181 hN, vd_S174_191 hN, vd_S174_192 hN, vd_fok1, vd_I_toInt, show ¬ ((1 : Int) = 0) by decide, if_false])
  have b169 : ∀ (x1 : Int32) (a2 a3 : Value), vd_BH N vd_T174 4 174 169 [.ref 63, .int x1, a2, a3] [.ref 63] := fun x1 a2 a3 => vd_BH.or vd_okJ (b180 x1 a2 a3) (b176 x1 a2 a3) (fun g => by
    by_cases c : (g 63 83).toInt = 0
    · exact Or.inl (fun d Q => by simp only [vd_S174_169 hN, c, if_true])
    · exact Or.inr (fun d Q => by simp only [vd_S174_169 hN, c, if_false]))
  have b161 : ∀ (x1 : Int32) (a2 a3 : Value), vd_BH N vd_T174 4 174 161 [.ref 63, .int x1, a2, a3] [] := fun x1 a2 a3 => vd_BH.or vd_okJ (b169 x1 a2 a3) (b176 x1 a2 a3) (fun g => by
    by_cases c : (g 63 84).toInt = 0
    · exact Or.inl (fun d Q => by simp only [vd_S174_161 hN, c, if_true])
    · exact Or.inr (fun d Q => by simp only [vd_S174_161 hN, c, if_false]))
  have b158 : ∀ (x1 : Int32) (a2 a3 : Value) (s : Int), vd_bnP 8 s → vd_BH N vd_T174 4 174 158 [.ref 63, .int x1, a2, a3] [.int (vd_I s), .ref 63] := fun x1 a2 a3 s _ => vd_BH.go (vd_okg1 (c := 63) (i := 77) (v := vd_I s) (by unfold vd_inH; omega) (by omega)) (b161 x1 a2 a3) (fun d g Q _ => by simp only [vd_S174_158 hN])
  have b148 : ∀ (x1 : Int32) (a2 a3 : Value) (s : Int), vd_b01P s → vd_BH N vd_T174 4 174 148 [.ref 63, .int x1, a2, a3] [.int (vd_I s), .ref 63] := fun x1 a2 a3 s hs => by
    have hok : vd_fok .boolean (vd_I s) = true := by rcases hs with rfl | rfl <;> decide
    exact vd_BH.ask (vd_B175 hN 3 8 (by decide) (by decide)) (vd_okg1 (c := 63) (i := 83) (v := vd_I s) (by unfold vd_inH; omega) (by omega)) (b158 x1 a2 a3 0 (by unfold vd_bnP; decide)) (fun d g Q _ => by simp (disch := assumption) only [vd_S174_148 hN, vd_S174_155 hN])
  have b124 : ∀ (x1 : Int32) (a2 a3 : Value) (y : Int), vd_b01P y → vd_BH N vd_T174 4 174 124 [.ref 63, .int x1, a2, a3] [.int (vd_I y), .ref 63] := fun x1 a2 a3 y hy => by
    have hok : vd_fok .boolean (vd_I y) = true := by rcases hy with rfl | rfl <;> decide
    have hF : vd_okG (fun g => vd_up (vd_up (vd_up g 63 84 (vd_I y)) 63 83 (vd_I 0)) 63 77 (vd_I 255)) := fun g => (((vd_gU.refl g).up (by unfold vd_inH; omega) (by omega)).up (by unfold vd_inH; omega) (by omega)).up (by unfold vd_inH; omega) (by omega)
    by_cases c : x1.toInt = 0
    · exact vd_BH.go hF (b161 x1 a2 a3) (fun d g Q _ => by simp (disch := assumption) only [vd_S174_124 hN, c, if_true])
    · exact vd_BH.ask (vd_B177 hN 3 (by decide)) hF (b148 x1 a2 a3 0 (Or.inl rfl)) (fun d g Q _ => by simp (disch := assumption) only [vd_S174_124 hN, vd_S174_143 hN, vd_S174_145 hN, c, if_false])
  have b111 : ∀ (x1 : Int32) (a2 a3 : Value) (s : Int), vd_b01P s → vd_BH N vd_T174 4 174 111 [.ref 63, .int x1, a2, a3] [.int (vd_I s), .ref 63] := fun x1 a2 a3 s hs => by
    have hok : vd_fok .boolean (vd_I s) = true := by rcases hs with rfl | rfl <;> decide
    by_cases c : x1.toInt = 0
    · exact vd_BH.go (vd_okg1 (c := 63) (i := 80) (v := vd_I s) (by unfold vd_inH; omega) (by omega)) (b124 x1 a2 a3 1 (Or.inr rfl)) (fun d g Q _ => by simp (disch := assumption) only [vd_S174_111 hN, vd_S174_119 hN, c, if_true])
    · exact vd_BH.go (vd_okg1 (c := 63) (i := 80) (v := vd_I s) (by unfold vd_inH; omega) (by omega)) (b124 x1 a2 a3 0 (Or.inl rfl)) (fun d g Q _ => by simp (disch := assumption) only [vd_S174_111 hN, vd_S174_123 hN, c, if_false])
  have b103 : ∀ (x1 : Int32) (a2 a3 : Value) (s : Int), vd_b01P s → vd_BH N vd_T174 4 174 103 [.ref 63, .int x1, a2, a3] [.int (vd_I s), .ref 63] := fun x1 a2 a3 s hs => by
    have hok : vd_fok .boolean (vd_I s) = true := by rcases hs with rfl | rfl <;> decide
    exact vd_BH.ask (vd_B177 hN 3 (by decide)) (vd_okg1 (c := 63) (i := 79) (v := vd_I s) (by unfold vd_inH; omega) (by omega)) (b111 x1 a2 a3 0 (Or.inl rfl)) (fun d g Q _ => by simp (disch := assumption) only [vd_S174_103 hN, vd_S174_108 hN])
  have b97 : ∀ (a1 a2 a3 : Value) (s : Int), vd_b01P s → vd_BH N vd_T174 4 174 97 [.ref 63, a1, a2, a3] [.int (vd_I s)] := fun a1 a2 a3 s _ => vd_BH.ask (vd_B177 hN 3 (by decide)) vd_okJ (b103 (vd_I s) a2 a3 0 (Or.inl rfl)) (fun d g Q _ => by simp only [vd_S174_97 hN, vd_S174_100 hN])
  have b59 : ∀ (x1 : Int32) (a2 a3 : Value), vd_BH N vd_T174 4 174 59 [.ref 63, .int x1, a2, a3] [] := fun x1 a2 a3 => vd_BH.ret (0, 0, 0, 0) vd_okJ (fun d g Q hz => by simp only [vd_S174_59 hN, vd_S174_66 hN, hz, if_false, vd_T174_0])
  have b55 : ∀ (x1 : Int32) (a2 a3 : Value) (y : Int), vd_b01P y → vd_BH N vd_T174 4 174 55 [.ref 63, .int x1, a2, a3] [.int (vd_I y), .ref 63] := fun x1 a2 a3 y hy => vd_BH.call (vd_B176 hN 3 (x := 3) (y := y) (by decide) (by decide) hy) vd_okJ (b59 x1 a2 a3) (fun d g Q _ => by simp only [vd_S174_55 hN, vd_S174_56 hN])
  have b39 : ∀ (a1 a2 a3 : Value) (s : Int), vd_bnP 3 s → vd_BH N vd_T174 4 174 39 [.ref 63, a1, a2, a3] [.int (vd_I s)] := fun a1 a2 a3 s hs => by
    have hs := hs.n (z := 8) (by decide)
    cases hr : vd_r N 66 s.toNat with
    | none => exact vd_BH.go vd_okJ (b55 (vd_I s) a2 a3 0 (Or.inl rfl)) (fun d g Q _ => by simp (disch := omega) only [vd_S174_39 hN, vd_S174_46 hN, hr, vd_vr_none, vd_S174_47n hN, vd_S174_54 hN])
    | some o => exact vd_BH.go vd_okJ (b55 (vd_I s) a2 a3 1 (Or.inr rfl)) (fun d g Q _ => by simp (disch := omega) only [vd_S174_39 hN, vd_S174_46 hN, hr, vd_vr_some, vd_S174_47 hN, vd_S174_50 hN])
  have b31 : ∀ (a1 a2 a3 : Value) (s : Int), vd_b01P s → vd_BH N vd_T174 4 174 31 [.ref 63, a1, a2, a3] [.int (vd_I s)] := fun a1 a2 a3 s hs => by
    rcases hs with rfl | rfl
    · exact vd_BH.ask (vd_B177 hN 3 (by decide)) vd_okJ (b97 a1 a2 a3 0 (Or.inl rfl)) (fun d g Q _ => by simp (disch := omega) only [vd_S174_31 hN, vd_S174_93 hN, vd_S174_94 hN, vd_I_toInt, eq_self, if_true])
    · exact vd_BH.ask (vd_B175 hN 3 3 (by decide) (by decide)) vd_okJ (b39 a1 a2 a3 0 (by unfold vd_bnP; decide)) (fun d g Q _ => by simp (disch := omega) only [vd_S174_31 hN, vd_S174_34 hN, vd_S174_36 hN, vd_I_toInt, show ¬ ((1 : Int) = 0) by decide, if_false])
  have b19 : ∀ (a1 a2 a3 : Value), vd_BH N vd_T174 4 174 19 [.ref 63, a1, a2, a3] [] := fun a1 a2 a3 => vd_BH.ret (0, 0, 0, 0) vd_okJ (fun d g Q hz => by simp only [vd_S174_19 hN, vd_S174_26 hN, hz, if_false, vd_T174_0])
  have b6 : ∀ (a1 a2 a3 : Value) (s : Int), vd_bnP 2 s → vd_BH N vd_T174 4 174 6 [.ref 63, a1, a2, a3] [.int (vd_I s), .ref 63] := fun a1 a2 a3 s hs => by
    have hs := hs.n (z := 4) (by decide)
    by_cases c : s = 2
    · exact vd_BH.call (vd_B176 hN 3 (x := 2) (y := 1) (by decide) (by decide) (Or.inr rfl)) vd_okJ (b19 a1 a2 a3) (fun d g Q _ => by simp (disch := omega) only [vd_S174_6 hN, vd_S174_10 hN, vd_S174_15 hN, vd_S174_16 hN, vd_I_toInt, c, eq_self, if_true])
    · exact vd_BH.call (vd_B176 hN 3 (x := 2) (y := 0) (by decide) (by decide) (Or.inl rfl)) vd_okJ (b19 a1 a2 a3) (fun d g Q _ => by simp (disch := omega) only [vd_S174_6 hN, vd_S174_14 hN, vd_S174_15 hN, vd_S174_16 hN, vd_I_toInt, c, if_false])
  exact ⟨b6, b19, b31, b39, b59, b97, b103, b111, b148, b158, b195⟩
end VDHC
