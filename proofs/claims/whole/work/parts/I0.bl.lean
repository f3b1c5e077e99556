/-! ===== the face: block ===== -/
section VDA3
variable {M N : vd_M} {ow fa lo lf : Nat} {Z : Nat → Nat → Nat → Nat} {f g : Nat → Nat → Int32}
theorem vd_P68z (hM : vd_SC M ow fa lo lf) (e1 : f 37 2 = vd_I 0) (e2 : f 37 3 = vd_I 0) {a b : Int} (a0 : -2147483648 ≤ a) (a1 : a < 2147483648) (b0 : -2147483648 ≤ b) (b1 : b < 2147483648) (d : Nat) (Q : vd_M → (Option Value ⊕ Nat) → Prop) : vd_wp (d + 1) 68 0 [.ref 37, .int (vd_I a), .int (vd_I b)] [] (vd_mf M f) Q = Q (vd_mf M f) (.inl (some (.int (vd_I (-1))))) := by
  have p69 : ∀ Q, vd_wp d 69 0 [.ref 37, .int (vd_I a), .int (vd_I b)] [] (vd_mf M f) Q = Q (vd_mf M f) (.inl (some (.int (vd_I 0)))) := fun Q => by
    simp (disch := first | assumption | decide | omega) only [vd_S69_0 hM, vd_S69_4 hM, vd_S69_8 hM, vd_S69_16 hM, vd_S69_24 hM, vd_S69_28 hM, vd_S69_29 hM, e1, e2, vd_I_toInt, vd_rok0, vd_rok1]
    repeat' split
    all_goals first
      | rfl
      | (exfalso; omega)
  simp (disch := first | assumption | omega) only [vd_S68_0 hM, vd_S68_9 hM, vd_S68_23 hM, vd_S68_24 hM, vd_S68_3 hM, vd_S68_19 hM, vd_S68_6 hM, p69, vd_rs_v, vd_rs_n, vd_I_toInt, eq_self, if_true]
theorem vd_block (hA : vd_API M N ow fa lo lf Z f g) (x1 x2 x3 : Int32) : vd_AP M N Z f g 2 162 [.ref 10, .int x1, .int x2, .int x3, vd_U] 1 283 [.ref 63, .int x1, .int x2, .int x3, vd_U] 18 15 0 0 := by
  have hA' := hA
  obtain ⟨hI, _, _, _⟩ := hA
  have hM := hI.1.1
  have hN := hI.1.2.1
  obtain ⟨x, hx, xx0, xx1⟩ := vd_I_of x1
  obtain ⟨y, hy, yy0, yy1⟩ := vd_I_of x2
  obtain ⟨z, hz, z0, z1⟩ := vd_I_of x3
  subst hx hy hz
  obtain ⟨g', hg⟩ : ∃ g', g' = vd_up g 63 2 (vd_I 0) := ⟨_, rfl⟩
  have kg : ∀ c i, ¬ (c = 63 ∧ i = 2) → g' c i = g c i := fun c i q => by rw [hg, vd_up_ne q]
  have g2 : g' 63 2 = vd_I 0 := by rw [hg, vd_up_eq]
  have p0 := fun (x : Int32) (d : Nat) Q => vd_P168 hN (g := g') x (b := 0) (Or.inl rfl) d Q
  have p1 := fun (x : Int32) (d : Nat) Q => vd_P168 hN (g := g') x (b := 1) (Or.inr rfl) d Q
  have eRb : ∀ d Q, vd_wp (d + 1) 283 31 [.ref 63, .int (vd_I x), .int (vd_I y), .int (vd_I z), vd_U] [.int (vd_I 1), .ref 63] (vd_mf N g') Q = Q (vd_mf N (vd_up g' 63 2 (vd_I 1))) (.inl (some (.int (vd_I 0)))) := fun d Q => by
    simp (disch := omega) only [vd_S283_31 hN, vd_S283_36 hN, p1, show ¬ ((1 : Int) = 0) by decide, if_false, vd_rs_v, vd_S283_39 hN, vd_I_toInt, vd_S283_65 hN]
  have out : (∀ d Q, vd_wp (d + 1) 68 0 [.ref 37, .int (vd_I x), .int (vd_I y)] [] (vd_mf M f) Q = Q (vd_mf M f) (.inl (some (.int (vd_I (-1)))))) → (∀ d Q, vd_wp (d + 1) 283 0 [.ref 63, .int (vd_I x), .int (vd_I y), .int (vd_I z), vd_U] [] (vd_mf N g) Q = vd_wp (d + 1) 283 31 [.ref 63, .int (vd_I x), .int (vd_I y), .int (vd_I z), vd_U] [.int (vd_I 1), .ref 63] (vd_mf N g') Q) → vd_AP M N Z f g 2 162 [.ref 10, .int (vd_I x), .int (vd_I y), .int (vd_I z), vd_U] 1 283 [.ref 63, .int (vd_I x), .int (vd_I y), .int (vd_I z), vd_U] 18 15 0 0 := fun h1 h2 => by
    refine vd_AP.ro hA' (t := 1) (v := 0) (v' := vd_I 0) (g' := vd_up g' 63 2 (vd_I 1)) (fun h => absurd h (by decide)) (fun _ d Q => ?_) (fun h => absurd h (by decide)) (fun d Q => (h2 d Q).trans (eRb d Q)) (fun h => absurd h (by decide)) (Or.inr (Or.inl ⟨rfl, by decide⟩)) (by rw [vd_up_eq]) (fun c i q => by rw [vd_up_ne q, kg c i q])
    simp (disch := omega) only [vd_S162_0 hM, vd_S162_6 hM, h1, vd_rs_v, vd_S162_9 hM, vd_I_toInt, show ((-1 : Int) < 0) by decide, if_true, vd_S162_16 hM]
  obtain ⟨w, h, lm, _, _, _, hG⟩ := hI.2.2.2.2.1
  rcases hG with ⟨_, _, ⟨q2, q3⟩, q70, q71⟩ | ⟨W, H, nb, O, B, mp, wb, ⟨hW, hH⟩, ⟨ga, gb⟩, ⟨q70, q71⟩, cov, _⟩
  · have k70 : g' 63 70 = vd_I 0 := by rw [kg 63 70 (by omega), q70]
    refine out (fun d Q => vd_P68z hM q2 q3 xx0 xx1 yy0 yy1 d Q) (fun d Q => ?_)
    by_cases c1 : x < 0
    · simp (disch := omega) only [vd_S283_0 hN, ← hg, vd_I_toInt, c1, if_true]
    · by_cases c2 : y < 0
      · simp (disch := omega) only [vd_S283_0 hN, ← hg, vd_I_toInt, c1, if_false, vd_S283_11 hN, c2, if_true]
      · simp (disch := omega) only [vd_S283_0 hN, ← hg, vd_I_toInt, c1, if_false, vd_S283_11 hN, c2, vd_S283_15 hN, k70]
  · have W24 := ga.2.1
    have k70 : g' 63 70 = vd_I (W : Int) := by rw [kg 63 70 (by omega), q70]
    have k71 : g' 63 71 = vd_I (H : Int) := by rw [kg 63 71 (by omega), q71]
    have p68 := fun (d : Nat) Q => vd_P68 hM ga (a := x) (b := y) (d := d) (Q := Q) xx0 xx1 yy0 yy1
    by_cases c : 0 ≤ x ∧ 0 ≤ y ∧ x < (W : Int) ∧ y < (H : Int)
    · obtain ⟨i, ei⟩ : ∃ i : Nat, x = (i : Int) := ⟨x.toNat, by omega⟩
      obtain ⟨j, ej⟩ : ∃ j : Nat, y = (j : Int) := ⟨y.toNat, by omega⟩
      subst ei ej
      have hi : i < W := by omega
      have hj : j < H := by omega
      have ea : vd_at W H O (i : Int) (j : Int) = O i j := by
        unfold vd_at
        rw [if_pos c, Int.toNat_natCast, Int.toNat_natCast]
      rw [ea] at p68
      cases ho : O i j with
      | none => exact absurd ho (cov i j hi hj)
      | some k =>
        have hk := ga.2.2.2.1 i j k ho
        have fx := ga.2.2.2.2.1 k
        have bv := ga.2.2.2.2.2 k hk
        have ep : vd_pl (O i j) = 18 * (k : Int) := by rw [ho]; rfl
        rw [ep] at p68
        obtain ⟨⟨G92, G93, G94, G95, G96, G89⟩, ⟨G97, G98, G99, _⟩, ⟨G102, G102b, G100⟩, ⟨G103, G104, G103b, G104b⟩, G101, _⟩ := gb.2.2 i j k hi hj ho
        have ix := vd_ix hi hj
        have ixb : W * H ≤ 24 * 24 := Nat.mul_le_mul (by omega) (by omega)
        obtain ⟨u, hu⟩ : ∃ u, u = W * j + i := ⟨_, rfl⟩
        rw [← hu] at ix G92 G93 G94 G95 G96 G89 G97 G98 G99 G102 G102b G100 G103 G104 G103b G104b G101
        have u5 : u < 576 := by omega
        have eu : (j : Int) * (W : Int) + (i : Int) = (u : Int) := by
          have : ((W * j : Nat) : Int) = (W : Int) * (j : Int) := Int.natCast_mul W j
          have : (W : Int) * (j : Int) = (j : Int) * (W : Int) := Int.mul_comm _ _
          omega
        have eC : ∀ d Q, vd_wp (d + 2) 162 0 [.ref 10, .int (vd_I (i : Int)), .int (vd_I (j : Int)), .int (vd_I z), vd_U] [] (vd_mf M f) Q = vd_wp (d + 2) 162 24 [.ref 10, .int (vd_I (i : Int)), .int (vd_I (j : Int)), .int (vd_I z), .int (vd_I (18 * (k : Int)))] [] (vd_mf M f) Q := fun d Q => by
          simp (disch := omega) only [vd_S162_0 hM, vd_S162_6 hM, p68, vd_rs_v, vd_S162_9 hM, vd_I_toInt, show ¬ (18 * (k : Int) < 0) by omega, if_false]
        have eR : ∀ d Q, vd_wp (d + 1) 283 0 [.ref 63, .int (vd_I (i : Int)), .int (vd_I (j : Int)), .int (vd_I z), vd_U] [] (vd_mf N g) Q = vd_wp (d + 1) 283 42 [.ref 63, .int (vd_I (i : Int)), .int (vd_I (j : Int)), .int (vd_I z), vd_U] [] (vd_mf N g') Q := fun d Q => by
          simp (disch := omega) only [vd_S283_0 hN, ← hg, vd_I_toInt, show ¬ ((i : Int) < 0) by omega, if_false, vd_S283_11 hN, show ¬ ((j : Int) < 0) by omega, vd_S283_15 hN, k70, c.2.2.1, if_true, vd_S283_23 hN, k71, c.2.2.2, vd_S283_35 hN, vd_S283_36 hN, p0, eq_self, vd_rs_v, vd_S283_39 hN]
        by_cases cz : 0 ≤ z ∧ z ≤ 16
        · have eC2 : ∀ d Q, vd_wp (d + 2) 162 0 [.ref 10, .int (vd_I (i : Int)), .int (vd_I (j : Int)), .int (vd_I z), vd_U] [] (vd_mf M f) Q = Q (vd_mf M f) (.inl (some (.int (vd_I (B k z.toNat))))) := fun d Q => by
            have et : (18 * (k : Int) + z).toNat = 18 * k + z.toNat := by omega
            rw [eC d Q]
            simp (disch := omega) only [vd_S162_24 hM, vd_I_toInt, show ¬ (z < 0) by omega, if_false, vd_S162_28 hM, show (z < 17) by omega, if_true, vd_S162_42 hM, vd_I_add, vd_S162_53 hM, et]
            rw [fx z.toNat hk (by omega)]
          have eR2 : ∀ d Q, vd_wp (d + 1) 283 0 [.ref 63, .int (vd_I (i : Int)), .int (vd_I (j : Int)), .int (vd_I z), vd_U] [] (vd_mf N g) Q = vd_wp (d + 1) 283 (vd_tsw 78 232 0 15 #[78, 86, 94, 102, 110, 118, 134, 142, 150, 158, 168, 180, 188, 198, 208, 220] (vd_I z)) [.ref 63, .int (vd_I (i : Int)), .int (vd_I (j : Int)), .int (vd_I z), .int (vd_I (u : Int))] [] (vd_mf N g') Q := fun d Q => by
            rw [eR d Q]
            simp (disch := omega) only [vd_S283_42 hN, vd_I_toInt, show ¬ (z < 0) by omega, if_false, vd_S283_48 hN, show ¬ (16 < z) by omega, vd_S283_58 hN, vd_S283_59 hN, p0, eq_self, if_true, vd_rs_v, vd_S283_62 hN, vd_S283_67 hN, k70, vd_I_mul, vd_I_add, eu, vd_S283_78 hN]
          have e2u : (2 : Int) * (u : Int) = ((2 * u : Nat) : Int) := by omega
          have e2u1 : ((2 * u : Nat) : Int) + 1 = ((2 * u + 1 : Nat) : Int) := by omega
          have fin : (∀ d Q, vd_wp (d + 1) 283 0 [.ref 63, .int (vd_I (i : Int)), .int (vd_I (j : Int)), .int (vd_I z), vd_U] [] (vd_mf N g) Q = Q (vd_mf N g') (.inl (some (.int (vd_I (B k z.toNat)))))) → vd_AP M N Z f g 2 162 [.ref 10, .int (vd_I (i : Int)), .int (vd_I (j : Int)), .int (vd_I z), vd_U] 1 283 [.ref 63, .int (vd_I (i : Int)), .int (vd_I (j : Int)), .int (vd_I z), vd_U] 18 15 0 0 := fun h2 => vd_AP.ro hA' (t := 0) (v := vd_I (B k z.toNat)) (v' := vd_I (B k z.toNat)) (g' := g') (fun _ => eC2) (fun h => absurd h (by decide)) (fun h => absurd h (by decide)) h2 (fun _ => rfl) (Or.inl rfl) g2 kg
          refine fin (fun d Q => ?_)
          rw [eR2 d Q]
          have gk : ∀ c i, c ≠ 63 → g' c i = g c i := fun c i q => kg c i (by omega)
          have : z = 0 ∨ z = 1 ∨ z = 2 ∨ z = 3 ∨ z = 4 ∨ z = 5 ∨ z = 6 ∨ z = 7 ∨ z = 8 ∨ z = 9 ∨ z = 10 ∨ z = 11 ∨ z = 12 ∨ z = 13 ∨ z = 14 ∨ z = 15 ∨ z = 16 := by omega
          rcases this with rfl | rfl | rfl | rfl | rfl | rfl | rfl | rfl | rfl | rfl | rfl | rfl | rfl | rfl | rfl | rfl | rfl
          · rw [show vd_tsw 78 232 0 15 #[78, 86, 94, 102, 110, 118, 134, 142, 150, 158, 168, 180, 188, 198, 208, 220] (vd_I 0) = 156 by decide, show (0 : Int).toNat = 0 from rfl]
            simp (disch := omega) only [vd_S283_156 hN, vd_S283_162 hN, Int.toNat_natCast, gk, G92]
          · rw [show vd_tsw 78 232 0 15 #[78, 86, 94, 102, 110, 118, 134, 142, 150, 158, 168, 180, 188, 198, 208, 220] (vd_I 1) = 164 by decide, show (1 : Int).toNat = 1 from rfl]
            simp (disch := omega) only [vd_S283_164 hN, vd_S283_170 hN, Int.toNat_natCast, gk, G93]
          · rw [show vd_tsw 78 232 0 15 #[78, 86, 94, 102, 110, 118, 134, 142, 150, 158, 168, 180, 188, 198, 208, 220] (vd_I 2) = 172 by decide, show (2 : Int).toNat = 2 from rfl]
            simp (disch := omega) only [vd_S283_172 hN, vd_S283_178 hN, Int.toNat_natCast, gk, G94]
          · rw [show vd_tsw 78 232 0 15 #[78, 86, 94, 102, 110, 118, 134, 142, 150, 158, 168, 180, 188, 198, 208, 220] (vd_I 3) = 180 by decide, show (3 : Int).toNat = 3 from rfl]
            simp (disch := omega) only [vd_S283_180 hN, vd_S283_186 hN, Int.toNat_natCast, gk, G95]
          · rw [show vd_tsw 78 232 0 15 #[78, 86, 94, 102, 110, 118, 134, 142, 150, 158, 168, 180, 188, 198, 208, 220] (vd_I 4) = 188 by decide, show (4 : Int).toNat = 4 from rfl]
            simp (disch := omega) only [vd_S283_188 hN, vd_S283_194 hN, Int.toNat_natCast, gk, G96]
          · have b5 : B k 5 = 0 ∨ B k 5 = 1 := by have := bv.2.1; omega
            rw [show vd_tsw 78 232 0 15 #[78, 86, 94, 102, 110, 118, 134, 142, 150, 158, 168, 180, 188, 198, 208, 220] (vd_I 5) = 196 by decide, show (5 : Int).toNat = 5 from rfl]
            rcases b5 with b5 | b5
            · rw [b5] at G89 ⊢
              simp (disch := omega) only [vd_S283_196 hN, vd_S283_202 hN, Int.toNat_natCast, gk, G89, vd_I_toInt, eq_self, if_true, vd_S283_210 hN, vd_S283_211 hN]
            · rw [b5] at G89 ⊢
              simp (disch := omega) only [vd_S283_196 hN, vd_S283_202 hN, Int.toNat_natCast, gk, G89, vd_I_toInt, show ¬ ((1 : Int) = 0) by decide, if_false, vd_S283_206 hN, vd_S283_211 hN]
          · rw [show vd_tsw 78 232 0 15 #[78, 86, 94, 102, 110, 118, 134, 142, 150, 158, 168, 180, 188, 198, 208, 220] (vd_I 6) = 212 by decide, show (6 : Int).toNat = 6 from rfl]
            simp (disch := omega) only [vd_S283_212 hN, vd_S283_218 hN, Int.toNat_natCast, gk, G97]
          · rw [show vd_tsw 78 232 0 15 #[78, 86, 94, 102, 110, 118, 134, 142, 150, 158, 168, 180, 188, 198, 208, 220] (vd_I 7) = 220 by decide, show (7 : Int).toNat = 7 from rfl]
            simp (disch := omega) only [vd_S283_220 hN, vd_S283_226 hN, Int.toNat_natCast, gk, G98]
          · rw [show vd_tsw 78 232 0 15 #[78, 86, 94, 102, 110, 118, 134, 142, 150, 158, 168, 180, 188, 198, 208, 220] (vd_I 8) = 228 by decide, show (8 : Int).toNat = 8 from rfl]
            simp (disch := omega) only [vd_S283_228 hN, vd_S283_234 hN, Int.toNat_natCast, gk, G99]
          · rw [show vd_tsw 78 232 0 15 #[78, 86, 94, 102, 110, 118, 134, 142, 150, 158, 168, 180, 188, 198, 208, 220] (vd_I 9) = 236 by decide, show (9 : Int).toNat = 9 from rfl]
            simp (disch := omega) only [vd_S283_236 hN, vd_I_mul, e2u, vd_S283_244 hN, Int.toNat_natCast, gk, G102]
          · rw [show vd_tsw 78 232 0 15 #[78, 86, 94, 102, 110, 118, 134, 142, 150, 158, 168, 180, 188, 198, 208, 220] (vd_I 10) = 246 by decide, show (10 : Int).toNat = 10 from rfl]
            simp (disch := omega) only [vd_S283_246 hN, vd_I_mul, e2u, vd_I_add, e2u1, vd_S283_256 hN, Int.toNat_natCast, gk, G102b]
          · rw [show vd_tsw 78 232 0 15 #[78, 86, 94, 102, 110, 118, 134, 142, 150, 158, 168, 180, 188, 198, 208, 220] (vd_I 11) = 258 by decide, show (11 : Int).toNat = 11 from rfl]
            simp (disch := omega) only [vd_S283_258 hN, vd_S283_264 hN, Int.toNat_natCast, gk, G100]
          · rw [show vd_tsw 78 232 0 15 #[78, 86, 94, 102, 110, 118, 134, 142, 150, 158, 168, 180, 188, 198, 208, 220] (vd_I 12) = 266 by decide, show (12 : Int).toNat = 12 from rfl]
            simp (disch := omega) only [vd_S283_266 hN, vd_I_mul, e2u, vd_S283_274 hN, Int.toNat_natCast, gk, G103]
          · rw [show vd_tsw 78 232 0 15 #[78, 86, 94, 102, 110, 118, 134, 142, 150, 158, 168, 180, 188, 198, 208, 220] (vd_I 13) = 276 by decide, show (13 : Int).toNat = 13 from rfl]
            simp (disch := omega) only [vd_S283_276 hN, vd_I_mul, e2u, vd_S283_284 hN, Int.toNat_natCast, gk, G104]
          · rw [show vd_tsw 78 232 0 15 #[78, 86, 94, 102, 110, 118, 134, 142, 150, 158, 168, 180, 188, 198, 208, 220] (vd_I 14) = 286 by decide, show (14 : Int).toNat = 14 from rfl]
            simp (disch := omega) only [vd_S283_286 hN, vd_I_mul, e2u, vd_I_add, e2u1, vd_S283_296 hN, Int.toNat_natCast, gk, G103b]
          · rw [show vd_tsw 78 232 0 15 #[78, 86, 94, 102, 110, 118, 134, 142, 150, 158, 168, 180, 188, 198, 208, 220] (vd_I 15) = 298 by decide, show (15 : Int).toNat = 15 from rfl]
            simp (disch := omega) only [vd_S283_298 hN, vd_I_mul, e2u, vd_I_add, e2u1, vd_S283_308 hN, Int.toNat_natCast, gk, G104b]
          · rw [show vd_tsw 78 232 0 15 #[78, 86, 94, 102, 110, 118, 134, 142, 150, 158, 168, 180, 188, 198, 208, 220] (vd_I 16) = 310 by decide, show (16 : Int).toNat = 16 from rfl]
            simp (disch := omega) only [vd_S283_310 hN, vd_S283_316 hN, Int.toNat_natCast, gk, G101]
        · refine vd_AP.ro hA' (t := 2) (v := 0) (v' := vd_I 0) (g' := vd_up g' 63 2 (vd_I 2)) (fun h => absurd h (by decide)) (fun h => absurd h (by decide)) (fun _ d Q => ?_) (fun d Q => ?_) (fun h => absurd h (by decide)) (Or.inr (Or.inr ⟨rfl, by decide⟩)) (by rw [vd_up_eq]) (fun c i q => by rw [vd_up_ne q, kg c i q])
          · rw [eC d Q]
            by_cases c2 : z < 0
            · simp (disch := omega) only [vd_S162_24 hM, vd_I_toInt, c2, if_true, vd_S162_34 hM]
            · simp (disch := omega) only [vd_S162_24 hM, vd_I_toInt, c2, if_false, vd_S162_28 hM, show ¬ (z < 17) by omega, vd_S162_34 hM]
          · rw [eR d Q]
            have e : vd_wp (d + 1) 283 54 [.ref 63, .int (vd_I (i : Int)), .int (vd_I (j : Int)), .int (vd_I z), vd_U] [.int (vd_I 2), .ref 63] (vd_mf N g') Q = Q (vd_mf N (vd_up g' 63 2 (vd_I 2))) (.inl (some (.int (vd_I 0)))) := by
              simp (disch := omega) only [vd_S283_54 hN, vd_S283_59 hN, p1, show ¬ ((1 : Int) = 0) by decide, if_false, vd_rs_v, vd_S283_62 hN, vd_I_toInt, vd_S283_65 hN]
            by_cases c2 : z < 0
            · simp (disch := omega) only [vd_S283_42 hN, vd_I_toInt, c2, if_true]
              exact e
            · simp (disch := omega) only [vd_S283_42 hN, vd_I_toInt, c2, if_false, vd_S283_48 hN, show (16 < z) by omega, if_true]
              exact e
    · have ea : vd_pl (vd_at W H O x y) = -1 := by
        unfold vd_at
        rw [if_neg c]
        rfl
      rw [ea] at p68
      refine out p68 (fun d Q => ?_)
      simp (disch := omega) only [vd_S283_0 hN, ← hg, vd_I_toInt, vd_S283_11 hN, vd_S283_15 hN, vd_S283_23 hN, k70, k71]
      repeat' split
      all_goals first
        | rfl
        | (exfalso; omega)
end VDA3
