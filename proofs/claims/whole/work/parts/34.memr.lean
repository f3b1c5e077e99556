/-! ===== readers behind writers ===== -/
section VDM
variable (M : vd_M) (o i a b k len sl : Nat) (v : Int32) (r : Option Nat) (u : Int64) (f : Nat → Int32)
theorem vd_k_si : vd_k (vd_si M o i v) a = vd_k M a := Eq.trans rfl rfl
theorem vd_k_sr : vd_k (vd_sr M o i r) a = vd_k M a := Eq.trans rfl rfl
theorem vd_k_sj : vd_k (vd_sj M o i u) a = vd_k M a := Eq.trans rfl rfl
theorem vd_k_sa : vd_k (vd_sa M o f) a = vd_k M a := Eq.trans rfl rfl
theorem vd_k_new : vd_k (vd_new M k len sl) a = if a = vd_n M then k else vd_k M a := Eq.trans rfl rfl
theorem vd_l_si : vd_l (vd_si M o i v) a = vd_l M a := Eq.trans rfl rfl
theorem vd_l_sr : vd_l (vd_sr M o i r) a = vd_l M a := Eq.trans rfl rfl
theorem vd_l_sj : vd_l (vd_sj M o i u) a = vd_l M a := Eq.trans rfl rfl
theorem vd_l_sa : vd_l (vd_sa M o f) a = vd_l M a := Eq.trans rfl rfl
theorem vd_l_new : vd_l (vd_new M k len sl) a = if a = vd_n M then len else vd_l M a := Eq.trans rfl rfl
theorem vd_i_si : vd_i (vd_si M o i v) a b = if a = o ∧ b = i then v else vd_i M a b := Eq.trans rfl rfl
theorem vd_i_sr : vd_i (vd_sr M o i r) a b = vd_i M a b := Eq.trans rfl rfl
theorem vd_i_sj : vd_i (vd_sj M o i u) a b = vd_i M a b := Eq.trans rfl rfl
theorem vd_i_sa : vd_i (vd_sa M o f) a b = if a = o then f b else vd_i M a b := Eq.trans rfl rfl
theorem vd_i_new : vd_i (vd_new M k len sl) a b = if a = vd_n M then 0 else vd_i M a b := Eq.trans rfl rfl
theorem vd_r_si : vd_r (vd_si M o i v) a b = vd_r M a b := Eq.trans rfl rfl
theorem vd_r_sr : vd_r (vd_sr M o i r) a b = if a = o ∧ b = i then r else vd_r M a b := Eq.trans rfl rfl
theorem vd_r_sj : vd_r (vd_sj M o i u) a b = vd_r M a b := Eq.trans rfl rfl
theorem vd_r_sa : vd_r (vd_sa M o f) a b = vd_r M a b := Eq.trans rfl rfl
theorem vd_r_new : vd_r (vd_new M k len sl) a b = if a = vd_n M then none else vd_r M a b := Eq.trans rfl rfl
theorem vd_j_si : vd_j (vd_si M o i v) a b = vd_j M a b := Eq.trans rfl rfl
theorem vd_j_sr : vd_j (vd_sr M o i r) a b = vd_j M a b := Eq.trans rfl rfl
theorem vd_j_sj : vd_j (vd_sj M o i u) a b = if a = o ∧ b = i then u else vd_j M a b := Eq.trans rfl rfl
theorem vd_j_sa : vd_j (vd_sa M o f) a b = vd_j M a b := Eq.trans rfl rfl
theorem vd_j_new : vd_j (vd_new M k len sl) a b = if a = vd_n M then 0 else vd_j M a b := Eq.trans rfl rfl
theorem vd_n_si : vd_n (vd_si M o i v) = vd_n M := Eq.trans rfl rfl
theorem vd_n_sr : vd_n (vd_sr M o i r) = vd_n M := Eq.trans rfl rfl
theorem vd_n_sj : vd_n (vd_sj M o i u) = vd_n M := Eq.trans rfl rfl
theorem vd_n_sa : vd_n (vd_sa M o f) = vd_n M := Eq.trans rfl rfl
theorem vd_n_new : vd_n (vd_new M k len sl) = vd_n M + 1 := Eq.trans rfl rfl
theorem vd_c_si : vd_c (vd_si M o i v) = vd_c M := Eq.trans rfl rfl
theorem vd_c_sr : vd_c (vd_sr M o i r) = vd_c M := Eq.trans rfl rfl
theorem vd_c_sj : vd_c (vd_sj M o i u) = vd_c M := Eq.trans rfl rfl
theorem vd_c_sa : vd_c (vd_sa M o f) = vd_c M := Eq.trans rfl rfl
theorem vd_c_new : vd_c (vd_new M k len sl) = vd_c M + 1 := Eq.trans rfl rfl
theorem vd_s_si : vd_s (vd_si M o i v) = vd_s M := Eq.trans rfl rfl
theorem vd_s_sr : vd_s (vd_sr M o i r) = vd_s M := Eq.trans rfl rfl
theorem vd_s_sj : vd_s (vd_sj M o i u) = vd_s M := Eq.trans rfl rfl
theorem vd_s_sa : vd_s (vd_sa M o f) = vd_s M := Eq.trans rfl rfl
theorem vd_s_new : vd_s (vd_new M k len sl) = vd_s M + sl := Eq.trans rfl rfl
theorem vd_sa_self : vd_sa M o (vd_i M o) = M := by
  unfold vd_sa
  have : (fun a b => if a = o then vd_i M o b else M.2.2.2.1 a b) = M.2.2.2.1 := by
    funext a b
    by_cases h : a = o
    · subst h; simp [vd_i]
    · simp [h]
  rw [this]
theorem vd_si_sa : vd_si (vd_sa M o f) o i v = vd_sa M o (fun b => if b = i then v else f b) := by
  unfold vd_si vd_sa vd_up
  have : (fun a b => if a = o ∧ b = i then v else if a = o then f b else M.2.2.2.1 a b) = fun a b => if a = o then (if b = i then v else f b) else M.2.2.2.1 a b := by
    funext a b
    by_cases h : a = o
    · subst h; by_cases g : b = i <;> simp [g]
    · simp [h]
  simp only [this]
theorem vd_si_self : vd_si M o i v = vd_sa M o (fun b => if b = i then v else vd_i M o b) := by
  conv => lhs; rw [← vd_sa_self M o]
  rw [vd_si_sa]
theorem vd_sa_sa (g : Nat → Int32) : vd_sa (vd_sa M o f) o g = vd_sa M o g := by
  unfold vd_sa
  have : (fun a b => if a = o then g b else if a = o then f b else M.2.2.2.1 a b) = fun a b => if a = o then g b else M.2.2.2.1 a b := by
    funext a b
    by_cases h : a = o <;> simp [h]
  simp only [this]
end VDM
theorem vd_vr_some (x : Nat) : vd_vr (some x) = .ref x := Eq.trans rfl rfl
theorem vd_vr_none : vd_vr none = .null := Eq.trans rfl rfl
theorem vd_long_int (x : Int32) : vd_long (.int x) = false := Eq.trans rfl rfl
theorem vd_long_ref (x : Nat) : vd_long (.ref x) = false := Eq.trans rfl rfl
theorem vd_long_null : vd_long .null = false := Eq.trans rfl rfl
theorem vd_long_ra (x : Nat) : vd_long (.retAddr x) = false := Eq.trans rfl rfl
theorem vd_cs_nil : vd_cs [] = 0 := Eq.trans rfl rfl
theorem vd_cs_int (x : Int32) (st : List Value) : vd_cs (.int x :: st) = 1 + vd_cs st := Eq.trans rfl rfl
theorem vd_cs_ref (x : Nat) (st : List Value) : vd_cs (.ref x :: st) = 1 + vd_cs st := Eq.trans rfl rfl
theorem vd_cs_null (st : List Value) : vd_cs (.null :: st) = 1 + vd_cs st := Eq.trans rfl rfl
theorem vd_cs_long (x : Int64) (st : List Value) : vd_cs (.long x :: st) = 2 + vd_cs st := Eq.trans rfl rfl
theorem vd_fok0 : vd_fok .boolean (vd_I 0) = true := by decide
theorem vd_fok1 : vd_fok .boolean (vd_I 1) = true := by decide
theorem vd_rok0 : vd_rok (some .boolean) (vd_I 0) = true := by decide
theorem vd_rok1 : vd_rok (some .boolean) (vd_I 1) = true := by decide
theorem vd_MM : (∀ (M : vd_M) (o : Nat) (i : Nat) (a : Nat) (v : Int32), vd_k (vd_si M o i v) a = vd_k M a) ∧ (∀ (M : vd_M) (o : Nat) (i : Nat) (a : Nat) (r : Option Nat), vd_k (vd_sr M o i r) a = vd_k M a) ∧ (∀ (M : vd_M) (o : Nat) (i : Nat) (a : Nat) (u : Int64), vd_k (vd_sj M o i u) a = vd_k M a) ∧ (∀ (M : vd_M) (o : Nat) (a : Nat) (f : Nat → Int32), vd_k (vd_sa M o f) a = vd_k M a) ∧ (∀ (M : vd_M) (a : Nat) (k : Nat) (len : Nat) (sl : Nat), vd_k (vd_new M k len sl) a = if a = vd_n M then k else vd_k M a) ∧ (∀ (M : vd_M) (o : Nat) (i : Nat) (a : Nat) (v : Int32), vd_l (vd_si M o i v) a = vd_l M a) ∧ (∀ (M : vd_M) (o : Nat) (i : Nat) (a : Nat) (r : Option Nat), vd_l (vd_sr M o i r) a = vd_l M a) ∧ (∀ (M : vd_M) (o : Nat) (i : Nat) (a : Nat) (u : Int64), vd_l (vd_sj M o i u) a = vd_l M a) ∧ (∀ (M : vd_M) (o : Nat) (a : Nat) (f : Nat → Int32), vd_l (vd_sa M o f) a = vd_l M a) ∧ (∀ (M : vd_M) (a : Nat) (k : Nat) (len : Nat) (sl : Nat), vd_l (vd_new M k len sl) a = if a = vd_n M then len else vd_l M a) ∧ (∀ (M : vd_M) (o : Nat) (i : Nat) (a : Nat) (b : Nat) (v : Int32), vd_i (vd_si M o i v) a b = if a = o ∧ b = i then v else vd_i M a b) ∧ (∀ (M : vd_M) (o : Nat) (i : Nat) (a : Nat) (b : Nat) (r : Option Nat), vd_i (vd_sr M o i r) a b = vd_i M a b) ∧ (∀ (M : vd_M) (o : Nat) (i : Nat) (a : Nat) (b : Nat) (u : Int64), vd_i (vd_sj M o i u) a b = vd_i M a b) ∧ (∀ (M : vd_M) (o : Nat) (a : Nat) (b : Nat) (f : Nat → Int32), vd_i (vd_sa M o f) a b = if a = o then f b else vd_i M a b) ∧ (∀ (M : vd_M) (a : Nat) (b : Nat) (k : Nat) (len : Nat) (sl : Nat), vd_i (vd_new M k len sl) a b = if a = vd_n M then 0 else vd_i M a b) ∧ (∀ (M : vd_M) (o : Nat) (i : Nat) (a : Nat) (b : Nat) (v : Int32), vd_r (vd_si M o i v) a b = vd_r M a b) ∧ (∀ (M : vd_M) (o : Nat) (i : Nat) (a : Nat) (b : Nat) (r : Option Nat), vd_r (vd_sr M o i r) a b = if a = o ∧ b = i then r else vd_r M a b) ∧ (∀ (M : vd_M) (o : Nat) (i : Nat) (a : Nat) (b : Nat) (u : Int64), vd_r (vd_sj M o i u) a b = vd_r M a b) ∧ (∀ (M : vd_M) (o : Nat) (a : Nat) (b : Nat) (f : Nat → Int32), vd_r (vd_sa M o f) a b = vd_r M a b) ∧ (∀ (M : vd_M) (a : Nat) (b : Nat) (k : Nat) (len : Nat) (sl : Nat), vd_r (vd_new M k len sl) a b = if a = vd_n M then none else vd_r M a b) ∧ (∀ (M : vd_M) (o : Nat) (i : Nat) (a : Nat) (b : Nat) (v : Int32), vd_j (vd_si M o i v) a b = vd_j M a b) ∧ (∀ (M : vd_M) (o : Nat) (i : Nat) (a : Nat) (b : Nat) (r : Option Nat), vd_j (vd_sr M o i r) a b = vd_j M a b) ∧ (∀ (M : vd_M) (o : Nat) (i : Nat) (a : Nat) (b : Nat) (u : Int64), vd_j (vd_sj M o i u) a b = if a = o ∧ b = i then u else vd_j M a b) ∧ (∀ (M : vd_M) (o : Nat) (a : Nat) (b : Nat) (f : Nat → Int32), vd_j (vd_sa M o f) a b = vd_j M a b) ∧ (∀ (M : vd_M) (a : Nat) (b : Nat) (k : Nat) (len : Nat) (sl : Nat), vd_j (vd_new M k len sl) a b = if a = vd_n M then 0 else vd_j M a b) ∧ (∀ (M : vd_M) (o : Nat) (i : Nat) (v : Int32), vd_n (vd_si M o i v) = vd_n M) ∧ (∀ (M : vd_M) (o : Nat) (i : Nat) (r : Option Nat), vd_n (vd_sr M o i r) = vd_n M) ∧ (∀ (M : vd_M) (o : Nat) (i : Nat) (u : Int64), vd_n (vd_sj M o i u) = vd_n M) ∧ (∀ (M : vd_M) (o : Nat) (f : Nat → Int32), vd_n (vd_sa M o f) = vd_n M) ∧ (∀ (M : vd_M) (k : Nat) (len : Nat) (sl : Nat), vd_n (vd_new M k len sl) = vd_n M + 1) ∧ (∀ (M : vd_M) (o : Nat) (i : Nat) (v : Int32), vd_c (vd_si M o i v) = vd_c M) ∧ (∀ (M : vd_M) (o : Nat) (i : Nat) (r : Option Nat), vd_c (vd_sr M o i r) = vd_c M) ∧ (∀ (M : vd_M) (o : Nat) (i : Nat) (u : Int64), vd_c (vd_sj M o i u) = vd_c M) ∧ (∀ (M : vd_M) (o : Nat) (f : Nat → Int32), vd_c (vd_sa M o f) = vd_c M) ∧ (∀ (M : vd_M) (k : Nat) (len : Nat) (sl : Nat), vd_c (vd_new M k len sl) = vd_c M + 1) ∧ (∀ (M : vd_M) (o : Nat) (i : Nat) (v : Int32), vd_s (vd_si M o i v) = vd_s M) ∧ (∀ (M : vd_M) (o : Nat) (i : Nat) (r : Option Nat), vd_s (vd_sr M o i r) = vd_s M) ∧ (∀ (M : vd_M) (o : Nat) (i : Nat) (u : Int64), vd_s (vd_sj M o i u) = vd_s M) ∧ (∀ (M : vd_M) (o : Nat) (f : Nat → Int32), vd_s (vd_sa M o f) = vd_s M) ∧ (∀ (M : vd_M) (k : Nat) (len : Nat) (sl : Nat), vd_s (vd_new M k len sl) = vd_s M + sl) ∧ (∀ (x : Int32), vd_long (.int x) = false) ∧ (∀ (x : Nat), vd_long (.ref x) = false) ∧ (vd_long .null = false) ∧ (∀ (x : Nat), vd_long (.retAddr x) = false) ∧ (vd_cs [] = 0) ∧ (∀ (x : Int32) (st : List Value), vd_cs (.int x :: st) = 1 + vd_cs st) ∧ (∀ (x : Nat) (st : List Value), vd_cs (.ref x :: st) = 1 + vd_cs st) ∧ (∀ (st : List Value), vd_cs (.null :: st) = 1 + vd_cs st) ∧ (∀ (x : Int64) (st : List Value), vd_cs (.long x :: st) = 2 + vd_cs st) ∧ (vd_fok .boolean (vd_I 0) = true) ∧ (vd_fok .boolean (vd_I 1) = true) ∧ (vd_rok (some .boolean) (vd_I 0) = true) ∧ (vd_rok (some .boolean) (vd_I 1) = true) := ⟨vd_k_si, vd_k_sr, vd_k_sj, vd_k_sa, vd_k_new, vd_l_si, vd_l_sr, vd_l_sj, vd_l_sa, vd_l_new, vd_i_si, vd_i_sr, vd_i_sj, vd_i_sa, vd_i_new, vd_r_si, vd_r_sr, vd_r_sj, vd_r_sa, vd_r_new, vd_j_si, vd_j_sr, vd_j_sj, vd_j_sa, vd_j_new, vd_n_si, vd_n_sr, vd_n_sj, vd_n_sa, vd_n_new, vd_c_si, vd_c_sr, vd_c_sj, vd_c_sa, vd_c_new, vd_s_si, vd_s_sr, vd_s_sj, vd_s_sa, vd_s_new, vd_long_int, vd_long_ref, vd_long_null, vd_long_ra, vd_cs_nil, vd_cs_int, vd_cs_ref, vd_cs_null, vd_cs_long, vd_fok0, vd_fok1, vd_rok0, vd_rok1⟩
theorem vd_akk_eq (M : vd_M) (o v : Nat) : vd_akk M o v = ((vd_k M o = 36 ∧ vd_k M v = 7) ∨ (vd_k M o = 37 ∧ vd_k M v = 13) ∨ (vd_k M o = 38 ∧ vd_k M v = 32) ∨ (vd_k M o = 39 ∧ vd_k M v = 33) ∨ (vd_k M o = 40 ∧ vd_k M v = 34)) := propext (Iff.intro (fun h => h) (fun h => h))
theorem vd_gen {P : vd_M → Prop} {M : vd_M} (h : ∀ M', M' = M → P M') : P M := h M rfl
