/-! ===== what holds between the frames ===== -/
/-- a picture that is held, by slot h or (8) as the one shown -/
def vd_pic (M N : vd_M) (f g : Nat → Nat → Int32) (h : Nat) : Prop := (vd_hol M h = none ∧ vd_hor N h = none) ∨ ∃ (p s k : Nat) (w hh : Int) (P : Nat → Nat → Nat → Int), (vd_hol M h = some p ∧ vd_PC M p s) ∧ (k < 11 ∧ vd_hor N h = some (129 + 5 * k)) ∧ (1 ≤ w ∧ w ≤ 192 ∧ 1 ≤ hh ∧ hh ≤ 192) ∧ (f p 0 = vd_I w ∧ f p 1 = vd_I hh) ∧ (g (129 + 5 * k) 0 = vd_I w ∧ g (129 + 5 * k) 1 = vd_I hh) ∧ vd_PSC s w hh P f ∧ vd_PSR (129 + 5 * k) w hh P g ∧ ∀ pl x y, 0 ≤ P pl x y ∧ P pl x y ≤ 255
/-- settings that are kept -/
def vd_sett (f g : Nat → Nat → Int32) : Prop := (∀ i, i < 6 → ∃ z : Int, (-64 ≤ z ∧ z ≤ 64) ∧ f 21 i = vd_I z ∧ g 73 i = vd_I z) ∧ (∀ k, k < 32 → ∃ on z : Int, (on = 0 ∨ on = 1) ∧ (-256 ≤ z ∧ z ≤ 256 ∧ (k % 4 = 2 → 0 ≤ z ∧ z ≤ 3)) ∧ f 25 k = vd_I on ∧ g 74 k = vd_I on ∧ (k % 4 ≠ 3 → f 26 k = vd_I z ∧ g 75 k = vd_I z)) ∧ (∃ ab : Int, (ab = 0 ∨ ab = 1) ∧ f 20 11 = vd_I ab ∧ g 63 13 = vd_I ab)
/-- settings that are kept; the numbers behind the references differ until a picture is kept -/
def vd_sti (M : vd_M) (f g : Nat → Nat → Int32) : Prop := ((∀ i, i < 6 → ∃ z : Int, (-64 ≤ z ∧ z ≤ 64) ∧ f 21 i = vd_I z ∧ g 73 i = vd_I z) ∨ (∀ h, h < 8 → vd_r M 13 h = none)) ∧ (∀ k, k < 32 → ∃ on z : Int, (on = 0 ∨ on = 1) ∧ (-256 ≤ z ∧ z ≤ 256 ∧ (k % 4 = 2 → 0 ≤ z ∧ z ≤ 3)) ∧ f 25 k = vd_I on ∧ g 74 k = vd_I on ∧ (k % 4 ≠ 3 → f 26 k = vd_I z ∧ g 75 k = vd_I z)) ∧ (∃ ab : Int, (ab = 0 ∨ ab = 1) ∧ f 20 11 = vd_I ab ∧ g 63 13 = vd_I ab)
theorem vd_sett.sti {f g : Nat → Nat → Int32} (h : vd_sett f g) (M : vd_M) : vd_sti M f g := ⟨Or.inl h.1, h.2⟩
def vd_bol (f : Nat → Nat → Int32) : Prop := vd_fok .boolean (f 20 2) = true ∧ vd_fok .boolean (f 20 6) = true ∧ vd_fok .boolean (f 20 7) = true ∧ vd_fok .boolean (f 20 8) = true
/-- the grid of the last frame, if there was one -/
def vd_gri (ow fa : Nat) (f g : Nat → Nat → Int32) : Prop := ∃ w h lm : Int, (f 37 0 = vd_I w ∧ f 37 1 = vd_I h ∧ f 37 5 = vd_I lm) ∧ (g 63 14 = vd_I w ∧ g 63 15 = vd_I h ∧ g 63 16 = vd_I lm) ∧ (lm = 0 ∨ lm = 1) ∧ ((w = 0 ∧ h = 0 ∧ (f 37 2 = vd_I 0 ∧ f 37 3 = vd_I 0) ∧ (g 63 70 = vd_I 0 ∧ g 63 71 = vd_I 0)) ∨ ∃ (W H nb : Nat) (O : Nat → Nat → Option Nat) (B mp : Nat → Nat → Int), (1 ≤ w ∧ w ≤ 192 ∧ 1 ≤ h ∧ h ≤ 192) ∧ ((W : Int) = (w + 7) / 8 ∧ (H : Int) = (h + 7) / 8) ∧ (vd_GA ow fa W H nb O B f ∧ vd_GB W H O B g) ∧ (g 63 70 = vd_I (W : Int) ∧ g 63 71 = vd_I (H : Int)) ∧ (∀ i j, i < W → j < H → O i j ≠ none) ∧ (∀ i j, 0 ≤ mp i j ∧ mp i j ≤ 7) ∧ (∀ i j, i < W → j < H → f 42 (24 * j + i) = vd_I (mp i j) ∧ g 72 (W * j + i) = vd_I (mp i j)) ∧ (∀ i j k, i < W → j < H → O i j = some k → vd_og g 76 77 78 (W * j + i) (B k)))
/-- what is counted -/
def vd_cnt (f g : Nat → Nat → Int32) : Prop := (f 10 4 = g 63 20 ∧ f 10 5 = g 63 21 ∧ f 10 6 = g 79 4) ∧ (f 37 4 = g 79 0 ∧ f 34 3 = g 79 1 ∧ f 45 3 = g 79 2 ∧ f 60 2 = g 79 3)
def vd_tbz (Z : Nat → Nat → Nat → Nat) (f g : Nat → Nat → Int32) : Prop := (vd_stC f ∧ vd_stW f ∧ vd_TB f) ∧ vd_SCT Z f g ∧ (vd_stR g ∧ vd_tpR g) ∧ vd_SCV Z
def vd_INV (M N : vd_M) (ow fa lo lf : Nat) (Z : Nat → Nat → Nat → Nat) (f g : Nat → Nat → Int32) : Prop := (vd_SC M ow fa lo lf ∧ vd_SR N ∧ vd_PL M ∧ 197 ≤ vd_n N) ∧ (vd_RT f g ∧ vd_CXR f g ∧ vd_J18 3 f) ∧ ((∀ h, h < 9 → vd_pic M N f g h) ∧ vd_HDR N g) ∧ (vd_sti M f g ∧ vd_bol f) ∧ vd_gri ow fa f g ∧ vd_cnt f g ∧ vd_tbz Z f g
/-- settings of a frame: those that are kept and its own -/
def vd_S2 (f g : Nat → Nat → Int32) : Prop := (∃ lv sh ec : Int, (0 ≤ lv ∧ lv ≤ 63 ∧ 0 ≤ sh ∧ sh ≤ 7 ∧ (ec = 0 ∨ ec = 1)) ∧ (f 20 0 = vd_I lv ∧ f 20 1 = vd_I sh ∧ f 20 2 = vd_I ec) ∧ (g 63 41 = vd_I lv ∧ g 63 42 = vd_I sh ∧ g 63 48 = vd_I ec)) ∧ (∃ (bs : Int) (dl : Nat → Int) (l : Int), (0 ≤ bs ∧ bs ≤ 255 ∧ f 20 4 = vd_I bs ∧ g 63 43 = vd_I bs) ∧ (∀ j, j < 3 → f 22 j = vd_I (dl j) ∧ g 85 j = vd_I (dl j) ∧ -16 ≤ dl j ∧ dl j ≤ 16) ∧ g 63 35 = vd_I l ∧ (l = 0 ∨ l = 1) ∧ (l = 1 ↔ bs = 0 ∧ ∀ j, j < 3 → dl j = 0)) ∧ (∃ iu mt gu : Int, ((iu = 0 ∨ iu = 1) ∧ (mt = 0 ∨ mt = 1) ∧ (gu = 0 ∨ gu = 1)) ∧ (f 20 6 = vd_I iu ∧ f 20 7 = vd_I mt ∧ f 20 8 = vd_I gu) ∧ (g 63 36 = vd_I iu ∧ g 63 37 = vd_I mt ∧ g 63 38 = vd_I gu) ∧ (mt = 1 → ∀ j, j < 7 → vd_rlC f g 23 86 j) ∧ (gu = 1 → ∀ j, j < 3 → vd_rlC f g 24 87 j)) ∧ vd_sett f g
theorem vd_fok01 {z : Int} (h : z = 0 ∨ z = 1) : vd_fok .boolean (vd_I z) = true := by rcases h with rfl | rfl <;> decide
theorem vd_S2.bol {f g : Nat → Nat → Int32} (h : vd_S2 f g) : vd_bol f := by
  obtain ⟨⟨lv, sh, ec, ⟨_, _, _, _, e⟩, ⟨_, _, h2⟩, _⟩, _, ⟨iu, mt, gu, ⟨a, b, c⟩, ⟨h6, h7, h8⟩, _⟩, _⟩ := h
  refine ⟨?_, ?_, ?_, ?_⟩
  · rw [h2]; exact vd_fok01 e
  · rw [h6]; exact vd_fok01 a
  · rw [h7]; exact vd_fok01 b
  · rw [h8]; exact vd_fok01 c
/-- what X is made of -/
def vd_Xm (st tm db fi ke iu mt gu ab bs lv sh ec l : Int) (sd tr gs on vl dl ex : Nat → Int) : Nat → Nat → Int := fun a i => match a with
  | 0 => (match i with
    | 0 => st
    | 1 => tm
    | 2 => db
    | 3 => fi
    | 4 => ke
    | 5 => iu
    | 6 => mt
    | 7 => gu
    | 8 => ab
    | 9 => bs
    | 10 => lv
    | 11 => sh
    | 12 => ec
    | _ => l)
  | 1 => sd i
  | 2 => tr i
  | 3 => gs i
  | 4 => on i
  | 5 => vl i
  | 6 => dl i
  | _ => ex i
theorem vd_toI {x : Int32} {z : Int} (h : x = vd_I z) (a : -2147483648 ≤ z) (b : z < 2147483648) : x.toInt = z := by rw [h, vd_I_toInt a b]
theorem vd_Iself (x : Int32) : vd_I x.toInt = x := Int32.ofInt_toInt x
theorem vd_ctxX {f g : Nat → Nat → Int32} {kd tm db l : Int} (hS : vd_S2 f g) (h4 : f 17 4 = vd_I kd) (k0 : 0 ≤ kd) (k1 : kd ≤ 2) (h33 : g 63 33 = vd_I (if kd = 2 then 0 else 1)) (h35 : g 63 35 = vd_I l) (l01 : l = 0 ∨ l = 1) (t : 0 ≤ tm ∧ tm ≤ 4 ∧ (l = 1 → tm = 0)) (b : 0 ≤ db ∧ db ≤ 2) (c : f 17 17 = vd_I tm ∧ f 17 18 = vd_I (if db = 0 then 0 else 1) ∧ f 17 19 = vd_I (if db = 2 then 1 else 0)) (e : g 63 44 = vd_I tm ∧ g 63 45 = vd_I db) (hk : kd = 2 → ∃ fi ke : Int, ((fi = 0 ∨ fi = 1) ∧ 0 ≤ ke ∧ ke ≤ 2) ∧ (f 17 10 = vd_I fi ∧ f 17 11 = vd_I ke ∧ g 63 34 = vd_I fi ∧ g 63 40 = vd_I ke) ∧ ∀ j, j < 3 → ∃ sd : Int, (sd = 0 ∨ sd = 1) ∧ f 19 j = vd_I sd ∧ g 84 j = vd_I sd) : ∃ X : Nat → Nat → Int, vd_XV X ∧ vd_CA X f ∧ vd_CB X g ∧ (X 0 0 = 0 ↔ kd = 2) := by
  obtain ⟨⟨lv, sh, ec, ⟨v1, v2, v3, v4, v5⟩, ⟨a1, a2, a3⟩, ⟨a4, a5, a6⟩⟩, ⟨bs, dl, l', ⟨b1, b2, b3, b4⟩, b5, b6, b7, b8⟩, ⟨iu, mt, gu, ⟨c1, c2, c3⟩, ⟨c4, c5, c6⟩, ⟨c7, c8, c9⟩, c10, c11⟩, d1, d2, ab, d3, d4, d5⟩ := hS
  have hl : l' = l := by
    have q1 := vd_toI b6 (by rcases b7 with h | h <;> rw [h] <;> decide) (by rcases b7 with h | h <;> rw [h] <;> decide)
    have q2 := vd_toI h35 (by rcases l01 with h | h <;> rw [h] <;> decide) (by rcases l01 with h | h <;> rw [h] <;> decide)
    exact q1.symm.trans q2
  subst hl
  obtain ⟨fi, ke, sd, x1, x2, x3, x4, x5⟩ : ∃ (fi ke : Int) (sd : Nat → Int), (fi = 0 ∨ fi = 1) ∧ (0 ≤ ke ∧ ke ≤ 2) ∧ (∀ j, j < 3 → sd j = 0 ∨ sd j = 1) ∧ (kd = 2 → f 17 10 = vd_I fi ∧ f 17 11 = vd_I ke ∧ g 63 34 = vd_I fi ∧ g 63 40 = vd_I ke) ∧ (kd = 2 → ∀ j, j < 3 → f 19 j = vd_I (sd j) ∧ g 84 j = vd_I (sd j)) := by
    by_cases q : kd = 2
    · obtain ⟨fi, ke, ⟨y1, y2, y3⟩, y4, y5⟩ := hk q
      refine ⟨fi, ke, fun j => (f 19 j).toInt, y1, ⟨y2, y3⟩, fun j hj => ?_, fun _ => y4, fun _ j hj => ?_⟩
      · obtain ⟨sd, u1, u2, u3⟩ := y5 j hj
        show (f 19 j).toInt = 0 ∨ (f 19 j).toInt = 1
        rw [vd_toI u2 (by omega) (by omega)]
        exact u1
      · obtain ⟨sd, u1, u2, u3⟩ := y5 j hj
        show f 19 j = vd_I (f 19 j).toInt ∧ g 84 j = vd_I (f 19 j).toInt
        rw [vd_Iself]
        exact ⟨rfl, by rw [u2, u3]⟩
    · exact ⟨0, 0, fun _ => 0, Or.inl rfl, ⟨by decide, by decide⟩, fun _ _ => Or.inl rfl, fun q' => absurd q' q, fun q' => absurd q' q⟩
  obtain ⟨tr, t1, t2⟩ : ∃ tr : Nat → Int, (∀ j, j < 7 → 0 ≤ tr j ∧ tr j ≤ 255) ∧ (mt = 1 → ∀ j, j < 7 → f 23 j = vd_I (tr j) ∧ g 86 j = vd_I (tr j)) := by
    by_cases q : mt = 1
    · refine ⟨fun j => (f 23 j).toInt, fun j hj => ?_, fun _ j hj => ?_⟩
      · obtain ⟨z, u1, u2, u3⟩ := c10 q j hj
        show 0 ≤ (f 23 j).toInt ∧ (f 23 j).toInt ≤ 255
        rw [vd_toI u2 (by omega) (by omega)]
        omega
      · obtain ⟨z, u1, u2, u3⟩ := c10 q j hj
        show f 23 j = vd_I (f 23 j).toInt ∧ g 86 j = vd_I (f 23 j).toInt
        rw [vd_Iself]
        exact ⟨rfl, by rw [u2, u3]⟩
    · exact ⟨fun _ => 0, fun _ _ => by show (0 : Int) ≤ 0 ∧ (0 : Int) ≤ 255; decide, fun q' => absurd q' q⟩
  obtain ⟨gs, g1, g2⟩ : ∃ gs : Nat → Int, (∀ j, j < 3 → 0 ≤ gs j ∧ gs j ≤ 255) ∧ (gu = 1 → ∀ j, j < 3 → f 24 j = vd_I (gs j) ∧ g 87 j = vd_I (gs j)) := by
    by_cases q : gu = 1
    · refine ⟨fun j => (f 24 j).toInt, fun j hj => ?_, fun _ j hj => ?_⟩
      · obtain ⟨z, u1, u2, u3⟩ := c11 q j hj
        show 0 ≤ (f 24 j).toInt ∧ (f 24 j).toInt ≤ 255
        rw [vd_toI u2 (by omega) (by omega)]
        omega
      · obtain ⟨z, u1, u2, u3⟩ := c11 q j hj
        show f 24 j = vd_I (f 24 j).toInt ∧ g 87 j = vd_I (f 24 j).toInt
        rw [vd_Iself]
        exact ⟨rfl, by rw [u2, u3]⟩
    · exact ⟨fun _ => 0, fun _ _ => by show (0 : Int) ≤ 0 ∧ (0 : Int) ≤ 255; decide, fun q' => absurd q' q⟩
  obtain ⟨on, o1, o2⟩ : ∃ on : Nat → Int, (∀ j, j < 32 → on j = 0 ∨ on j = 1) ∧ (∀ j, j < 32 → f 25 j = vd_I (on j) ∧ g 74 j = vd_I (on j)) := by
    refine ⟨fun j => (f 25 j).toInt, fun j hj => ?_, fun j hj => ?_⟩
    · obtain ⟨on, z, u1, u2, u3, u4, u5⟩ := d2 j hj
      show (f 25 j).toInt = 0 ∨ (f 25 j).toInt = 1
      rw [vd_toI u3 (by omega) (by omega)]
      exact u1
    · obtain ⟨on, z, u1, u2, u3, u4, u5⟩ := d2 j hj
      show f 25 j = vd_I (f 25 j).toInt ∧ g 74 j = vd_I (f 25 j).toInt
      rw [vd_Iself]
      exact ⟨rfl, by rw [u3, u4]⟩
  obtain ⟨vl, w1, w2, w3⟩ : ∃ vl : Nat → Int, (∀ j, j < 32 → -256 ≤ vl j ∧ vl j ≤ 256) ∧ (∀ s, s < 8 → 0 ≤ vl (4 * s + 2) ∧ vl (4 * s + 2) ≤ 3) ∧ (∀ j, j < 32 → j % 4 ≠ 3 → f 26 j = vd_I (vl j) ∧ g 75 j = vd_I (vl j)) := by
    refine ⟨fun j => if j % 4 = 3 then 0 else (f 26 j).toInt, fun j hj => ?_, fun s hs => ?_, fun j hj q => ?_⟩
    · show -256 ≤ (if j % 4 = 3 then 0 else (f 26 j).toInt) ∧ (if j % 4 = 3 then 0 else (f 26 j).toInt) ≤ 256
      obtain ⟨on, z, u1, u2, u3, u4, u5⟩ := d2 j hj
      by_cases q : j % 4 = 3
      · rw [if_pos q]; decide
      · rw [if_neg q, vd_toI (u5 q).1 (by omega) (by omega)]
        omega
    · show 0 ≤ (if (4 * s + 2) % 4 = 3 then 0 else (f 26 (4 * s + 2)).toInt) ∧ (if (4 * s + 2) % 4 = 3 then 0 else (f 26 (4 * s + 2)).toInt) ≤ 3
      obtain ⟨on, z, u1, ⟨u2, u2b, u2c⟩, u3, u4, u5⟩ := d2 (4 * s + 2) (by omega)
      rw [if_neg (by omega), vd_toI (u5 (by omega)).1 (by omega) (by omega)]
      exact u2c (by omega)
    · show f 26 j = vd_I (if j % 4 = 3 then 0 else (f 26 j).toInt) ∧ g 75 j = vd_I (if j % 4 = 3 then 0 else (f 26 j).toInt)
      obtain ⟨on, z, u1, u2, u3, u4, u5⟩ := d2 j hj
      obtain ⟨u6, u7⟩ := u5 q
      rw [if_neg q, vd_Iself]
      exact ⟨rfl, by rw [u6, u7]⟩
  obtain ⟨ex, e1, e2⟩ : ∃ ex : Nat → Int, (∀ j, j < 6 → -64 ≤ ex j ∧ ex j ≤ 64) ∧ (∀ j, j < 6 → f 21 j = vd_I (ex j) ∧ g 73 j = vd_I (ex j)) := by
    refine ⟨fun j => (f 21 j).toInt, fun j hj => ?_, fun j hj => ?_⟩
    · obtain ⟨z, u1, u2, u3⟩ := d1 j hj
      show -64 ≤ (f 21 j).toInt ∧ (f 21 j).toInt ≤ 64
      rw [vd_toI u2 (by omega) (by omega)]
      exact u1
    · obtain ⟨z, u1, u2, u3⟩ := d1 j hj
      show f 21 j = vd_I (f 21 j).toInt ∧ g 73 j = vd_I (f 21 j).toInt
      rw [vd_Iself]
      exact ⟨rfl, by rw [u2, u3]⟩
  have st : (if kd = 2 then (0 : Int) else 1) = 0 ↔ kd = 2 := by split <;> omega
  refine ⟨vd_Xm (if kd = 2 then 0 else 1) tm db fi ke iu mt gu ab bs lv sh ec l' sd tr gs on vl dl ex, ?_, ?_, ?_, st⟩
  · refine ⟨⟨?_, ⟨t.1, t.2.1⟩, b, x1, x2, c1, c2, c3, d3⟩, ⟨⟨b1, b2⟩, ⟨v1, v2⟩, ⟨v3, v4⟩, v5, l01⟩, x3, t1, g1, o1, w1, w2, fun i hi => (b5 i hi).2.2, e1, ?_, t.2.2⟩
    · show (if kd = 2 then (0 : Int) else 1) = 0 ∨ (if kd = 2 then (0 : Int) else 1) = 1
      split <;> omega
    · show l' = 1 ↔ bs = 0 ∧ dl 0 = 0 ∧ dl 1 = 0 ∧ dl 2 = 0
      rw [b8]
      constructor
      · intro q
        exact ⟨q.1, q.2 0 (by decide), q.2 1 (by decide), q.2 2 (by decide)⟩
      · intro q
        refine ⟨q.1, fun j hj => ?_⟩
        have : j = 0 ∨ j = 1 ∨ j = 2 := by omega
        rcases this with rfl | rfl | rfl
        · exact q.2.1
        · exact q.2.2.1
        · exact q.2.2.2
  · exact ⟨⟨kd, h4, k0, k1, st.symm⟩, ⟨c.1, c.2.1, c.2.2, fun q => (x4 (st.mp q)).1, fun q => (x4 (st.mp q)).2.1⟩, ⟨c4, c5, c6, d4, b3⟩, ⟨a1, a2, a3⟩, fun q i hi => (x5 (st.mp q) i hi).1, fun q i hi => (t2 q i hi).1, fun q i hi => (g2 q i hi).1, fun i hi => (o2 i hi).1, fun i hi q => (w3 i hi q).1, fun i hi => (b5 i hi).1, fun i hi => (e2 i hi).1⟩
  · exact ⟨⟨h33, e.1, e.2, fun q => (x4 (st.mp q)).2.2.1, fun q => (x4 (st.mp q)).2.2.2⟩, ⟨c7, c8, c9, d5, b4⟩, ⟨a4, a5, a6, h35⟩, fun q i hi => (x5 (st.mp q) i hi).2, fun q i hi => (t2 q i hi).2, fun q i hi => (g2 q i hi).2, fun i hi => (o2 i hi).2, fun i hi q => (w3 i hi q).2, fun i hi => (b5 i hi).2.1, fun i hi => (e2 i hi).2⟩
