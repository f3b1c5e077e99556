/-! ===== a frame's squares begin: references, the last frame's vectors, empty pictures ===== -/
theorem vd_Iinj {a b : Int} (h : vd_I a = vd_I b) (a0 : -2147483648 ≤ a) (a1 : a < 2147483648) (b0 : -2147483648 ≤ b) (b1 : b < 2147483648) : a = b := by
  have q := vd_toI h b0 b1
  rw [vd_I_toInt a0 a1] at q
  exact q
/-- one reference of a frame -/
def vd_RX (M N : vd_M) (s q : Nat) (w h : Int) (f g : Nat → Nat → Int32) (r : Nat) (P : Nat → Nat → Nat → Int) : Prop := (∃ pr sr, (vd_r M 55 r = some pr ∧ vd_PC M pr sr ∧ sr ≠ s) ∧ (f pr 0 = vd_I w ∧ f pr 1 = vd_I h) ∧ ∀ pl a b : Nat, pl < 3 → (a : Int) < vd_pd pl w → (b : Int) < vd_pd pl h → f sr (vd_ax pl a b) = vd_I (P pl a b)) ∧ (∃ qr, (vd_r N 83 r = some qr ∧ vd_PD N qr ∧ qr ≠ q) ∧ (g qr 0 = vd_I w ∧ g qr 1 = vd_I h) ∧ ∀ pl a b : Nat, pl < 3 → (a : Int) < vd_pd pl w → (b : Int) < vd_pd pl h → g (qr + 2 + pl) (b * vd_ws pl w + a) &&& vd_I 255 = vd_I (P pl a b)) ∧ ∀ pl a b, 0 ≤ P pl a b ∧ P pl a b ≤ 255
theorem vd_RX.all {M N : vd_M} {s q : Nat} {w h : Int} {f g : Nat → Nat → Int32} (k : ∀ r, r < 3 → ∃ P, vd_RX M N s q w h f g r P) : ∃ R : Nat → Nat → Nat → Nat → Int, (∀ r pl a b, 0 ≤ R r pl a b ∧ R r pl a b ≤ 255) ∧ vd_RpA M s w h R f ∧ vd_RR N q w h R g := by
  obtain ⟨P0, a0, b0, c0⟩ := k 0 (by decide)
  obtain ⟨P1, a1, b1, c1⟩ := k 1 (by decide)
  obtain ⟨P2, a2, b2, c2⟩ := k 2 (by decide)
  refine ⟨fun r => if r = 0 then P0 else if r = 1 then P1 else P2, fun r pl a b => ?_, fun r hr => ?_, fun r hr => ?_⟩
  · show 0 ≤ (if r = 0 then P0 else if r = 1 then P1 else P2) pl a b ∧ (if r = 0 then P0 else if r = 1 then P1 else P2) pl a b ≤ 255
    split
    · exact c0 pl a b
    · split
      · exact c1 pl a b
      · exact c2 pl a b
  · have : r = 0 ∨ r = 1 ∨ r = 2 := by omega
    rcases this with rfl | rfl | rfl
    · exact a0
    · exact a1
    · exact a2
  · have : r = 0 ∨ r = 1 ∨ r = 2 := by omega
    rcases this with rfl | rfl | rfl
    · exact b0
    · exact b1
    · exact b2
theorem vd_ct_has {H : Nat → Option Nat} {p x : Nat} (e : H x = some p) : ∀ n, x < n → vd_ct H p n ≠ 0 := by
  intro n
  induction n with
  | zero => intro h; omega
  | succ n ih =>
    intro h
    have e1 : vd_ct H p (n + 1) = vd_ct H p n + if H n = some p then 1 else 0 := rfl
    rw [e1]
    by_cases c : x = n
    · subst c
      rw [if_pos e]
      omega
    · have := ih (by omega)
      omega
/-- a slot's picture as reference -/
theorem vd_RXof {M N M' N' : vd_M} {f g f' g' : Nat → Nat → Int32} {p s j r : Nat} {w h : Int} (hN : vd_SR N) (hN' : vd_SR N') (hL : vd_PL M) (hp : ∀ x, x < 9 → vd_pic M N f g x) (rf : vd_rf M N f g r w h) (hr : r < 3) (np : vd_PL M' ∧ vd_PC M' p s ∧ p < vd_n M' ∧ s < vd_n M') (nh : ∀ x, x < 9 → vd_hol M' x ≠ some p) (ip : ∃ i, i < 10 ∧ vd_r M' 12 i = some p) (h55 : ∀ sl : Nat, sl < 8 → f 18 r = vd_I (sl : Int) → vd_r M' 55 r = vd_r M 13 sl) (hol : ∀ x, x < 9 → vd_hol M' x = vd_hol M x) (hPC : ∀ p' s', vd_PC M p' s' → p' < vd_n M → s' < vd_n M → vd_PC M' p' s') (kf : ∀ c i, 197 ≤ c → c < vd_n M → c ≠ p → c ≠ s → f' c i = f c i) (hz : vd_ct (vd_hor N) (129 + 5 * j) 9 = 0) (h83 : vd_r N' 83 r = vd_r N 83 r) (kg : ∀ k, k < 11 → k ≠ j → ∀ c i, (c = 129 + 5 * k ∧ i ≤ 1) ∨ (129 + 5 * k + 2 ≤ c ∧ c ≤ 129 + 5 * k + 4) → g' c i = g c i) : ∃ P, vd_RX M' N' s (129 + 5 * j) w h f' g' r P := by
  obtain ⟨sl, p1, q1, sd, ⟨a1, a2⟩, ⟨b1, b2, b3⟩, _, _, _, wb, ⟨m1, m2⟩, n1, n2⟩ := rf
  have o1 : vd_hol M sl = vd_r M 13 sl := if_pos a1
  have o2 : vd_hor N sl = vd_r N 66 sl := if_pos a1
  have pc := hp sl (by omega)
  unfold vd_pic at pc
  rw [o1, o2, b1, b2] at pc
  rcases pc with ⟨x, _⟩ | ⟨p2, s2, k, w2, h2, P, ⟨x1, x2⟩, ⟨y1, y2⟩, wb2, ⟨d1, d2⟩, ⟨e1, e2⟩, u, v, bd⟩
  · cases x
  cases x1
  have eq : q1 = 129 + 5 * k := Option.some.inj y2
  subst eq
  have ew : w2 = w := vd_Iinj (d1.symm.trans m1) (by omega) (by omega) (by omega) (by omega)
  have eh : h2 = h := vd_Iinj (d2.symm.trans m2) (by omega) (by omega) (by omega) (by omega)
  subst ew eh
  obtain ⟨pn, sn⟩ := hL.of (x := sl) (by omega) (by rw [o1, b1]) x2
  have x2' := hPC p1 s2 x2 pn sn
  have hne : p1 ≠ p := fun q => nh sl (by omega) (by rw [hol sl (by omega), o1, b1, q])
  have sne : s2 ≠ s := by
    obtain ⟨i, hi, ei⟩ := ip
    obtain ⟨i', hi', ei'⟩ := np.1.2.2.1 sl p1 (by omega) (by rw [hol sl (by omega), o1, b1])
    have ii : i' ≠ i := fun q => by
      subst q
      rw [ei] at ei'
      exact hne (Option.some.inj ei').symm
    exact (np.1.2.1 i' i p1 p s2 s hi' hi ii ei' ei x2' np.2.1).2
  have kne : k ≠ j := fun q => by
    subst q
    exact vd_ct_has (by rw [o2, b2]) 9 (by omega) hz
  have pb := x2.2.2
  have s2p : s2 ≠ p := fun q => by
    have t1 := x2'.2.1.1
    have t2 := np.2.1.1.1
    rw [q, t2] at t1
    cases t1
  have p1s : p1 ≠ s := fun q => by
    have t1 := x2'.1.1
    have t2 := np.2.1.2.1.1
    rw [q, t2] at t1
    cases t1
  have kf1 : ∀ i, f' p1 i = f p1 i := fun i => kf p1 i pb.1 pn hne p1s
  have kf2 : ∀ i, f' s2 i = f s2 i := fun i => kf s2 i pb.2.1 sn s2p sne
  have kg' := kg k y1 kne
  refine ⟨P, ⟨p1, s2, ⟨by rw [h55 sl a1 a2, b1], x2', sne⟩, ⟨by rw [kf1, d1], by rw [kf1, d2]⟩, fun pl a b hpl ha hb => ?_⟩, ⟨129 + 5 * k, ⟨by rw [h83, b3], vd_PD_of hN' y1, by omega⟩, ⟨by rw [kg' _ _ (by omega), e1], by rw [kg' _ _ (by omega), e2]⟩, fun pl a b hpl ha hb => ?_⟩, bd⟩
  · have t1 := (vd_ws_b (pl := pl) wb.1 wb.2.1).2
    have t2 := (vd_ws_b (pl := pl) wb.2.2.1 wb.2.2.2).2
    rw [kf2]
    exact u pl a b hpl (by omega) (by omega)
  · have t1 := (vd_ws_b (pl := pl) wb.1 wb.2.1).2
    have t2 := (vd_ws_b (pl := pl) wb.2.2.1 wb.2.2.2).2
    rw [kg' _ _ (by omega)]
    exact v pl a b hpl (by omega) (by omega)
def vd_Lof (O : Nat → Nat → Option Nat) (B : Nat → Nat → Int) (i j : Nat) : Nat → Int := match O i j with
  | some k => B k
  | none => fun _ => 0
theorem vd_Lof_eq {O : Nat → Nat → Option Nat} {B : Nat → Nat → Int} {i j k : Nat} (h : O i j = some k) : vd_Lof O B i j = B k := by
  unfold vd_Lof
  rw [h]
/-- the map and the last frame's vectors -/
theorem vd_vf0 {ow fa : Nat} {F G f' g' : Nat → Nat → Int32} {w h rs kd w0 h0 lm : Int} {W H : Nat} (wb : 1 ≤ w ∧ w ≤ 192 ∧ 1 ≤ h ∧ h ≤ 192) (l01 : lm = 0 ∨ lm = 1) (hW : (W : Int) = (w + 7) / 8) (hH : (H : Int) = (h + 7) / 8) (d : (w0 = 0 ∧ h0 = 0 ∧ (F 37 2 = vd_I 0 ∧ F 37 3 = vd_I 0) ∧ (G 63 70 = vd_I 0 ∧ G 63 71 = vd_I 0)) ∨ ∃ (W H nb : Nat) (O : Nat → Nat → Option Nat) (B mp : Nat → Nat → Int), (1 ≤ w0 ∧ w0 ≤ 192 ∧ 1 ≤ h0 ∧ h0 ≤ 192) ∧ ((W : Int) = (w0 + 7) / 8 ∧ (H : Int) = (h0 + 7) / 8) ∧ (vd_GA ow fa W H nb O B F ∧ vd_GB W H O B G) ∧ (G 63 70 = vd_I (W : Int) ∧ G 63 71 = vd_I (H : Int)) ∧ (∀ i j, i < W → j < H → O i j ≠ none) ∧ (∀ i j, 0 ≤ mp i j ∧ mp i j ≤ 7) ∧ (∀ i j, i < W → j < H → F 42 (24 * j + i) = vd_I (mp i j) ∧ G 72 (W * j + i) = vd_I (mp i j)) ∧ (∀ i j k, i < W → j < H → O i j = some k → vd_og G 76 77 78 (W * j + i) (B k))) (m1 : ∀ i, i < 576 → f' 42 i = if w0 = w ∧ h0 = h ∧ kd = 2 ∧ rs = 0 then F 42 i else vd_I 0) (m2 : ∀ i, i < 576 → g' 72 i = if w0 = w ∧ h0 = h ∧ kd = 2 ∧ rs = 0 then G 72 i else vd_I 0) (v1 : f' 37 6 = vd_I (if w0 = w ∧ h0 = h ∧ lm = 1 ∧ rs = 0 then 1 else 0)) (v2 : g' 63 39 = vd_I (if w0 = w ∧ h0 = h ∧ lm = 1 ∧ rs = 0 then 1 else 0)) (kf : ∀ i, f' ow i = F ow i ∧ f' fa i = F fa i) (kg : ∀ c i, 76 ≤ c → c ≤ 78 → g' c i = G c i) (p1 : f' 37 0 = vd_I w ∧ f' 37 1 = vd_I h) (p2 : g' 63 24 = vd_I w ∧ g' 63 25 = vd_I h) : ∃ (mp : Nat → Nat → Int) (L : Nat → Nat → Nat → Int), (∀ i j, 0 ≤ mp i j ∧ mp i j ≤ 7) ∧ ((∀ i j, i < W → j < H → f' 42 (24 * j + i) = vd_I (mp i j)) ∧ (∀ i j, i < W → j < H → g' 72 (W * j + i) = vd_I (mp i j))) ∧ vd_VF ow fa W H (if w0 = w ∧ h0 = h ∧ lm = 1 ∧ rs = 0 then 1 else 0) L w h f' g' ∧ vd_VV W H (if w0 = w ∧ h0 = h ∧ lm = 1 ∧ rs = 0 then 1 else 0) L w h := by
  have hW24 : W ≤ 24 := by omega
  have hH24 : H ≤ 24 := by omega
  have mo01 : (if w0 = w ∧ h0 = h ∧ lm = 1 ∧ rs = 0 then (1 : Int) else 0) = 0 ∨ (if w0 = w ∧ h0 = h ∧ lm = 1 ∧ rs = 0 then (1 : Int) else 0) = 1 := by split <;> omega
  have ixW : ∀ i j, i < W → j < H → W * j + i < 576 ∧ 24 * j + i < 576 := fun i j hi hj => by
    have := vd_ix hi hj
    have : W * H ≤ 24 * 24 := Nat.mul_le_mul hW24 hH24
    omega
  by_cases c : w0 = w ∧ h0 = h
  · obtain ⟨c1, c2⟩ := c
    subst c1 c2
    rcases d with ⟨d1, _⟩ | ⟨W', H', nb, O, B, mp, _, ⟨d1, d2⟩, ⟨d3, d4⟩, _, d5, d6, d7, d8⟩
    · omega
    have eW : W' = W := by omega
    have eH : H' = H := by omega
    subst eW eH
    refine ⟨fun i j => if kd = 2 ∧ rs = 0 then mp i j else 0, vd_Lof O B, fun i j => ?_, ⟨fun i j hi hj => ?_, fun i j hi hj => ?_⟩, ⟨⟨v1, fun _ i j hi hj => ?_⟩, ⟨v2, fun _ i j hi hj => ?_⟩, p1, p2⟩, ⟨mo01, fun _ i j hi hj => ?_⟩, ⟨wb.1, wb.2.1⟩, wb.2.2⟩
    · show 0 ≤ (if kd = 2 ∧ rs = 0 then mp i j else 0) ∧ (if kd = 2 ∧ rs = 0 then mp i j else 0) ≤ 7
      split
      · exact d6 i j
      · decide
    · rw [m1 _ (ixW i j hi hj).2]
      by_cases q : kd = 2 ∧ rs = 0
      · rw [if_pos ⟨rfl, rfl, q⟩, (d7 i j hi hj).1]
        show _ = vd_I (if kd = 2 ∧ rs = 0 then mp i j else 0)
        rw [if_pos q]
      · rw [if_neg (fun x => q x.2.2)]
        show _ = vd_I (if kd = 2 ∧ rs = 0 then mp i j else 0)
        rw [if_neg q]
    · rw [m2 _ (ixW i j hi hj).1]
      by_cases q : kd = 2 ∧ rs = 0
      · rw [if_pos ⟨rfl, rfl, q⟩, (d7 i j hi hj).2]
        show _ = vd_I (if kd = 2 ∧ rs = 0 then mp i j else 0)
        rw [if_pos q]
      · rw [if_neg (fun x => q x.2.2)]
        show _ = vd_I (if kd = 2 ∧ rs = 0 then mp i j else 0)
        rw [if_neg q]
    · cases ho : O i j with
      | none => exact absurd ho (d5 i j hi hj)
      | some k =>
        have hk := d3.2.2.2.1 i j k ho
        have hnb := d3.2.1.2.2.2.2
        refine ⟨k, by omega, ?_, fun q h1 h2 => ?_⟩
        · rw [(kf _).1, d3.2.2.1 i j hi hj, ho]; rfl
        · rw [(kf _).2, d3.2.2.2.2.1 k q hk (by omega), vd_Lof_eq ho]
    · cases ho : O i j with
      | none => exact absurd ho (d5 i j hi hj)
      | some k =>
        have y := d8 i j k hi hj ho
        rw [vd_Lof_eq ho]
        unfold vd_og at *
        rw [kg _ _ (by omega) (by omega), kg _ _ (by omega) (by omega), kg _ _ (by omega) (by omega), kg _ _ (by omega) (by omega), kg _ _ (by omega) (by omega), kg _ _ (by omega) (by omega)]
        exact y
    · cases ho : O i j with
      | none => exact absurd ho (d5 i j hi hj)
      | some k =>
        have hk := d3.2.2.2.1 i j k ho
        obtain ⟨_, _, ⟨b9, b9', b10, _⟩, bq, _⟩ := d3.2.2.2.2.2 k hk
        rw [vd_Lof_eq ho]
        refine ⟨⟨b9, b9', by omega, by omega⟩, fun q h1 h2 => ?_⟩
        have := bq q h1 h2
        exact ⟨by omega, by omega⟩
  · refine ⟨fun _ _ => 0, fun _ _ _ => 0, fun i j => by show (0 : Int) ≤ 0 ∧ (0 : Int) ≤ 7; decide, ⟨fun i j hi hj => ?_, fun i j hi hj => ?_⟩, ⟨⟨v1, fun q => ?_⟩, ⟨v2, fun q => ?_⟩, p1, p2⟩, ⟨mo01, fun q => ?_⟩, ⟨wb.1, wb.2.1⟩, wb.2.2⟩
    · rw [m1 _ (ixW i j hi hj).2, if_neg (fun x => c ⟨x.1, x.2.1⟩)]
    · rw [m2 _ (ixW i j hi hj).1, if_neg (fun x => c ⟨x.1, x.2.1⟩)]
    all_goals (rw [if_neg (fun x => c ⟨x.1, x.2.1⟩)] at q; omega)
/-- an empty picture -/
theorem vd_pk0 {s q : Nat} {w h : Int} {f g : Nat → Nat → Int32} (wb : 1 ≤ w ∧ w ≤ 192 ∧ 1 ≤ h ∧ h ≤ 192) (zs : ∀ i, i < 55296 → f s i = vd_I 0) (z43 : ∀ i, i < 6912 → f 43 i = vd_I 0) (zp : ∀ pl i, pl < 3 → i < vd_rm pl → g (q + 2 + pl) i = vd_I 0 ∧ g (106 + pl) i = vd_I 0) (zh : ∀ pl i, pl < 3 → i < vd_fo pl * vd_fo pl → g (110 + pl) i = vd_I 0) : vd_PK s q w h (fun _ _ _ => 0) (fun _ _ _ => 0) f g := by
  have ixr : ∀ pl x y, x < vd_ws pl w → y < vd_ws pl h → y * vd_ws pl w + x < vd_rm pl := fun pl x y hx hy => by
    have t1 := (vd_ws_b (pl := pl) wb.1 wb.2.1).1
    have t2 := (vd_ws_b (pl := pl) wb.2.2.1 wb.2.2.2).1
    have e : vd_sd pl * vd_sd pl = vd_rm pl := by unfold vd_sd vd_rm; split <;> rfl
    have a : (y + 1) * vd_ws pl w ≤ vd_sd pl * vd_sd pl := Nat.mul_le_mul (by omega) t1
    rw [Nat.add_mul, e] at a
    omega
  refine ⟨⟨fun pl x y hpl hx hy => ?_, fun pl x y hpl hx hy => ?_⟩, fun pl a b hpl ha hb => z43 _ (by omega), fun pl a b hpl ha hb => ?_, fun pl x y hpl hx hy => ?_⟩
  · have t1 := (vd_ws_b (pl := pl) wb.1 wb.2.1).1
    have t2 := (vd_ws_b (pl := pl) wb.2.2.1 wb.2.2.2).1
    refine zs _ ?_
    unfold vd_sd at t1 t2
    unfold vd_ax
    by_cases c : pl = 0
    · rw [if_pos c] at t1 t2 ⊢
      omega
    · rw [if_neg c] at t1 t2 ⊢
      omega
  · rw [(zp pl _ hpl (ixr pl x y hx hy)).1]
    show vd_I 0 &&& vd_I 255 = vd_I 0
    decide
  · have e : (if ((0 : Int) = 2) then (1 : Int) else 0) = 0 := rfl
    show g (110 + pl) (b * vd_fo pl + a) = vd_I (if ((0 : Int) = 2) then 1 else 0)
    rw [e]
    refine zh pl _ hpl ?_
    have t : (b + 1) * vd_fo pl ≤ vd_fo pl * vd_fo pl := Nat.mul_le_mul_right _ hb
    rw [Nat.add_mul] at t
    omega
  · have e : (if ((0 : Int) = 0) then (0 : Int) else 1) = 0 := rfl
    show g (106 + pl) (y * vd_ws pl w + x) = vd_I (if ((0 : Int) = 0) then 0 else 1)
    rw [e]
    exact (zp pl _ hpl (ixr pl x y hx hy)).2
