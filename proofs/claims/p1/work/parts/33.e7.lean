/-! ===== rules of the entries: e7 ===== -/
section VDE_e7
variable {d : Nat} {ls st : List Value} {M : vd_M} {Q : vd_M → (Option Value ⊕ Nat) → Prop} {x y : Int32} {o v : Nat} {z : Int} {u w : Int64} {s0 s1 s2 : Value}
variable {a0 a1 a2 a3 a4 a5 a6 a7 a8 a9 a10 a11 a12 a13 a14 : Value} {x0 x1 x2 x3 x4 x5 x6 x7 : Int32} {o0 o1 o2 o3 o4 o5 o6 o7 : Nat}
/-! 0: VideoDecoderLaw.law([I)Z -/
theorem vd_E0_0 : vd_wp d 0 0 ls (st) M Q = vd_wp d 0 3 ls (.ref (vd_n M) :: st) (vd_new M 0 0 20) Q := vd_g_new (show vd_pI 0 0 = some (.new 8, 3, 2, 0, 20, .null) from rfl) (by decide)
theorem vd_E0_3 (h : vd_long s0 = false) : vd_wp d 0 3 ls (s0 :: st) M Q = vd_wp d 0 4 ls (s0 :: s0 :: st) (M) Q := vd_g_dup (show vd_pI 0 3 = some (.dup, 1, 0, 0, 0, .null) from rfl) h
theorem vd_E0_4 (hc : vd_cs st ≤ 8) (h : vd_k M o = 0) (hw : vd_wp d 1 0 [.ref o, vd_U, vd_U, vd_U] [] M (fun M1 r => ∃ v, r = .inl v ∧ vd_wp (d + 1) 0 7 ls (v.toList ++ st) M1 Q)) : vd_wp (d + 1) 0 4 ls (.ref o :: st) M Q := vd_g_call (args := [.ref o]) (st' := st) (nL := 4) (na := 1) (rc := 0) (show vd_pI 0 4 = some (.invokespecial 52, 3, 3, 1, 0, .null) from rfl) rfl rfl rfl hc (of_decide_eq_true rfl) (by simp [h]) hw
theorem vd_E0_7 (h : vd_long a0 = false) : vd_wp d 0 7 [a0, a1, a2, a3, a4, a5, a6] (.ref o :: st) M Q = vd_wp d 0 8 [a0, .ref o, a2, a3, a4, a5, a6] (st) (M) Q := vd_g_astn (show vd_pI 0 7 = some (.astore_n 1, 1, 0, 0, 0, .null) from rfl) (vd_stS rfl h (of_decide_eq_true rfl))
theorem vd_E0_7n (h : vd_long a0 = false) : vd_wp d 0 7 [a0, a1, a2, a3, a4, a5, a6] (.null :: st) M Q = vd_wp d 0 8 [a0, .null, a2, a3, a4, a5, a6] (st) (M) Q := vd_g_astn0 (show vd_pI 0 7 = some (.astore_n 1, 1, 0, 0, 0, .null) from rfl) (vd_stS rfl h (of_decide_eq_true rfl))
theorem vd_E0_8 : vd_wp d 0 8 ls (st) M Q = vd_wp d 0 11 ls (.ref (vd_n M) :: st) (vd_new M 12 0 135) Q := vd_g_new (show vd_pI 0 8 = some (.new 53, 3, 2, 12, 135, .null) from rfl) (by decide)
theorem vd_E0_11 (h : vd_long s0 = false) : vd_wp d 0 11 ls (s0 :: st) M Q = vd_wp d 0 12 ls (s0 :: s0 :: st) (M) Q := vd_g_dup (show vd_pI 0 11 = some (.dup, 1, 0, 0, 0, .null) from rfl) h
theorem vd_E0_12 (hc : vd_cs st ≤ 8) (h : vd_k M o = 12) (hw : vd_wp d 163 0 [.ref o, vd_U, vd_U] [] M (fun M1 r => ∃ v, r = .inl v ∧ vd_wp (d + 1) 0 15 ls (v.toList ++ st) M1 Q)) : vd_wp (d + 1) 0 12 ls (.ref o :: st) M Q := vd_g_call (args := [.ref o]) (st' := st) (nL := 3) (na := 1) (rc := 12) (show vd_pI 0 12 = some (.invokespecial 55, 3, 3, 163, 0, .null) from rfl) rfl rfl rfl hc (of_decide_eq_true rfl) (by simp [h]) hw
theorem vd_E0_15 (h : vd_long a1 = false) : vd_wp d 0 15 [a0, a1, a2, a3, a4, a5, a6] (.ref o :: st) M Q = vd_wp d 0 16 [a0, a1, .ref o, a3, a4, a5, a6] (st) (M) Q := vd_g_astn (show vd_pI 0 15 = some (.astore_n 2, 1, 0, 0, 0, .null) from rfl) (vd_stS rfl h (of_decide_eq_true rfl))
theorem vd_E0_15n (h : vd_long a1 = false) : vd_wp d 0 15 [a0, a1, a2, a3, a4, a5, a6] (.null :: st) M Q = vd_wp d 0 16 [a0, a1, .null, a3, a4, a5, a6] (st) (M) Q := vd_g_astn0 (show vd_pI 0 15 = some (.astore_n 2, 1, 0, 0, 0, .null) from rfl) (vd_stS rfl h (of_decide_eq_true rfl))
theorem vd_E0_16 : vd_wp d 0 16 ls (st) M Q = vd_wp d 0 17 ls (.int (vd_I 1) :: st) (M) Q := vd_wp_alu (show vd_pI 0 16 = some (.iconst 1, 1, 0, 0, 0, .null) from rfl) rfl
theorem vd_E0_17 (h1 : 0 ≤ z) (h2 : z ≤ 65536) : vd_wp d 0 17 ls (.int (vd_I z) :: st) M Q = vd_wp d 0 19 ls (.ref (vd_n M) :: st) (vd_new M 35 z.toNat z.toNat) Q := vd_g_nar (show vd_pI 0 17 = some (.newarray .long, 2, 2, 0, 0, .null) from rfl) (by decide) h1 h2
theorem vd_E0_19 (h : vd_long a2 = false) : vd_wp d 0 19 [a0, a1, a2, a3, a4, a5, a6] (.ref o :: st) M Q = vd_wp d 0 20 [a0, a1, a2, .ref o, a4, a5, a6] (st) (M) Q := vd_g_astn (show vd_pI 0 19 = some (.astore_n 3, 1, 0, 0, 0, .null) from rfl) (vd_stS rfl h (of_decide_eq_true rfl))
theorem vd_E0_19n (h : vd_long a2 = false) : vd_wp d 0 19 [a0, a1, a2, a3, a4, a5, a6] (.null :: st) M Q = vd_wp d 0 20 [a0, a1, a2, .null, a4, a5, a6] (st) (M) Q := vd_g_astn0 (show vd_pI 0 19 = some (.astore_n 3, 1, 0, 0, 0, .null) from rfl) (vd_stS rfl h (of_decide_eq_true rfl))
theorem vd_E0_20 : vd_wp d 0 20 ls (st) M Q = vd_wp d 0 21 ls (.int (vd_I 0) :: st) (M) Q := vd_wp_alu (show vd_pI 0 20 = some (.iconst 0, 1, 0, 0, 0, .null) from rfl) rfl
theorem vd_E0_21 (h : vd_long a3 = false) : vd_wp d 0 21 [a0, a1, a2, a3, a4, a5, a6] (.int x :: st) M Q = vd_wp d 0 23 [a0, a1, a2, a3, .int x, a5, a6] (st) (M) Q := vd_g_ist (show vd_pI 0 21 = some (.istore 4, 2, 0, 0, 0, .null) from rfl) (vd_stS rfl h (of_decide_eq_true rfl))
theorem vd_E0_23 : vd_wp d 0 23 [a0, a1, a2, a3, .int x, a5, a6] (st) M Q = vd_wp d 0 25 [a0, a1, a2, a3, .int x, a5, a6] (.int x :: st) (M) Q := vd_wp_alu (show vd_pI 0 23 = some (.iload 4, 2, 0, 0, 0, .null) from rfl) rfl
theorem vd_E0_25 : vd_wp d 0 25 [.ref o, a1, a2, a3, a4, a5, a6] (st) M Q = vd_wp d 0 26 [.ref o, a1, a2, a3, a4, a5, a6] (.ref o :: st) (M) Q := vd_wp_alu (show vd_pI 0 25 = some (.aload_n 0, 1, 0, 0, 0, .null) from rfl) rfl
theorem vd_E0_25n : vd_wp d 0 25 [.null, a1, a2, a3, a4, a5, a6] (st) M Q = vd_wp d 0 26 [.null, a1, a2, a3, a4, a5, a6] (.null :: st) (M) Q := vd_wp_alu (show vd_pI 0 25 = some (.aload_n 0, 1, 0, 0, 0, .null) from rfl) rfl
theorem vd_E0_26 (h0 : 9 ≤ o) (h1 : 32 ≤ vd_k M o) (h2 : vd_k M o < 41) : vd_wp d 0 26 ls (.ref o :: st) M Q = vd_wp d 0 27 ls (.int (vd_I (vd_l M o : Int)) :: st) (M) Q := vd_g_len (show vd_pI 0 26 = some (.arraylength, 1, 1, 0, 0, .null) from rfl) h0 h1 h2
theorem vd_E0_27 : vd_wp d 0 27 ls (st) M Q = vd_wp d 0 29 ls (.int (vd_I 6) :: st) (M) Q := vd_g_con (show vd_pI 0 27 = some (.bipush 6, 2, 0, 0, 0, .null) from rfl) rfl (by decide)
theorem vd_E0_29 : vd_wp d 0 29 ls (.int y :: .int x :: st) M Q = vd_wp d 0 30 ls (.int (x - y) :: st) (M) Q := vd_wp_alu (show vd_pI 0 29 = some (.isub, 1, 0, 0, 0, .null) from rfl) rfl
theorem vd_E0_30 : vd_wp d 0 30 ls (.int y :: .int x :: st) M Q = if y.toInt < x.toInt then vd_wp d 0 763 ls st M Q else vd_wp d 0 33 ls st M Q := vd_g_if (show vd_pI 0 30 = some (.if_icmp .gt 733, 3, 0, 0, 0, .null) from rfl) rfl vd_c_gt
theorem vd_E0_33 : vd_wp d 0 33 [.ref o, a1, a2, a3, a4, a5, a6] (st) M Q = vd_wp d 0 34 [.ref o, a1, a2, a3, a4, a5, a6] (.ref o :: st) (M) Q := vd_wp_alu (show vd_pI 0 33 = some (.aload_n 0, 1, 0, 0, 0, .null) from rfl) rfl
theorem vd_E0_33n : vd_wp d 0 33 [.null, a1, a2, a3, a4, a5, a6] (st) M Q = vd_wp d 0 34 [.null, a1, a2, a3, a4, a5, a6] (.null :: st) (M) Q := vd_wp_alu (show vd_pI 0 33 = some (.aload_n 0, 1, 0, 0, 0, .null) from rfl) rfl
theorem vd_E0_34 : vd_wp d 0 34 [a0, a1, a2, a3, .int x, a5, a6] (st) M Q = vd_wp d 0 36 [a0, a1, a2, a3, .int x, a5, a6] (.int x :: st) (M) Q := vd_wp_alu (show vd_pI 0 34 = some (.iload 4, 2, 0, 0, 0, .null) from rfl) rfl
theorem vd_E0_36 (h : vd_k M o = 32) (h1 : 0 ≤ z) (h2 : z < (vd_l M o : Int)) (h3 : z < 2147483648) : vd_wp d 0 36 ls (.int (vd_I z) :: .ref o :: st) M Q = vd_wp d 0 37 ls (.int (vd_i M o z.toNat) :: st) (M) Q := vd_g_ial (show vd_pI 0 36 = some (.iaload, 1, 1, 0, 0, .null) from rfl) h h1 h2 h3
theorem vd_E0_37 : vd_wp d 0 37 ls (st) M Q = vd_wp d 0 39 ls (.int (vd_I 15) :: st) (M) Q := vd_g_con (show vd_pI 0 37 = some (.bipush 15, 2, 0, 0, 0, .null) from rfl) rfl (by decide)
theorem vd_E0_39 : vd_wp d 0 39 ls (.int y :: .int x :: st) M Q = vd_wp d 0 40 ls (.int (x &&& y) :: st) (M) Q := vd_wp_alu (show vd_pI 0 39 = some (.iand, 1, 0, 0, 0, .null) from rfl) rfl
theorem vd_E0_40 : vd_wp d 0 40 ls (.int x :: st) M Q = vd_wp d 0 (vd_tsw 40 717 0 9 #[56, 160, 216, 260, 316, 408, 476, 544, 612, 692] x) ls st M Q := vd_wp_alu (show vd_pI 0 40 = some (.tableswitch 717 0 9 #[56, 160, 216, 260, 316, 408, 476, 544, 612, 692], 56, 0, 0, 0, .null) from rfl) rfl
theorem vd_E0_96 : vd_wp d 0 96 [a0, .ref o, a2, a3, a4, a5, a6] (st) M Q = vd_wp d 0 97 [a0, .ref o, a2, a3, a4, a5, a6] (.ref o :: st) (M) Q := vd_wp_alu (show vd_pI 0 96 = some (.aload_n 1, 1, 0, 0, 0, .null) from rfl) rfl
theorem vd_E0_96n : vd_wp d 0 96 [a0, .null, a2, a3, a4, a5, a6] (st) M Q = vd_wp d 0 97 [a0, .null, a2, a3, a4, a5, a6] (.null :: st) (M) Q := vd_wp_alu (show vd_pI 0 96 = some (.aload_n 1, 1, 0, 0, 0, .null) from rfl) rfl
theorem vd_E0_97 : vd_wp d 0 97 [.ref o, a1, a2, a3, a4, a5, a6] (st) M Q = vd_wp d 0 98 [.ref o, a1, a2, a3, a4, a5, a6] (.ref o :: st) (M) Q := vd_wp_alu (show vd_pI 0 97 = some (.aload_n 0, 1, 0, 0, 0, .null) from rfl) rfl
theorem vd_E0_97n : vd_wp d 0 97 [.null, a1, a2, a3, a4, a5, a6] (st) M Q = vd_wp d 0 98 [.null, a1, a2, a3, a4, a5, a6] (.null :: st) (M) Q := vd_wp_alu (show vd_pI 0 97 = some (.aload_n 0, 1, 0, 0, 0, .null) from rfl) rfl
theorem vd_E0_98 : vd_wp d 0 98 [a0, a1, a2, a3, .int x, a5, a6] (st) M Q = vd_wp d 0 100 [a0, a1, a2, a3, .int x, a5, a6] (.int x :: st) (M) Q := vd_wp_alu (show vd_pI 0 98 = some (.iload 4, 2, 0, 0, 0, .null) from rfl) rfl
theorem vd_E0_100 : vd_wp d 0 100 ls (st) M Q = vd_wp d 0 101 ls (.int (vd_I 1) :: st) (M) Q := vd_wp_alu (show vd_pI 0 100 = some (.iconst 1, 1, 0, 0, 0, .null) from rfl) rfl
theorem vd_E0_101 : vd_wp d 0 101 ls (.int y :: .int x :: st) M Q = vd_wp d 0 102 ls (.int (x + y) :: st) (M) Q := vd_wp_alu (show vd_pI 0 101 = some (.iadd, 1, 0, 0, 0, .null) from rfl) rfl
theorem vd_E0_102 (h : vd_k M o = 32) (h1 : 0 ≤ z) (h2 : z < (vd_l M o : Int)) (h3 : z < 2147483648) : vd_wp d 0 102 ls (.int (vd_I z) :: .ref o :: st) M Q = vd_wp d 0 103 ls (.int (vd_i M o z.toNat) :: st) (M) Q := vd_g_ial (show vd_pI 0 102 = some (.iaload, 1, 1, 0, 0, .null) from rfl) h h1 h2 h3
theorem vd_E0_103 : vd_wp d 0 103 [.ref o, a1, a2, a3, a4, a5, a6] (st) M Q = vd_wp d 0 104 [.ref o, a1, a2, a3, a4, a5, a6] (.ref o :: st) (M) Q := vd_wp_alu (show vd_pI 0 103 = some (.aload_n 0, 1, 0, 0, 0, .null) from rfl) rfl
theorem vd_E0_103n : vd_wp d 0 103 [.null, a1, a2, a3, a4, a5, a6] (st) M Q = vd_wp d 0 104 [.null, a1, a2, a3, a4, a5, a6] (.null :: st) (M) Q := vd_wp_alu (show vd_pI 0 103 = some (.aload_n 0, 1, 0, 0, 0, .null) from rfl) rfl
theorem vd_E0_104 : vd_wp d 0 104 [a0, a1, a2, a3, .int x, a5, a6] (st) M Q = vd_wp d 0 106 [a0, a1, a2, a3, .int x, a5, a6] (.int x :: st) (M) Q := vd_wp_alu (show vd_pI 0 104 = some (.iload 4, 2, 0, 0, 0, .null) from rfl) rfl
theorem vd_E0_106 : vd_wp d 0 106 ls (st) M Q = vd_wp d 0 107 ls (.int (vd_I 2) :: st) (M) Q := vd_wp_alu (show vd_pI 0 106 = some (.iconst 2, 1, 0, 0, 0, .null) from rfl) rfl
theorem vd_E0_107 : vd_wp d 0 107 ls (.int y :: .int x :: st) M Q = vd_wp d 0 108 ls (.int (x + y) :: st) (M) Q := vd_wp_alu (show vd_pI 0 107 = some (.iadd, 1, 0, 0, 0, .null) from rfl) rfl
theorem vd_E0_108 (h : vd_k M o = 32) (h1 : 0 ≤ z) (h2 : z < (vd_l M o : Int)) (h3 : z < 2147483648) : vd_wp d 0 108 ls (.int (vd_I z) :: .ref o :: st) M Q = vd_wp d 0 109 ls (.int (vd_i M o z.toNat) :: st) (M) Q := vd_g_ial (show vd_pI 0 108 = some (.iaload, 1, 1, 0, 0, .null) from rfl) h h1 h2 h3
theorem vd_E0_109 : vd_wp d 0 109 [.ref o, a1, a2, a3, a4, a5, a6] (st) M Q = vd_wp d 0 110 [.ref o, a1, a2, a3, a4, a5, a6] (.ref o :: st) (M) Q := vd_wp_alu (show vd_pI 0 109 = some (.aload_n 0, 1, 0, 0, 0, .null) from rfl) rfl
theorem vd_E0_109n : vd_wp d 0 109 [.null, a1, a2, a3, a4, a5, a6] (st) M Q = vd_wp d 0 110 [.null, a1, a2, a3, a4, a5, a6] (.null :: st) (M) Q := vd_wp_alu (show vd_pI 0 109 = some (.aload_n 0, 1, 0, 0, 0, .null) from rfl) rfl
theorem vd_E0_110 : vd_wp d 0 110 [a0, a1, a2, a3, .int x, a5, a6] (st) M Q = vd_wp d 0 112 [a0, a1, a2, a3, .int x, a5, a6] (.int x :: st) (M) Q := vd_wp_alu (show vd_pI 0 110 = some (.iload 4, 2, 0, 0, 0, .null) from rfl) rfl
theorem vd_E0_112 : vd_wp d 0 112 ls (st) M Q = vd_wp d 0 113 ls (.int (vd_I 3) :: st) (M) Q := vd_wp_alu (show vd_pI 0 112 = some (.iconst 3, 1, 0, 0, 0, .null) from rfl) rfl
theorem vd_E0_113 : vd_wp d 0 113 ls (.int y :: .int x :: st) M Q = vd_wp d 0 114 ls (.int (x + y) :: st) (M) Q := vd_wp_alu (show vd_pI 0 113 = some (.iadd, 1, 0, 0, 0, .null) from rfl) rfl
theorem vd_E0_114 (h : vd_k M o = 32) (h1 : 0 ≤ z) (h2 : z < (vd_l M o : Int)) (h3 : z < 2147483648) : vd_wp d 0 114 ls (.int (vd_I z) :: .ref o :: st) M Q = vd_wp d 0 115 ls (.int (vd_i M o z.toNat) :: st) (M) Q := vd_g_ial (show vd_pI 0 114 = some (.iaload, 1, 1, 0, 0, .null) from rfl) h h1 h2 h3
theorem vd_E0_115 : vd_wp d 0 115 [.ref o, a1, a2, a3, a4, a5, a6] (st) M Q = vd_wp d 0 116 [.ref o, a1, a2, a3, a4, a5, a6] (.ref o :: st) (M) Q := vd_wp_alu (show vd_pI 0 115 = some (.aload_n 0, 1, 0, 0, 0, .null) from rfl) rfl
theorem vd_E0_115n : vd_wp d 0 115 [.null, a1, a2, a3, a4, a5, a6] (st) M Q = vd_wp d 0 116 [.null, a1, a2, a3, a4, a5, a6] (.null :: st) (M) Q := vd_wp_alu (show vd_pI 0 115 = some (.aload_n 0, 1, 0, 0, 0, .null) from rfl) rfl
theorem vd_E0_116 : vd_wp d 0 116 [a0, a1, a2, a3, .int x, a5, a6] (st) M Q = vd_wp d 0 118 [a0, a1, a2, a3, .int x, a5, a6] (.int x :: st) (M) Q := vd_wp_alu (show vd_pI 0 116 = some (.iload 4, 2, 0, 0, 0, .null) from rfl) rfl
theorem vd_E0_118 : vd_wp d 0 118 ls (st) M Q = vd_wp d 0 119 ls (.int (vd_I 4) :: st) (M) Q := vd_wp_alu (show vd_pI 0 118 = some (.iconst 4, 1, 0, 0, 0, .null) from rfl) rfl
theorem vd_E0_119 : vd_wp d 0 119 ls (.int y :: .int x :: st) M Q = vd_wp d 0 120 ls (.int (x + y) :: st) (M) Q := vd_wp_alu (show vd_pI 0 119 = some (.iadd, 1, 0, 0, 0, .null) from rfl) rfl
theorem vd_E0_120 (h : vd_k M o = 32) (h1 : 0 ≤ z) (h2 : z < (vd_l M o : Int)) (h3 : z < 2147483648) : vd_wp d 0 120 ls (.int (vd_I z) :: .ref o :: st) M Q = vd_wp d 0 121 ls (.int (vd_i M o z.toNat) :: st) (M) Q := vd_g_ial (show vd_pI 0 120 = some (.iaload, 1, 1, 0, 0, .null) from rfl) h h1 h2 h3
theorem vd_E0_121 : vd_wp d 0 121 [.ref o, a1, a2, a3, a4, a5, a6] (st) M Q = vd_wp d 0 122 [.ref o, a1, a2, a3, a4, a5, a6] (.ref o :: st) (M) Q := vd_wp_alu (show vd_pI 0 121 = some (.aload_n 0, 1, 0, 0, 0, .null) from rfl) rfl
theorem vd_E0_121n : vd_wp d 0 121 [.null, a1, a2, a3, a4, a5, a6] (st) M Q = vd_wp d 0 122 [.null, a1, a2, a3, a4, a5, a6] (.null :: st) (M) Q := vd_wp_alu (show vd_pI 0 121 = some (.aload_n 0, 1, 0, 0, 0, .null) from rfl) rfl
theorem vd_E0_122 : vd_wp d 0 122 [a0, a1, a2, a3, .int x, a5, a6] (st) M Q = vd_wp d 0 124 [a0, a1, a2, a3, .int x, a5, a6] (.int x :: st) (M) Q := vd_wp_alu (show vd_pI 0 122 = some (.iload 4, 2, 0, 0, 0, .null) from rfl) rfl
theorem vd_E0_124 : vd_wp d 0 124 ls (st) M Q = vd_wp d 0 125 ls (.int (vd_I 5) :: st) (M) Q := vd_wp_alu (show vd_pI 0 124 = some (.iconst 5, 1, 0, 0, 0, .null) from rfl) rfl
theorem vd_E0_125 : vd_wp d 0 125 ls (.int y :: .int x :: st) M Q = vd_wp d 0 126 ls (.int (x + y) :: st) (M) Q := vd_wp_alu (show vd_pI 0 125 = some (.iadd, 1, 0, 0, 0, .null) from rfl) rfl
theorem vd_E0_126 (h : vd_k M o = 32) (h1 : 0 ≤ z) (h2 : z < (vd_l M o : Int)) (h3 : z < 2147483648) : vd_wp d 0 126 ls (.int (vd_I z) :: .ref o :: st) M Q = vd_wp d 0 127 ls (.int (vd_i M o z.toNat) :: st) (M) Q := vd_g_ial (show vd_pI 0 126 = some (.iaload, 1, 1, 0, 0, .null) from rfl) h h1 h2 h3
theorem vd_E0_127 : vd_wp d 0 127 [a0, a1, a2, .ref o, a4, a5, a6] (st) M Q = vd_wp d 0 128 [a0, a1, a2, .ref o, a4, a5, a6] (.ref o :: st) (M) Q := vd_wp_alu (show vd_pI 0 127 = some (.aload_n 3, 1, 0, 0, 0, .null) from rfl) rfl
theorem vd_E0_127n : vd_wp d 0 127 [a0, a1, a2, .null, a4, a5, a6] (st) M Q = vd_wp d 0 128 [a0, a1, a2, .null, a4, a5, a6] (.null :: st) (M) Q := vd_wp_alu (show vd_pI 0 127 = some (.aload_n 3, 1, 0, 0, 0, .null) from rfl) rfl
theorem vd_E0_128 (hc : vd_cs st ≤ 8) (hw : vd_wp d 16 0 [.ref o0, .int x1, .int x2, .int x3, .int x4, .int x5, .ref o6, vd_U] [] M (fun M1 r => ∃ v, r = .inl v ∧ vd_wp (d + 1) 0 131 ls (v.toList ++ st) M1 Q)) : vd_wp (d + 1) 0 128 ls (.ref o6 :: .int x5 :: .int x4 :: .int x3 :: .int x2 :: .int x1 :: .ref o0 :: st) M Q := vd_g_call (args := [.ref o6, .int x5, .int x4, .int x3, .int x2, .int x1, .ref o0]) (st' := st) (nL := 8) (na := 7) (rc := 99) (show vd_pI 0 128 = some (.invokestatic 56, 3, 3, 16, 0, .null) from rfl) rfl rfl rfl hc (of_decide_eq_true rfl) rfl hw
theorem vd_E0_131 (h : vd_long a4 = false) : vd_wp d 0 131 [a0, a1, a2, a3, a4, a5, a6] (.int x :: st) M Q = vd_wp d 0 133 [a0, a1, a2, a3, a4, .int x, a6] (st) (M) Q := vd_g_ist (show vd_pI 0 131 = some (.istore 5, 2, 0, 0, 0, .null) from rfl) (vd_stS rfl h (of_decide_eq_true rfl))
theorem vd_E0_133 : vd_wp d 0 133 [a0, a1, .ref o, a3, a4, a5, a6] (st) M Q = vd_wp d 0 134 [a0, a1, .ref o, a3, a4, a5, a6] (.ref o :: st) (M) Q := vd_wp_alu (show vd_pI 0 133 = some (.aload_n 2, 1, 0, 0, 0, .null) from rfl) rfl
theorem vd_E0_133n : vd_wp d 0 133 [a0, a1, .null, a3, a4, a5, a6] (st) M Q = vd_wp d 0 134 [a0, a1, .null, a3, a4, a5, a6] (.null :: st) (M) Q := vd_wp_alu (show vd_pI 0 133 = some (.aload_n 2, 1, 0, 0, 0, .null) from rfl) rfl
theorem vd_E0_134 : vd_wp d 0 134 [.ref o, a1, a2, a3, a4, a5, a6] (st) M Q = vd_wp d 0 135 [.ref o, a1, a2, a3, a4, a5, a6] (.ref o :: st) (M) Q := vd_wp_alu (show vd_pI 0 134 = some (.aload_n 0, 1, 0, 0, 0, .null) from rfl) rfl
theorem vd_E0_134n : vd_wp d 0 134 [.null, a1, a2, a3, a4, a5, a6] (st) M Q = vd_wp d 0 135 [.null, a1, a2, a3, a4, a5, a6] (.null :: st) (M) Q := vd_wp_alu (show vd_pI 0 134 = some (.aload_n 0, 1, 0, 0, 0, .null) from rfl) rfl
theorem vd_E0_135 : vd_wp d 0 135 [a0, a1, a2, a3, .int x, a5, a6] (st) M Q = vd_wp d 0 137 [a0, a1, a2, a3, .int x, a5, a6] (.int x :: st) (M) Q := vd_wp_alu (show vd_pI 0 135 = some (.iload 4, 2, 0, 0, 0, .null) from rfl) rfl
theorem vd_E0_137 : vd_wp d 0 137 ls (st) M Q = vd_wp d 0 138 ls (.int (vd_I 1) :: st) (M) Q := vd_wp_alu (show vd_pI 0 137 = some (.iconst 1, 1, 0, 0, 0, .null) from rfl) rfl
theorem vd_E0_138 : vd_wp d 0 138 ls (.int y :: .int x :: st) M Q = vd_wp d 0 139 ls (.int (x + y) :: st) (M) Q := vd_wp_alu (show vd_pI 0 138 = some (.iadd, 1, 0, 0, 0, .null) from rfl) rfl
theorem vd_E0_139 (h : vd_k M o = 32) (h1 : 0 ≤ z) (h2 : z < (vd_l M o : Int)) (h3 : z < 2147483648) : vd_wp d 0 139 ls (.int (vd_I z) :: .ref o :: st) M Q = vd_wp d 0 140 ls (.int (vd_i M o z.toNat) :: st) (M) Q := vd_g_ial (show vd_pI 0 139 = some (.iaload, 1, 1, 0, 0, .null) from rfl) h h1 h2 h3
theorem vd_E0_140 : vd_wp d 0 140 [.ref o, a1, a2, a3, a4, a5, a6] (st) M Q = vd_wp d 0 141 [.ref o, a1, a2, a3, a4, a5, a6] (.ref o :: st) (M) Q := vd_wp_alu (show vd_pI 0 140 = some (.aload_n 0, 1, 0, 0, 0, .null) from rfl) rfl
theorem vd_E0_140n : vd_wp d 0 140 [.null, a1, a2, a3, a4, a5, a6] (st) M Q = vd_wp d 0 141 [.null, a1, a2, a3, a4, a5, a6] (.null :: st) (M) Q := vd_wp_alu (show vd_pI 0 140 = some (.aload_n 0, 1, 0, 0, 0, .null) from rfl) rfl
theorem vd_E0_141 : vd_wp d 0 141 [a0, a1, a2, a3, .int x, a5, a6] (st) M Q = vd_wp d 0 143 [a0, a1, a2, a3, .int x, a5, a6] (.int x :: st) (M) Q := vd_wp_alu (show vd_pI 0 141 = some (.iload 4, 2, 0, 0, 0, .null) from rfl) rfl
theorem vd_E0_143 : vd_wp d 0 143 ls (st) M Q = vd_wp d 0 144 ls (.int (vd_I 2) :: st) (M) Q := vd_wp_alu (show vd_pI 0 143 = some (.iconst 2, 1, 0, 0, 0, .null) from rfl) rfl
theorem vd_E0_144 : vd_wp d 0 144 ls (.int y :: .int x :: st) M Q = vd_wp d 0 145 ls (.int (x + y) :: st) (M) Q := vd_wp_alu (show vd_pI 0 144 = some (.iadd, 1, 0, 0, 0, .null) from rfl) rfl
theorem vd_E0_145 (h : vd_k M o = 32) (h1 : 0 ≤ z) (h2 : z < (vd_l M o : Int)) (h3 : z < 2147483648) : vd_wp d 0 145 ls (.int (vd_I z) :: .ref o :: st) M Q = vd_wp d 0 146 ls (.int (vd_i M o z.toNat) :: st) (M) Q := vd_g_ial (show vd_pI 0 145 = some (.iaload, 1, 1, 0, 0, .null) from rfl) h h1 h2 h3
theorem vd_E0_146 : vd_wp d 0 146 [.ref o, a1, a2, a3, a4, a5, a6] (st) M Q = vd_wp d 0 147 [.ref o, a1, a2, a3, a4, a5, a6] (.ref o :: st) (M) Q := vd_wp_alu (show vd_pI 0 146 = some (.aload_n 0, 1, 0, 0, 0, .null) from rfl) rfl
theorem vd_E0_146n : vd_wp d 0 146 [.null, a1, a2, a3, a4, a5, a6] (st) M Q = vd_wp d 0 147 [.null, a1, a2, a3, a4, a5, a6] (.null :: st) (M) Q := vd_wp_alu (show vd_pI 0 146 = some (.aload_n 0, 1, 0, 0, 0, .null) from rfl) rfl
theorem vd_E0_147 : vd_wp d 0 147 [a0, a1, a2, a3, .int x, a5, a6] (st) M Q = vd_wp d 0 149 [a0, a1, a2, a3, .int x, a5, a6] (.int x :: st) (M) Q := vd_wp_alu (show vd_pI 0 147 = some (.iload 4, 2, 0, 0, 0, .null) from rfl) rfl
theorem vd_E0_149 : vd_wp d 0 149 ls (st) M Q = vd_wp d 0 150 ls (.int (vd_I 3) :: st) (M) Q := vd_wp_alu (show vd_pI 0 149 = some (.iconst 3, 1, 0, 0, 0, .null) from rfl) rfl
theorem vd_E0_150 : vd_wp d 0 150 ls (.int y :: .int x :: st) M Q = vd_wp d 0 151 ls (.int (x + y) :: st) (M) Q := vd_wp_alu (show vd_pI 0 150 = some (.iadd, 1, 0, 0, 0, .null) from rfl) rfl
theorem vd_E0_151 (h : vd_k M o = 32) (h1 : 0 ≤ z) (h2 : z < (vd_l M o : Int)) (h3 : z < 2147483648) : vd_wp d 0 151 ls (.int (vd_I z) :: .ref o :: st) M Q = vd_wp d 0 152 ls (.int (vd_i M o z.toNat) :: st) (M) Q := vd_g_ial (show vd_pI 0 151 = some (.iaload, 1, 1, 0, 0, .null) from rfl) h h1 h2 h3
theorem vd_E0_152 : vd_wp d 0 152 [.ref o, a1, a2, a3, a4, a5, a6] (st) M Q = vd_wp d 0 153 [.ref o, a1, a2, a3, a4, a5, a6] (.ref o :: st) (M) Q := vd_wp_alu (show vd_pI 0 152 = some (.aload_n 0, 1, 0, 0, 0, .null) from rfl) rfl
theorem vd_E0_152n : vd_wp d 0 152 [.null, a1, a2, a3, a4, a5, a6] (st) M Q = vd_wp d 0 153 [.null, a1, a2, a3, a4, a5, a6] (.null :: st) (M) Q := vd_wp_alu (show vd_pI 0 152 = some (.aload_n 0, 1, 0, 0, 0, .null) from rfl) rfl
theorem vd_E0_153 : vd_wp d 0 153 [a0, a1, a2, a3, .int x, a5, a6] (st) M Q = vd_wp d 0 155 [a0, a1, a2, a3, .int x, a5, a6] (.int x :: st) (M) Q := vd_wp_alu (show vd_pI 0 153 = some (.iload 4, 2, 0, 0, 0, .null) from rfl) rfl
theorem vd_E0_155 : vd_wp d 0 155 ls (st) M Q = vd_wp d 0 156 ls (.int (vd_I 4) :: st) (M) Q := vd_wp_alu (show vd_pI 0 155 = some (.iconst 4, 1, 0, 0, 0, .null) from rfl) rfl
theorem vd_E0_156 : vd_wp d 0 156 ls (.int y :: .int x :: st) M Q = vd_wp d 0 157 ls (.int (x + y) :: st) (M) Q := vd_wp_alu (show vd_pI 0 156 = some (.iadd, 1, 0, 0, 0, .null) from rfl) rfl
theorem vd_E0_157 (h : vd_k M o = 32) (h1 : 0 ≤ z) (h2 : z < (vd_l M o : Int)) (h3 : z < 2147483648) : vd_wp d 0 157 ls (.int (vd_I z) :: .ref o :: st) M Q = vd_wp d 0 158 ls (.int (vd_i M o z.toNat) :: st) (M) Q := vd_g_ial (show vd_pI 0 157 = some (.iaload, 1, 1, 0, 0, .null) from rfl) h h1 h2 h3
theorem vd_E0_158 : vd_wp d 0 158 [.ref o, a1, a2, a3, a4, a5, a6] (st) M Q = vd_wp d 0 159 [.ref o, a1, a2, a3, a4, a5, a6] (.ref o :: st) (M) Q := vd_wp_alu (show vd_pI 0 158 = some (.aload_n 0, 1, 0, 0, 0, .null) from rfl) rfl
theorem vd_E0_158n : vd_wp d 0 158 [.null, a1, a2, a3, a4, a5, a6] (st) M Q = vd_wp d 0 159 [.null, a1, a2, a3, a4, a5, a6] (.null :: st) (M) Q := vd_wp_alu (show vd_pI 0 158 = some (.aload_n 0, 1, 0, 0, 0, .null) from rfl) rfl
theorem vd_E0_159 : vd_wp d 0 159 [a0, a1, a2, a3, .int x, a5, a6] (st) M Q = vd_wp d 0 161 [a0, a1, a2, a3, .int x, a5, a6] (.int x :: st) (M) Q := vd_wp_alu (show vd_pI 0 159 = some (.iload 4, 2, 0, 0, 0, .null) from rfl) rfl
theorem vd_E0_161 : vd_wp d 0 161 ls (st) M Q = vd_wp d 0 162 ls (.int (vd_I 5) :: st) (M) Q := vd_wp_alu (show vd_pI 0 161 = some (.iconst 5, 1, 0, 0, 0, .null) from rfl) rfl
theorem vd_E0_162 : vd_wp d 0 162 ls (.int y :: .int x :: st) M Q = vd_wp d 0 163 ls (.int (x + y) :: st) (M) Q := vd_wp_alu (show vd_pI 0 162 = some (.iadd, 1, 0, 0, 0, .null) from rfl) rfl
theorem vd_E0_163 (h : vd_k M o = 32) (h1 : 0 ≤ z) (h2 : z < (vd_l M o : Int)) (h3 : z < 2147483648) : vd_wp d 0 163 ls (.int (vd_I z) :: .ref o :: st) M Q = vd_wp d 0 164 ls (.int (vd_i M o z.toNat) :: st) (M) Q := vd_g_ial (show vd_pI 0 163 = some (.iaload, 1, 1, 0, 0, .null) from rfl) h h1 h2 h3
theorem vd_E0_164 (hc : vd_cs st ≤ 8) (h : vd_k M o = 12) (hw : vd_wp d 167 0 [.ref o, .int x0, .int x1, .int x2, .int x3, .int x4, vd_U, vd_U] [] M (fun M1 r => ∃ v, r = .inl v ∧ vd_wp (d + 1) 0 167 ls (v.toList ++ st) M1 Q)) : vd_wp (d + 1) 0 164 ls (.int x4 :: .int x3 :: .int x2 :: .int x1 :: .int x0 :: .ref o :: st) M Q := vd_g_call (args := [.int x4, .int x3, .int x2, .int x1, .int x0, .ref o]) (st' := st) (nL := 8) (na := 6) (rc := 12) (show vd_pI 0 164 = some (.invokevirtual 61, 3, 3, 167, 0, .null) from rfl) rfl rfl rfl hc (of_decide_eq_true rfl) (by simp [h]) hw
theorem vd_E0_167 (h : vd_long a5 = false) : vd_wp d 0 167 [a0, a1, a2, a3, a4, a5, a6] (.int x :: st) M Q = vd_wp d 0 169 [a0, a1, a2, a3, a4, a5, .int x] (st) (M) Q := vd_g_ist (show vd_pI 0 167 = some (.istore 6, 2, 0, 0, 0, .null) from rfl) (vd_stS rfl h (of_decide_eq_true rfl))
theorem vd_E0_169 : vd_wp d 0 169 [a0, a1, .ref o, a3, a4, a5, a6] (st) M Q = vd_wp d 0 170 [a0, a1, .ref o, a3, a4, a5, a6] (.ref o :: st) (M) Q := vd_wp_alu (show vd_pI 0 169 = some (.aload_n 2, 1, 0, 0, 0, .null) from rfl) rfl
theorem vd_E0_169n : vd_wp d 0 169 [a0, a1, .null, a3, a4, a5, a6] (st) M Q = vd_wp d 0 170 [a0, a1, .null, a3, a4, a5, a6] (.null :: st) (M) Q := vd_wp_alu (show vd_pI 0 169 = some (.aload_n 2, 1, 0, 0, 0, .null) from rfl) rfl
theorem vd_E0_170 (hc : vd_cs st ≤ 8) (h : vd_k M o = 12) (hw : vd_wp d 166 0 [.ref o] [] M (fun M1 r => ∃ v, r = .inl v ∧ vd_wp (d + 1) 0 173 ls (v.toList ++ st) M1 Q)) : vd_wp (d + 1) 0 170 ls (.ref o :: st) M Q := vd_g_call (args := [.ref o]) (st' := st) (nL := 1) (na := 1) (rc := 12) (show vd_pI 0 170 = some (.invokevirtual 62, 3, 3, 166, 0, .null) from rfl) rfl rfl rfl hc (of_decide_eq_true rfl) (by simp [h]) hw
theorem vd_E0_173 : vd_wp d 0 173 [a0, a1, a2, a3, a4, .int x, a6] (st) M Q = vd_wp d 0 175 [a0, a1, a2, a3, a4, .int x, a6] (.int x :: st) (M) Q := vd_wp_alu (show vd_pI 0 173 = some (.iload 5, 2, 0, 0, 0, .null) from rfl) rfl
theorem vd_E0_175 : vd_wp d 0 175 ls (.int y :: .int x :: st) M Q = if x.toInt = y.toInt then vd_wp d 0 180 ls st M Q else vd_wp d 0 178 ls st M Q := vd_g_if (show vd_pI 0 175 = some (.if_icmp .eq 5, 3, 0, 0, 0, .null) from rfl) rfl vd_c_eq
theorem vd_E0_178 : vd_wp d 0 178 ls (st) M Q = vd_wp d 0 179 ls (.int (vd_I 0) :: st) (M) Q := vd_wp_alu (show vd_pI 0 178 = some (.iconst 0, 1, 0, 0, 0, .null) from rfl) rfl
theorem vd_E0_179 (h : vd_rok (some .boolean) x = true) : vd_wp d 0 179 ls [.int x] M Q = Q M (.inl (some (.int x))) := vd_g_iret (show vd_pI 0 179 = some (.ireturn, 1, 4, 0, 0, .null) from rfl) h
theorem vd_E0_180 : vd_wp d 0 180 [a0, a1, a2, a3, a4, .int x, a6] (st) M Q = vd_wp d 0 182 [a0, a1, a2, a3, a4, .int x, a6] (.int x :: st) (M) Q := vd_wp_alu (show vd_pI 0 180 = some (.iload 5, 2, 0, 0, 0, .null) from rfl) rfl
theorem vd_E0_182 : vd_wp d 0 182 ls (.int x :: st) M Q = if x.toInt = 0 then vd_wp d 0 185 ls st M Q else vd_wp d 0 197 ls st M Q := vd_g_ifn (show vd_pI 0 182 = some (.ifCond .ne 15, 3, 0, 0, 0, .null) from rfl) rfl vd_c_ne0
theorem vd_E0_185 : vd_wp d 0 185 [a0, a1, a2, .ref o, a4, a5, a6] (st) M Q = vd_wp d 0 186 [a0, a1, a2, .ref o, a4, a5, a6] (.ref o :: st) (M) Q := vd_wp_alu (show vd_pI 0 185 = some (.aload_n 3, 1, 0, 0, 0, .null) from rfl) rfl
theorem vd_E0_185n : vd_wp d 0 185 [a0, a1, a2, .null, a4, a5, a6] (st) M Q = vd_wp d 0 186 [a0, a1, a2, .null, a4, a5, a6] (.null :: st) (M) Q := vd_wp_alu (show vd_pI 0 185 = some (.aload_n 3, 1, 0, 0, 0, .null) from rfl) rfl
theorem vd_E0_186 : vd_wp d 0 186 ls (st) M Q = vd_wp d 0 187 ls (.int (vd_I 0) :: st) (M) Q := vd_wp_alu (show vd_pI 0 186 = some (.iconst 0, 1, 0, 0, 0, .null) from rfl) rfl
theorem vd_E0_187 (h : vd_k M o = 35) (h1 : 0 ≤ z) (h2 : z < (vd_l M o : Int)) (h3 : z < 2147483648) : vd_wp d 0 187 ls (.int (vd_I z) :: .ref o :: st) M Q = vd_wp d 0 188 ls (.long (vd_j M o z.toNat) :: st) (M) Q := vd_g_lal (show vd_pI 0 187 = some (.laload, 1, 1, 0, 0, .null) from rfl) h h1 h2 h3
theorem vd_E0_188 : vd_wp d 0 188 [a0, a1, a2, a3, a4, a5, .int x] (st) M Q = vd_wp d 0 190 [a0, a1, a2, a3, a4, a5, .int x] (.int x :: st) (M) Q := vd_wp_alu (show vd_pI 0 188 = some (.iload 6, 2, 0, 0, 0, .null) from rfl) rfl
theorem vd_E0_190 : vd_wp d 0 190 ls (.int x :: st) M Q = vd_wp d 0 191 ls (.long x.toInt64 :: st) (M) Q := vd_wp_alu (show vd_pI 0 190 = some (.i2l, 1, 0, 0, 0, .null) from rfl) rfl
theorem vd_E0_191 : vd_wp d 0 191 ls (.long w :: .long u :: st) M Q = vd_wp d 0 192 ls (.int (lg_cmp u w) :: st) (M) Q := vd_wp_alu (show vd_pI 0 191 = some (.lcmp, 1, 0, 0, 0, .null) from rfl) rfl
theorem vd_E0_192 : vd_wp d 0 192 ls (.int x :: st) M Q = if x.toInt = 0 then vd_wp d 0 197 ls st M Q else vd_wp d 0 195 ls st M Q := vd_g_if (show vd_pI 0 192 = some (.ifCond .eq 5, 3, 0, 0, 0, .null) from rfl) rfl vd_c_eq0
theorem vd_E0_195 : vd_wp d 0 195 ls (st) M Q = vd_wp d 0 196 ls (.int (vd_I 0) :: st) (M) Q := vd_wp_alu (show vd_pI 0 195 = some (.iconst 0, 1, 0, 0, 0, .null) from rfl) rfl
theorem vd_E0_196 (h : vd_rok (some .boolean) x = true) : vd_wp d 0 196 ls [.int x] M Q = Q M (.inl (some (.int x))) := vd_g_iret (show vd_pI 0 196 = some (.ireturn, 1, 4, 0, 0, .null) from rfl) h
theorem vd_E0_197 : vd_wp d 0 197 ls (st) M Q = vd_wp d 0 757 ls (st) (M) Q := vd_wp_alu (show vd_pI 0 197 = some (.goto 560, 3, 0, 0, 0, .null) from rfl) rfl
theorem vd_E0_200 : vd_wp d 0 200 [a0, .ref o, a2, a3, a4, a5, a6] (st) M Q = vd_wp d 0 201 [a0, .ref o, a2, a3, a4, a5, a6] (.ref o :: st) (M) Q := vd_wp_alu (show vd_pI 0 200 = some (.aload_n 1, 1, 0, 0, 0, .null) from rfl) rfl
theorem vd_E0_200n : vd_wp d 0 200 [a0, .null, a2, a3, a4, a5, a6] (st) M Q = vd_wp d 0 201 [a0, .null, a2, a3, a4, a5, a6] (.null :: st) (M) Q := vd_wp_alu (show vd_pI 0 200 = some (.aload_n 1, 1, 0, 0, 0, .null) from rfl) rfl
theorem vd_E0_201 : vd_wp d 0 201 [.ref o, a1, a2, a3, a4, a5, a6] (st) M Q = vd_wp d 0 202 [.ref o, a1, a2, a3, a4, a5, a6] (.ref o :: st) (M) Q := vd_wp_alu (show vd_pI 0 201 = some (.aload_n 0, 1, 0, 0, 0, .null) from rfl) rfl
theorem vd_E0_201n : vd_wp d 0 201 [.null, a1, a2, a3, a4, a5, a6] (st) M Q = vd_wp d 0 202 [.null, a1, a2, a3, a4, a5, a6] (.null :: st) (M) Q := vd_wp_alu (show vd_pI 0 201 = some (.aload_n 0, 1, 0, 0, 0, .null) from rfl) rfl
theorem vd_E0_202 : vd_wp d 0 202 [a0, a1, a2, a3, .int x, a5, a6] (st) M Q = vd_wp d 0 204 [a0, a1, a2, a3, .int x, a5, a6] (.int x :: st) (M) Q := vd_wp_alu (show vd_pI 0 202 = some (.iload 4, 2, 0, 0, 0, .null) from rfl) rfl
theorem vd_E0_204 : vd_wp d 0 204 ls (st) M Q = vd_wp d 0 205 ls (.int (vd_I 1) :: st) (M) Q := vd_wp_alu (show vd_pI 0 204 = some (.iconst 1, 1, 0, 0, 0, .null) from rfl) rfl
theorem vd_E0_205 : vd_wp d 0 205 ls (.int y :: .int x :: st) M Q = vd_wp d 0 206 ls (.int (x + y) :: st) (M) Q := vd_wp_alu (show vd_pI 0 205 = some (.iadd, 1, 0, 0, 0, .null) from rfl) rfl
theorem vd_E0_206 (h : vd_k M o = 32) (h1 : 0 ≤ z) (h2 : z < (vd_l M o : Int)) (h3 : z < 2147483648) : vd_wp d 0 206 ls (.int (vd_I z) :: .ref o :: st) M Q = vd_wp d 0 207 ls (.int (vd_i M o z.toNat) :: st) (M) Q := vd_g_ial (show vd_pI 0 206 = some (.iaload, 1, 1, 0, 0, .null) from rfl) h h1 h2 h3
theorem vd_E0_207 : vd_wp d 0 207 [a0, a1, a2, .ref o, a4, a5, a6] (st) M Q = vd_wp d 0 208 [a0, a1, a2, .ref o, a4, a5, a6] (.ref o :: st) (M) Q := vd_wp_alu (show vd_pI 0 207 = some (.aload_n 3, 1, 0, 0, 0, .null) from rfl) rfl
theorem vd_E0_207n : vd_wp d 0 207 [a0, a1, a2, .null, a4, a5, a6] (st) M Q = vd_wp d 0 208 [a0, a1, a2, .null, a4, a5, a6] (.null :: st) (M) Q := vd_wp_alu (show vd_pI 0 207 = some (.aload_n 3, 1, 0, 0, 0, .null) from rfl) rfl
theorem vd_E0_208 (hc : vd_cs st ≤ 8) (hw : vd_wp d 19 0 [.ref o0, .int x1, .ref o2, vd_U] [] M (fun M1 r => ∃ v, r = .inl v ∧ vd_wp (d + 1) 0 211 ls (v.toList ++ st) M1 Q)) : vd_wp (d + 1) 0 208 ls (.ref o2 :: .int x1 :: .ref o0 :: st) M Q := vd_g_call (args := [.ref o2, .int x1, .ref o0]) (st' := st) (nL := 4) (na := 3) (rc := 99) (show vd_pI 0 208 = some (.invokestatic 65, 3, 3, 19, 0, .null) from rfl) rfl rfl rfl hc (of_decide_eq_true rfl) rfl hw
theorem vd_E0_211 (h : vd_long a4 = false) : vd_wp d 0 211 [a0, a1, a2, a3, a4, a5, a6] (.int x :: st) M Q = vd_wp d 0 213 [a0, a1, a2, a3, a4, .int x, a6] (st) (M) Q := vd_g_ist (show vd_pI 0 211 = some (.istore 5, 2, 0, 0, 0, .null) from rfl) (vd_stS rfl h (of_decide_eq_true rfl))
theorem vd_E0_213 : vd_wp d 0 213 [a0, a1, .ref o, a3, a4, a5, a6] (st) M Q = vd_wp d 0 214 [a0, a1, .ref o, a3, a4, a5, a6] (.ref o :: st) (M) Q := vd_wp_alu (show vd_pI 0 213 = some (.aload_n 2, 1, 0, 0, 0, .null) from rfl) rfl
theorem vd_E0_213n : vd_wp d 0 213 [a0, a1, .null, a3, a4, a5, a6] (st) M Q = vd_wp d 0 214 [a0, a1, .null, a3, a4, a5, a6] (.null :: st) (M) Q := vd_wp_alu (show vd_pI 0 213 = some (.aload_n 2, 1, 0, 0, 0, .null) from rfl) rfl
theorem vd_E0_214 : vd_wp d 0 214 [.ref o, a1, a2, a3, a4, a5, a6] (st) M Q = vd_wp d 0 215 [.ref o, a1, a2, a3, a4, a5, a6] (.ref o :: st) (M) Q := vd_wp_alu (show vd_pI 0 214 = some (.aload_n 0, 1, 0, 0, 0, .null) from rfl) rfl
theorem vd_E0_214n : vd_wp d 0 214 [.null, a1, a2, a3, a4, a5, a6] (st) M Q = vd_wp d 0 215 [.null, a1, a2, a3, a4, a5, a6] (.null :: st) (M) Q := vd_wp_alu (show vd_pI 0 214 = some (.aload_n 0, 1, 0, 0, 0, .null) from rfl) rfl
theorem vd_E0_215 : vd_wp d 0 215 [a0, a1, a2, a3, .int x, a5, a6] (st) M Q = vd_wp d 0 217 [a0, a1, a2, a3, .int x, a5, a6] (.int x :: st) (M) Q := vd_wp_alu (show vd_pI 0 215 = some (.iload 4, 2, 0, 0, 0, .null) from rfl) rfl
theorem vd_E0_217 : vd_wp d 0 217 ls (st) M Q = vd_wp d 0 218 ls (.int (vd_I 1) :: st) (M) Q := vd_wp_alu (show vd_pI 0 217 = some (.iconst 1, 1, 0, 0, 0, .null) from rfl) rfl
theorem vd_E0_218 : vd_wp d 0 218 ls (.int y :: .int x :: st) M Q = vd_wp d 0 219 ls (.int (x + y) :: st) (M) Q := vd_wp_alu (show vd_pI 0 218 = some (.iadd, 1, 0, 0, 0, .null) from rfl) rfl
theorem vd_E0_219 (h : vd_k M o = 32) (h1 : 0 ≤ z) (h2 : z < (vd_l M o : Int)) (h3 : z < 2147483648) : vd_wp d 0 219 ls (.int (vd_I z) :: .ref o :: st) M Q = vd_wp d 0 220 ls (.int (vd_i M o z.toNat) :: st) (M) Q := vd_g_ial (show vd_pI 0 219 = some (.iaload, 1, 1, 0, 0, .null) from rfl) h h1 h2 h3
theorem vd_E0_220 (hc : vd_cs st ≤ 8) (h : vd_k M o = 12) (hw : vd_wp d 169 0 [.ref o, .int x0] [] M (fun M1 r => ∃ v, r = .inl v ∧ vd_wp (d + 1) 0 223 ls (v.toList ++ st) M1 Q)) : vd_wp (d + 1) 0 220 ls (.int x0 :: .ref o :: st) M Q := vd_g_call (args := [.int x0, .ref o]) (st' := st) (nL := 2) (na := 2) (rc := 12) (show vd_pI 0 220 = some (.invokevirtual 68, 3, 3, 169, 0, .null) from rfl) rfl rfl rfl hc (of_decide_eq_true rfl) (by simp [h]) hw
theorem vd_E0_223 (h : vd_long a5 = false) : vd_wp d 0 223 [a0, a1, a2, a3, a4, a5, a6] (.int x :: st) M Q = vd_wp d 0 225 [a0, a1, a2, a3, a4, a5, .int x] (st) (M) Q := vd_g_ist (show vd_pI 0 223 = some (.istore 6, 2, 0, 0, 0, .null) from rfl) (vd_stS rfl h (of_decide_eq_true rfl))
theorem vd_E0_225 : vd_wp d 0 225 [a0, a1, .ref o, a3, a4, a5, a6] (st) M Q = vd_wp d 0 226 [a0, a1, .ref o, a3, a4, a5, a6] (.ref o :: st) (M) Q := vd_wp_alu (show vd_pI 0 225 = some (.aload_n 2, 1, 0, 0, 0, .null) from rfl) rfl
theorem vd_E0_225n : vd_wp d 0 225 [a0, a1, .null, a3, a4, a5, a6] (st) M Q = vd_wp d 0 226 [a0, a1, .null, a3, a4, a5, a6] (.null :: st) (M) Q := vd_wp_alu (show vd_pI 0 225 = some (.aload_n 2, 1, 0, 0, 0, .null) from rfl) rfl
theorem vd_E0_226 (hc : vd_cs st ≤ 8) (h : vd_k M o = 12) (hw : vd_wp d 166 0 [.ref o] [] M (fun M1 r => ∃ v, r = .inl v ∧ vd_wp (d + 1) 0 229 ls (v.toList ++ st) M1 Q)) : vd_wp (d + 1) 0 226 ls (.ref o :: st) M Q := vd_g_call (args := [.ref o]) (st' := st) (nL := 1) (na := 1) (rc := 12) (show vd_pI 0 226 = some (.invokevirtual 62, 3, 3, 166, 0, .null) from rfl) rfl rfl rfl hc (of_decide_eq_true rfl) (by simp [h]) hw
theorem vd_E0_229 : vd_wp d 0 229 [a0, a1, a2, a3, a4, .int x, a6] (st) M Q = vd_wp d 0 231 [a0, a1, a2, a3, a4, .int x, a6] (.int x :: st) (M) Q := vd_wp_alu (show vd_pI 0 229 = some (.iload 5, 2, 0, 0, 0, .null) from rfl) rfl
theorem vd_E0_231 : vd_wp d 0 231 ls (.int y :: .int x :: st) M Q = if x.toInt = y.toInt then vd_wp d 0 236 ls st M Q else vd_wp d 0 234 ls st M Q := vd_g_if (show vd_pI 0 231 = some (.if_icmp .eq 5, 3, 0, 0, 0, .null) from rfl) rfl vd_c_eq
theorem vd_E0_234 : vd_wp d 0 234 ls (st) M Q = vd_wp d 0 235 ls (.int (vd_I 0) :: st) (M) Q := vd_wp_alu (show vd_pI 0 234 = some (.iconst 0, 1, 0, 0, 0, .null) from rfl) rfl
theorem vd_E0_235 (h : vd_rok (some .boolean) x = true) : vd_wp d 0 235 ls [.int x] M Q = Q M (.inl (some (.int x))) := vd_g_iret (show vd_pI 0 235 = some (.ireturn, 1, 4, 0, 0, .null) from rfl) h
theorem vd_E0_236 : vd_wp d 0 236 [a0, a1, a2, a3, a4, .int x, a6] (st) M Q = vd_wp d 0 238 [a0, a1, a2, a3, a4, .int x, a6] (.int x :: st) (M) Q := vd_wp_alu (show vd_pI 0 236 = some (.iload 5, 2, 0, 0, 0, .null) from rfl) rfl
theorem vd_E0_238 : vd_wp d 0 238 ls (.int x :: st) M Q = if x.toInt = 0 then vd_wp d 0 241 ls st M Q else vd_wp d 0 253 ls st M Q := vd_g_ifn (show vd_pI 0 238 = some (.ifCond .ne 15, 3, 0, 0, 0, .null) from rfl) rfl vd_c_ne0
theorem vd_E0_241 : vd_wp d 0 241 [a0, a1, a2, .ref o, a4, a5, a6] (st) M Q = vd_wp d 0 242 [a0, a1, a2, .ref o, a4, a5, a6] (.ref o :: st) (M) Q := vd_wp_alu (show vd_pI 0 241 = some (.aload_n 3, 1, 0, 0, 0, .null) from rfl) rfl
theorem vd_E0_241n : vd_wp d 0 241 [a0, a1, a2, .null, a4, a5, a6] (st) M Q = vd_wp d 0 242 [a0, a1, a2, .null, a4, a5, a6] (.null :: st) (M) Q := vd_wp_alu (show vd_pI 0 241 = some (.aload_n 3, 1, 0, 0, 0, .null) from rfl) rfl
theorem vd_E0_242 : vd_wp d 0 242 ls (st) M Q = vd_wp d 0 243 ls (.int (vd_I 0) :: st) (M) Q := vd_wp_alu (show vd_pI 0 242 = some (.iconst 0, 1, 0, 0, 0, .null) from rfl) rfl
theorem vd_E0_243 (h : vd_k M o = 35) (h1 : 0 ≤ z) (h2 : z < (vd_l M o : Int)) (h3 : z < 2147483648) : vd_wp d 0 243 ls (.int (vd_I z) :: .ref o :: st) M Q = vd_wp d 0 244 ls (.long (vd_j M o z.toNat) :: st) (M) Q := vd_g_lal (show vd_pI 0 243 = some (.laload, 1, 1, 0, 0, .null) from rfl) h h1 h2 h3
theorem vd_E0_244 : vd_wp d 0 244 [a0, a1, a2, a3, a4, a5, .int x] (st) M Q = vd_wp d 0 246 [a0, a1, a2, a3, a4, a5, .int x] (.int x :: st) (M) Q := vd_wp_alu (show vd_pI 0 244 = some (.iload 6, 2, 0, 0, 0, .null) from rfl) rfl
theorem vd_E0_246 : vd_wp d 0 246 ls (.int x :: st) M Q = vd_wp d 0 247 ls (.long x.toInt64 :: st) (M) Q := vd_wp_alu (show vd_pI 0 246 = some (.i2l, 1, 0, 0, 0, .null) from rfl) rfl
theorem vd_E0_247 : vd_wp d 0 247 ls (.long w :: .long u :: st) M Q = vd_wp d 0 248 ls (.int (lg_cmp u w) :: st) (M) Q := vd_wp_alu (show vd_pI 0 247 = some (.lcmp, 1, 0, 0, 0, .null) from rfl) rfl
theorem vd_E0_248 : vd_wp d 0 248 ls (.int x :: st) M Q = if x.toInt = 0 then vd_wp d 0 253 ls st M Q else vd_wp d 0 251 ls st M Q := vd_g_if (show vd_pI 0 248 = some (.ifCond .eq 5, 3, 0, 0, 0, .null) from rfl) rfl vd_c_eq0
theorem vd_E0_251 : vd_wp d 0 251 ls (st) M Q = vd_wp d 0 252 ls (.int (vd_I 0) :: st) (M) Q := vd_wp_alu (show vd_pI 0 251 = some (.iconst 0, 1, 0, 0, 0, .null) from rfl) rfl
theorem vd_E0_252 (h : vd_rok (some .boolean) x = true) : vd_wp d 0 252 ls [.int x] M Q = Q M (.inl (some (.int x))) := vd_g_iret (show vd_pI 0 252 = some (.ireturn, 1, 4, 0, 0, .null) from rfl) h
theorem vd_E0_253 : vd_wp d 0 253 ls (st) M Q = vd_wp d 0 757 ls (st) (M) Q := vd_wp_alu (show vd_pI 0 253 = some (.goto 504, 3, 0, 0, 0, .null) from rfl) rfl
theorem vd_E0_256 : vd_wp d 0 256 [a0, .ref o, a2, a3, a4, a5, a6] (st) M Q = vd_wp d 0 257 [a0, .ref o, a2, a3, a4, a5, a6] (.ref o :: st) (M) Q := vd_wp_alu (show vd_pI 0 256 = some (.aload_n 1, 1, 0, 0, 0, .null) from rfl) rfl
theorem vd_E0_256n : vd_wp d 0 256 [a0, .null, a2, a3, a4, a5, a6] (st) M Q = vd_wp d 0 257 [a0, .null, a2, a3, a4, a5, a6] (.null :: st) (M) Q := vd_wp_alu (show vd_pI 0 256 = some (.aload_n 1, 1, 0, 0, 0, .null) from rfl) rfl
theorem vd_E0_257 : vd_wp d 0 257 [a0, a1, a2, .ref o, a4, a5, a6] (st) M Q = vd_wp d 0 258 [a0, a1, a2, .ref o, a4, a5, a6] (.ref o :: st) (M) Q := vd_wp_alu (show vd_pI 0 257 = some (.aload_n 3, 1, 0, 0, 0, .null) from rfl) rfl
theorem vd_E0_257n : vd_wp d 0 257 [a0, a1, a2, .null, a4, a5, a6] (st) M Q = vd_wp d 0 258 [a0, a1, a2, .null, a4, a5, a6] (.null :: st) (M) Q := vd_wp_alu (show vd_pI 0 257 = some (.aload_n 3, 1, 0, 0, 0, .null) from rfl) rfl
theorem vd_E0_258 (hc : vd_cs st ≤ 8) (hw : vd_wp d 21 0 [.ref o0, .ref o1, vd_U] [] M (fun M1 r => ∃ v, r = .inl v ∧ vd_wp (d + 1) 0 261 ls (v.toList ++ st) M1 Q)) : vd_wp (d + 1) 0 258 ls (.ref o1 :: .ref o0 :: st) M Q := vd_g_call (args := [.ref o1, .ref o0]) (st' := st) (nL := 3) (na := 2) (rc := 99) (show vd_pI 0 258 = some (.invokestatic 69, 3, 3, 21, 0, .null) from rfl) rfl rfl rfl hc (of_decide_eq_true rfl) rfl hw
theorem vd_E0_261 (h : vd_long a4 = false) : vd_wp d 0 261 [a0, a1, a2, a3, a4, a5, a6] (.int x :: st) M Q = vd_wp d 0 263 [a0, a1, a2, a3, a4, .int x, a6] (st) (M) Q := vd_g_ist (show vd_pI 0 261 = some (.istore 5, 2, 0, 0, 0, .null) from rfl) (vd_stS rfl h (of_decide_eq_true rfl))
theorem vd_E0_263 : vd_wp d 0 263 [a0, a1, .ref o, a3, a4, a5, a6] (st) M Q = vd_wp d 0 264 [a0, a1, .ref o, a3, a4, a5, a6] (.ref o :: st) (M) Q := vd_wp_alu (show vd_pI 0 263 = some (.aload_n 2, 1, 0, 0, 0, .null) from rfl) rfl
theorem vd_E0_263n : vd_wp d 0 263 [a0, a1, .null, a3, a4, a5, a6] (st) M Q = vd_wp d 0 264 [a0, a1, .null, a3, a4, a5, a6] (.null :: st) (M) Q := vd_wp_alu (show vd_pI 0 263 = some (.aload_n 2, 1, 0, 0, 0, .null) from rfl) rfl
theorem vd_E0_264 (hc : vd_cs st ≤ 8) (h : vd_k M o = 12) (hw : vd_wp d 170 0 [.ref o, vd_U, vd_U, vd_U, vd_U, vd_U, vd_U] [] M (fun M1 r => ∃ v, r = .inl v ∧ vd_wp (d + 1) 0 267 ls (v.toList ++ st) M1 Q)) : vd_wp (d + 1) 0 264 ls (.ref o :: st) M Q := vd_g_call (args := [.ref o]) (st' := st) (nL := 7) (na := 1) (rc := 12) (show vd_pI 0 264 = some (.invokevirtual 72, 3, 3, 170, 0, .null) from rfl) rfl rfl rfl hc (of_decide_eq_true rfl) (by simp [h]) hw
set_option maxRecDepth 8000 in
theorem vd_E0_267 (h : vd_long a5 = false) : vd_wp d 0 267 [a0, a1, a2, a3, a4, a5, a6] (.int x :: st) M Q = vd_wp d 0 269 [a0, a1, a2, a3, a4, a5, .int x] (st) (M) Q := vd_g_ist (show vd_pI 0 267 = some (.istore 6, 2, 0, 0, 0, .null) from rfl) (vd_stS rfl h (of_decide_eq_true rfl))
set_option maxRecDepth 8000 in
theorem vd_E0_269 : vd_wp d 0 269 [a0, a1, .ref o, a3, a4, a5, a6] (st) M Q = vd_wp d 0 270 [a0, a1, .ref o, a3, a4, a5, a6] (.ref o :: st) (M) Q := vd_wp_alu (show vd_pI 0 269 = some (.aload_n 2, 1, 0, 0, 0, .null) from rfl) rfl
set_option maxRecDepth 8000 in
theorem vd_E0_269n : vd_wp d 0 269 [a0, a1, .null, a3, a4, a5, a6] (st) M Q = vd_wp d 0 270 [a0, a1, .null, a3, a4, a5, a6] (.null :: st) (M) Q := vd_wp_alu (show vd_pI 0 269 = some (.aload_n 2, 1, 0, 0, 0, .null) from rfl) rfl
set_option maxRecDepth 8000 in
theorem vd_E0_270 (hc : vd_cs st ≤ 8) (h : vd_k M o = 12) (hw : vd_wp d 166 0 [.ref o] [] M (fun M1 r => ∃ v, r = .inl v ∧ vd_wp (d + 1) 0 273 ls (v.toList ++ st) M1 Q)) : vd_wp (d + 1) 0 270 ls (.ref o :: st) M Q := vd_g_call (args := [.ref o]) (st' := st) (nL := 1) (na := 1) (rc := 12) (show vd_pI 0 270 = some (.invokevirtual 62, 3, 3, 166, 0, .null) from rfl) rfl rfl rfl hc (of_decide_eq_true rfl) (by simp [h]) hw
set_option maxRecDepth 8000 in
theorem vd_E0_273 : vd_wp d 0 273 [a0, a1, a2, a3, a4, .int x, a6] (st) M Q = vd_wp d 0 275 [a0, a1, a2, a3, a4, .int x, a6] (.int x :: st) (M) Q := vd_wp_alu (show vd_pI 0 273 = some (.iload 5, 2, 0, 0, 0, .null) from rfl) rfl
set_option maxRecDepth 8000 in
theorem vd_E0_275 : vd_wp d 0 275 ls (.int y :: .int x :: st) M Q = if x.toInt = y.toInt then vd_wp d 0 280 ls st M Q else vd_wp d 0 278 ls st M Q := vd_g_if (show vd_pI 0 275 = some (.if_icmp .eq 5, 3, 0, 0, 0, .null) from rfl) rfl vd_c_eq
set_option maxRecDepth 8000 in
theorem vd_E0_278 : vd_wp d 0 278 ls (st) M Q = vd_wp d 0 279 ls (.int (vd_I 0) :: st) (M) Q := vd_wp_alu (show vd_pI 0 278 = some (.iconst 0, 1, 0, 0, 0, .null) from rfl) rfl
set_option maxRecDepth 8000 in
theorem vd_E0_279 (h : vd_rok (some .boolean) x = true) : vd_wp d 0 279 ls [.int x] M Q = Q M (.inl (some (.int x))) := vd_g_iret (show vd_pI 0 279 = some (.ireturn, 1, 4, 0, 0, .null) from rfl) h
set_option maxRecDepth 8000 in
theorem vd_E0_280 : vd_wp d 0 280 [a0, a1, a2, a3, a4, .int x, a6] (st) M Q = vd_wp d 0 282 [a0, a1, a2, a3, a4, .int x, a6] (.int x :: st) (M) Q := vd_wp_alu (show vd_pI 0 280 = some (.iload 5, 2, 0, 0, 0, .null) from rfl) rfl
set_option maxRecDepth 8000 in
theorem vd_E0_282 : vd_wp d 0 282 ls (.int x :: st) M Q = if x.toInt = 0 then vd_wp d 0 285 ls st M Q else vd_wp d 0 297 ls st M Q := vd_g_ifn (show vd_pI 0 282 = some (.ifCond .ne 15, 3, 0, 0, 0, .null) from rfl) rfl vd_c_ne0
set_option maxRecDepth 8000 in
theorem vd_E0_285 : vd_wp d 0 285 [a0, a1, a2, .ref o, a4, a5, a6] (st) M Q = vd_wp d 0 286 [a0, a1, a2, .ref o, a4, a5, a6] (.ref o :: st) (M) Q := vd_wp_alu (show vd_pI 0 285 = some (.aload_n 3, 1, 0, 0, 0, .null) from rfl) rfl
set_option maxRecDepth 8000 in
theorem vd_E0_285n : vd_wp d 0 285 [a0, a1, a2, .null, a4, a5, a6] (st) M Q = vd_wp d 0 286 [a0, a1, a2, .null, a4, a5, a6] (.null :: st) (M) Q := vd_wp_alu (show vd_pI 0 285 = some (.aload_n 3, 1, 0, 0, 0, .null) from rfl) rfl
set_option maxRecDepth 8000 in
theorem vd_E0_286 : vd_wp d 0 286 ls (st) M Q = vd_wp d 0 287 ls (.int (vd_I 0) :: st) (M) Q := vd_wp_alu (show vd_pI 0 286 = some (.iconst 0, 1, 0, 0, 0, .null) from rfl) rfl
set_option maxRecDepth 8000 in
theorem vd_E0_287 (h : vd_k M o = 35) (h1 : 0 ≤ z) (h2 : z < (vd_l M o : Int)) (h3 : z < 2147483648) : vd_wp d 0 287 ls (.int (vd_I z) :: .ref o :: st) M Q = vd_wp d 0 288 ls (.long (vd_j M o z.toNat) :: st) (M) Q := vd_g_lal (show vd_pI 0 287 = some (.laload, 1, 1, 0, 0, .null) from rfl) h h1 h2 h3
set_option maxRecDepth 8000 in
theorem vd_E0_288 : vd_wp d 0 288 [a0, a1, a2, a3, a4, a5, .int x] (st) M Q = vd_wp d 0 290 [a0, a1, a2, a3, a4, a5, .int x] (.int x :: st) (M) Q := vd_wp_alu (show vd_pI 0 288 = some (.iload 6, 2, 0, 0, 0, .null) from rfl) rfl
set_option maxRecDepth 8000 in
theorem vd_E0_290 : vd_wp d 0 290 ls (.int x :: st) M Q = vd_wp d 0 291 ls (.long x.toInt64 :: st) (M) Q := vd_wp_alu (show vd_pI 0 290 = some (.i2l, 1, 0, 0, 0, .null) from rfl) rfl
set_option maxRecDepth 8000 in
theorem vd_E0_291 : vd_wp d 0 291 ls (.long w :: .long u :: st) M Q = vd_wp d 0 292 ls (.int (lg_cmp u w) :: st) (M) Q := vd_wp_alu (show vd_pI 0 291 = some (.lcmp, 1, 0, 0, 0, .null) from rfl) rfl
set_option maxRecDepth 8000 in
theorem vd_E0_292 : vd_wp d 0 292 ls (.int x :: st) M Q = if x.toInt = 0 then vd_wp d 0 297 ls st M Q else vd_wp d 0 295 ls st M Q := vd_g_if (show vd_pI 0 292 = some (.ifCond .eq 5, 3, 0, 0, 0, .null) from rfl) rfl vd_c_eq0
set_option maxRecDepth 8000 in
theorem vd_E0_295 : vd_wp d 0 295 ls (st) M Q = vd_wp d 0 296 ls (.int (vd_I 0) :: st) (M) Q := vd_wp_alu (show vd_pI 0 295 = some (.iconst 0, 1, 0, 0, 0, .null) from rfl) rfl
set_option maxRecDepth 8000 in
theorem vd_E0_296 (h : vd_rok (some .boolean) x = true) : vd_wp d 0 296 ls [.int x] M Q = Q M (.inl (some (.int x))) := vd_g_iret (show vd_pI 0 296 = some (.ireturn, 1, 4, 0, 0, .null) from rfl) h
set_option maxRecDepth 8000 in
theorem vd_E0_297 : vd_wp d 0 297 ls (st) M Q = vd_wp d 0 757 ls (st) (M) Q := vd_wp_alu (show vd_pI 0 297 = some (.goto 460, 3, 0, 0, 0, .null) from rfl) rfl
set_option maxRecDepth 8000 in
theorem vd_E0_300 : vd_wp d 0 300 [a0, .ref o, a2, a3, a4, a5, a6] (st) M Q = vd_wp d 0 301 [a0, .ref o, a2, a3, a4, a5, a6] (.ref o :: st) (M) Q := vd_wp_alu (show vd_pI 0 300 = some (.aload_n 1, 1, 0, 0, 0, .null) from rfl) rfl
set_option maxRecDepth 8000 in
theorem vd_E0_300n : vd_wp d 0 300 [a0, .null, a2, a3, a4, a5, a6] (st) M Q = vd_wp d 0 301 [a0, .null, a2, a3, a4, a5, a6] (.null :: st) (M) Q := vd_wp_alu (show vd_pI 0 300 = some (.aload_n 1, 1, 0, 0, 0, .null) from rfl) rfl
set_option maxRecDepth 8000 in
theorem vd_E0_301 : vd_wp d 0 301 [.ref o, a1, a2, a3, a4, a5, a6] (st) M Q = vd_wp d 0 302 [.ref o, a1, a2, a3, a4, a5, a6] (.ref o :: st) (M) Q := vd_wp_alu (show vd_pI 0 301 = some (.aload_n 0, 1, 0, 0, 0, .null) from rfl) rfl
set_option maxRecDepth 8000 in
theorem vd_E0_301n : vd_wp d 0 301 [.null, a1, a2, a3, a4, a5, a6] (st) M Q = vd_wp d 0 302 [.null, a1, a2, a3, a4, a5, a6] (.null :: st) (M) Q := vd_wp_alu (show vd_pI 0 301 = some (.aload_n 0, 1, 0, 0, 0, .null) from rfl) rfl
set_option maxRecDepth 8000 in
theorem vd_E0_302 : vd_wp d 0 302 [a0, a1, a2, a3, .int x, a5, a6] (st) M Q = vd_wp d 0 304 [a0, a1, a2, a3, .int x, a5, a6] (.int x :: st) (M) Q := vd_wp_alu (show vd_pI 0 302 = some (.iload 4, 2, 0, 0, 0, .null) from rfl) rfl
set_option maxRecDepth 8000 in
theorem vd_E0_304 : vd_wp d 0 304 ls (st) M Q = vd_wp d 0 305 ls (.int (vd_I 1) :: st) (M) Q := vd_wp_alu (show vd_pI 0 304 = some (.iconst 1, 1, 0, 0, 0, .null) from rfl) rfl
set_option maxRecDepth 8000 in
theorem vd_E0_305 : vd_wp d 0 305 ls (.int y :: .int x :: st) M Q = vd_wp d 0 306 ls (.int (x + y) :: st) (M) Q := vd_wp_alu (show vd_pI 0 305 = some (.iadd, 1, 0, 0, 0, .null) from rfl) rfl
set_option maxRecDepth 8000 in
theorem vd_E0_306 (h : vd_k M o = 32) (h1 : 0 ≤ z) (h2 : z < (vd_l M o : Int)) (h3 : z < 2147483648) : vd_wp d 0 306 ls (.int (vd_I z) :: .ref o :: st) M Q = vd_wp d 0 307 ls (.int (vd_i M o z.toNat) :: st) (M) Q := vd_g_ial (show vd_pI 0 306 = some (.iaload, 1, 1, 0, 0, .null) from rfl) h h1 h2 h3
set_option maxRecDepth 8000 in
theorem vd_E0_307 : vd_wp d 0 307 [a0, a1, a2, .ref o, a4, a5, a6] (st) M Q = vd_wp d 0 308 [a0, a1, a2, .ref o, a4, a5, a6] (.ref o :: st) (M) Q := vd_wp_alu (show vd_pI 0 307 = some (.aload_n 3, 1, 0, 0, 0, .null) from rfl) rfl
set_option maxRecDepth 8000 in
theorem vd_E0_307n : vd_wp d 0 307 [a0, a1, a2, .null, a4, a5, a6] (st) M Q = vd_wp d 0 308 [a0, a1, a2, .null, a4, a5, a6] (.null :: st) (M) Q := vd_wp_alu (show vd_pI 0 307 = some (.aload_n 3, 1, 0, 0, 0, .null) from rfl) rfl
set_option maxRecDepth 8000 in
theorem vd_E0_308 (hc : vd_cs st ≤ 8) (hw : vd_wp d 150 0 [.ref o0, .int x1, .ref o2, vd_U] [] M (fun M1 r => ∃ v, r = .inl v ∧ vd_wp (d + 1) 0 311 ls (v.toList ++ st) M1 Q)) : vd_wp (d + 1) 0 308 ls (.ref o2 :: .int x1 :: .ref o0 :: st) M Q := vd_g_call (args := [.ref o2, .int x1, .ref o0]) (st' := st) (nL := 4) (na := 3) (rc := 99) (show vd_pI 0 308 = some (.invokestatic 73, 3, 3, 150, 0, .null) from rfl) rfl rfl rfl hc (of_decide_eq_true rfl) rfl hw
set_option maxRecDepth 8000 in
theorem vd_E0_311 (h : vd_long a4 = false) : vd_wp d 0 311 [a0, a1, a2, a3, a4, a5, a6] (.int x :: st) M Q = vd_wp d 0 313 [a0, a1, a2, a3, a4, .int x, a6] (st) (M) Q := vd_g_ist (show vd_pI 0 311 = some (.istore 5, 2, 0, 0, 0, .null) from rfl) (vd_stS rfl h (of_decide_eq_true rfl))
set_option maxRecDepth 8000 in
theorem vd_E0_313 : vd_wp d 0 313 [a0, a1, .ref o, a3, a4, a5, a6] (st) M Q = vd_wp d 0 314 [a0, a1, .ref o, a3, a4, a5, a6] (.ref o :: st) (M) Q := vd_wp_alu (show vd_pI 0 313 = some (.aload_n 2, 1, 0, 0, 0, .null) from rfl) rfl
set_option maxRecDepth 8000 in
theorem vd_E0_313n : vd_wp d 0 313 [a0, a1, .null, a3, a4, a5, a6] (st) M Q = vd_wp d 0 314 [a0, a1, .null, a3, a4, a5, a6] (.null :: st) (M) Q := vd_wp_alu (show vd_pI 0 313 = some (.aload_n 2, 1, 0, 0, 0, .null) from rfl) rfl
set_option maxRecDepth 8000 in
theorem vd_E0_314 : vd_wp d 0 314 [.ref o, a1, a2, a3, a4, a5, a6] (st) M Q = vd_wp d 0 315 [.ref o, a1, a2, a3, a4, a5, a6] (.ref o :: st) (M) Q := vd_wp_alu (show vd_pI 0 314 = some (.aload_n 0, 1, 0, 0, 0, .null) from rfl) rfl
set_option maxRecDepth 8000 in
theorem vd_E0_314n : vd_wp d 0 314 [.null, a1, a2, a3, a4, a5, a6] (st) M Q = vd_wp d 0 315 [.null, a1, a2, a3, a4, a5, a6] (.null :: st) (M) Q := vd_wp_alu (show vd_pI 0 314 = some (.aload_n 0, 1, 0, 0, 0, .null) from rfl) rfl
set_option maxRecDepth 8000 in
theorem vd_E0_315 : vd_wp d 0 315 [a0, a1, a2, a3, .int x, a5, a6] (st) M Q = vd_wp d 0 317 [a0, a1, a2, a3, .int x, a5, a6] (.int x :: st) (M) Q := vd_wp_alu (show vd_pI 0 315 = some (.iload 4, 2, 0, 0, 0, .null) from rfl) rfl
set_option maxRecDepth 8000 in
theorem vd_E0_317 : vd_wp d 0 317 ls (st) M Q = vd_wp d 0 318 ls (.int (vd_I 1) :: st) (M) Q := vd_wp_alu (show vd_pI 0 317 = some (.iconst 1, 1, 0, 0, 0, .null) from rfl) rfl
set_option maxRecDepth 8000 in
theorem vd_E0_318 : vd_wp d 0 318 ls (.int y :: .int x :: st) M Q = vd_wp d 0 319 ls (.int (x + y) :: st) (M) Q := vd_wp_alu (show vd_pI 0 318 = some (.iadd, 1, 0, 0, 0, .null) from rfl) rfl
set_option maxRecDepth 8000 in
theorem vd_E0_319 (h : vd_k M o = 32) (h1 : 0 ≤ z) (h2 : z < (vd_l M o : Int)) (h3 : z < 2147483648) : vd_wp d 0 319 ls (.int (vd_I z) :: .ref o :: st) M Q = vd_wp d 0 320 ls (.int (vd_i M o z.toNat) :: st) (M) Q := vd_g_ial (show vd_pI 0 319 = some (.iaload, 1, 1, 0, 0, .null) from rfl) h h1 h2 h3
set_option maxRecDepth 8000 in
theorem vd_E0_320 (hc : vd_cs st ≤ 8) (h : vd_k M o = 12) (hw : vd_wp d 284 0 [.ref o, .int x0] [] M (fun M1 r => ∃ v, r = .inl v ∧ vd_wp (d + 1) 0 323 ls (v.toList ++ st) M1 Q)) : vd_wp (d + 1) 0 320 ls (.int x0 :: .ref o :: st) M Q := vd_g_call (args := [.int x0, .ref o]) (st' := st) (nL := 2) (na := 2) (rc := 12) (show vd_pI 0 320 = some (.invokevirtual 75, 3, 3, 284, 0, .null) from rfl) rfl rfl rfl hc (of_decide_eq_true rfl) (by simp [h]) hw
set_option maxRecDepth 8000 in
theorem vd_E0_323 (h : vd_long a5 = false) : vd_wp d 0 323 [a0, a1, a2, a3, a4, a5, a6] (.int x :: st) M Q = vd_wp d 0 325 [a0, a1, a2, a3, a4, a5, .int x] (st) (M) Q := vd_g_ist (show vd_pI 0 323 = some (.istore 6, 2, 0, 0, 0, .null) from rfl) (vd_stS rfl h (of_decide_eq_true rfl))
set_option maxRecDepth 8000 in
theorem vd_E0_325 : vd_wp d 0 325 [a0, a1, .ref o, a3, a4, a5, a6] (st) M Q = vd_wp d 0 326 [a0, a1, .ref o, a3, a4, a5, a6] (.ref o :: st) (M) Q := vd_wp_alu (show vd_pI 0 325 = some (.aload_n 2, 1, 0, 0, 0, .null) from rfl) rfl
set_option maxRecDepth 8000 in
theorem vd_E0_325n : vd_wp d 0 325 [a0, a1, .null, a3, a4, a5, a6] (st) M Q = vd_wp d 0 326 [a0, a1, .null, a3, a4, a5, a6] (.null :: st) (M) Q := vd_wp_alu (show vd_pI 0 325 = some (.aload_n 2, 1, 0, 0, 0, .null) from rfl) rfl
set_option maxRecDepth 8000 in
theorem vd_E0_326 (hc : vd_cs st ≤ 8) (h : vd_k M o = 12) (hw : vd_wp d 166 0 [.ref o] [] M (fun M1 r => ∃ v, r = .inl v ∧ vd_wp (d + 1) 0 329 ls (v.toList ++ st) M1 Q)) : vd_wp (d + 1) 0 326 ls (.ref o :: st) M Q := vd_g_call (args := [.ref o]) (st' := st) (nL := 1) (na := 1) (rc := 12) (show vd_pI 0 326 = some (.invokevirtual 62, 3, 3, 166, 0, .null) from rfl) rfl rfl rfl hc (of_decide_eq_true rfl) (by simp [h]) hw
set_option maxRecDepth 8000 in
theorem vd_E0_329 : vd_wp d 0 329 [a0, a1, a2, a3, a4, .int x, a6] (st) M Q = vd_wp d 0 331 [a0, a1, a2, a3, a4, .int x, a6] (.int x :: st) (M) Q := vd_wp_alu (show vd_pI 0 329 = some (.iload 5, 2, 0, 0, 0, .null) from rfl) rfl
set_option maxRecDepth 8000 in
theorem vd_E0_331 : vd_wp d 0 331 ls (.int y :: .int x :: st) M Q = if x.toInt = y.toInt then vd_wp d 0 336 ls st M Q else vd_wp d 0 334 ls st M Q := vd_g_if (show vd_pI 0 331 = some (.if_icmp .eq 5, 3, 0, 0, 0, .null) from rfl) rfl vd_c_eq
set_option maxRecDepth 8000 in
theorem vd_E0_334 : vd_wp d 0 334 ls (st) M Q = vd_wp d 0 335 ls (.int (vd_I 0) :: st) (M) Q := vd_wp_alu (show vd_pI 0 334 = some (.iconst 0, 1, 0, 0, 0, .null) from rfl) rfl
set_option maxRecDepth 8000 in
theorem vd_E0_335 (h : vd_rok (some .boolean) x = true) : vd_wp d 0 335 ls [.int x] M Q = Q M (.inl (some (.int x))) := vd_g_iret (show vd_pI 0 335 = some (.ireturn, 1, 4, 0, 0, .null) from rfl) h
set_option maxRecDepth 8000 in
theorem vd_E0_336 : vd_wp d 0 336 [a0, a1, a2, a3, a4, .int x, a6] (st) M Q = vd_wp d 0 338 [a0, a1, a2, a3, a4, .int x, a6] (.int x :: st) (M) Q := vd_wp_alu (show vd_pI 0 336 = some (.iload 5, 2, 0, 0, 0, .null) from rfl) rfl
set_option maxRecDepth 8000 in
theorem vd_E0_338 : vd_wp d 0 338 ls (.int x :: st) M Q = if x.toInt = 0 then vd_wp d 0 341 ls st M Q else vd_wp d 0 353 ls st M Q := vd_g_ifn (show vd_pI 0 338 = some (.ifCond .ne 15, 3, 0, 0, 0, .null) from rfl) rfl vd_c_ne0
set_option maxRecDepth 8000 in
theorem vd_E0_341 : vd_wp d 0 341 [a0, a1, a2, .ref o, a4, a5, a6] (st) M Q = vd_wp d 0 342 [a0, a1, a2, .ref o, a4, a5, a6] (.ref o :: st) (M) Q := vd_wp_alu (show vd_pI 0 341 = some (.aload_n 3, 1, 0, 0, 0, .null) from rfl) rfl
set_option maxRecDepth 8000 in
theorem vd_E0_341n : vd_wp d 0 341 [a0, a1, a2, .null, a4, a5, a6] (st) M Q = vd_wp d 0 342 [a0, a1, a2, .null, a4, a5, a6] (.null :: st) (M) Q := vd_wp_alu (show vd_pI 0 341 = some (.aload_n 3, 1, 0, 0, 0, .null) from rfl) rfl
set_option maxRecDepth 8000 in
theorem vd_E0_342 : vd_wp d 0 342 ls (st) M Q = vd_wp d 0 343 ls (.int (vd_I 0) :: st) (M) Q := vd_wp_alu (show vd_pI 0 342 = some (.iconst 0, 1, 0, 0, 0, .null) from rfl) rfl
set_option maxRecDepth 8000 in
theorem vd_E0_343 (h : vd_k M o = 35) (h1 : 0 ≤ z) (h2 : z < (vd_l M o : Int)) (h3 : z < 2147483648) : vd_wp d 0 343 ls (.int (vd_I z) :: .ref o :: st) M Q = vd_wp d 0 344 ls (.long (vd_j M o z.toNat) :: st) (M) Q := vd_g_lal (show vd_pI 0 343 = some (.laload, 1, 1, 0, 0, .null) from rfl) h h1 h2 h3
set_option maxRecDepth 8000 in
theorem vd_E0_344 : vd_wp d 0 344 [a0, a1, a2, a3, a4, a5, .int x] (st) M Q = vd_wp d 0 346 [a0, a1, a2, a3, a4, a5, .int x] (.int x :: st) (M) Q := vd_wp_alu (show vd_pI 0 344 = some (.iload 6, 2, 0, 0, 0, .null) from rfl) rfl
set_option maxRecDepth 8000 in
theorem vd_E0_346 : vd_wp d 0 346 ls (.int x :: st) M Q = vd_wp d 0 347 ls (.long x.toInt64 :: st) (M) Q := vd_wp_alu (show vd_pI 0 346 = some (.i2l, 1, 0, 0, 0, .null) from rfl) rfl
set_option maxRecDepth 8000 in
theorem vd_E0_347 : vd_wp d 0 347 ls (.long w :: .long u :: st) M Q = vd_wp d 0 348 ls (.int (lg_cmp u w) :: st) (M) Q := vd_wp_alu (show vd_pI 0 347 = some (.lcmp, 1, 0, 0, 0, .null) from rfl) rfl
set_option maxRecDepth 8000 in
theorem vd_E0_348 : vd_wp d 0 348 ls (.int x :: st) M Q = if x.toInt = 0 then vd_wp d 0 353 ls st M Q else vd_wp d 0 351 ls st M Q := vd_g_if (show vd_pI 0 348 = some (.ifCond .eq 5, 3, 0, 0, 0, .null) from rfl) rfl vd_c_eq0
set_option maxRecDepth 8000 in
theorem vd_E0_351 : vd_wp d 0 351 ls (st) M Q = vd_wp d 0 352 ls (.int (vd_I 0) :: st) (M) Q := vd_wp_alu (show vd_pI 0 351 = some (.iconst 0, 1, 0, 0, 0, .null) from rfl) rfl
set_option maxRecDepth 8000 in
theorem vd_E0_352 (h : vd_rok (some .boolean) x = true) : vd_wp d 0 352 ls [.int x] M Q = Q M (.inl (some (.int x))) := vd_g_iret (show vd_pI 0 352 = some (.ireturn, 1, 4, 0, 0, .null) from rfl) h
set_option maxRecDepth 8000 in
theorem vd_E0_353 : vd_wp d 0 353 ls (st) M Q = vd_wp d 0 757 ls (st) (M) Q := vd_wp_alu (show vd_pI 0 353 = some (.goto 404, 3, 0, 0, 0, .null) from rfl) rfl
set_option maxRecDepth 8000 in
theorem vd_E0_356 : vd_wp d 0 356 [a0, .ref o, a2, a3, a4, a5, a6] (st) M Q = vd_wp d 0 357 [a0, .ref o, a2, a3, a4, a5, a6] (.ref o :: st) (M) Q := vd_wp_alu (show vd_pI 0 356 = some (.aload_n 1, 1, 0, 0, 0, .null) from rfl) rfl
set_option maxRecDepth 8000 in
theorem vd_E0_356n : vd_wp d 0 356 [a0, .null, a2, a3, a4, a5, a6] (st) M Q = vd_wp d 0 357 [a0, .null, a2, a3, a4, a5, a6] (.null :: st) (M) Q := vd_wp_alu (show vd_pI 0 356 = some (.aload_n 1, 1, 0, 0, 0, .null) from rfl) rfl
set_option maxRecDepth 8000 in
theorem vd_E0_357 : vd_wp d 0 357 [.ref o, a1, a2, a3, a4, a5, a6] (st) M Q = vd_wp d 0 358 [.ref o, a1, a2, a3, a4, a5, a6] (.ref o :: st) (M) Q := vd_wp_alu (show vd_pI 0 357 = some (.aload_n 0, 1, 0, 0, 0, .null) from rfl) rfl
set_option maxRecDepth 8000 in
theorem vd_E0_357n : vd_wp d 0 357 [.null, a1, a2, a3, a4, a5, a6] (st) M Q = vd_wp d 0 358 [.null, a1, a2, a3, a4, a5, a6] (.null :: st) (M) Q := vd_wp_alu (show vd_pI 0 357 = some (.aload_n 0, 1, 0, 0, 0, .null) from rfl) rfl
set_option maxRecDepth 8000 in
theorem vd_E0_358 : vd_wp d 0 358 [a0, a1, a2, a3, .int x, a5, a6] (st) M Q = vd_wp d 0 360 [a0, a1, a2, a3, .int x, a5, a6] (.int x :: st) (M) Q := vd_wp_alu (show vd_pI 0 358 = some (.iload 4, 2, 0, 0, 0, .null) from rfl) rfl
set_option maxRecDepth 8000 in
theorem vd_E0_360 : vd_wp d 0 360 ls (st) M Q = vd_wp d 0 361 ls (.int (vd_I 1) :: st) (M) Q := vd_wp_alu (show vd_pI 0 360 = some (.iconst 1, 1, 0, 0, 0, .null) from rfl) rfl
set_option maxRecDepth 8000 in
theorem vd_E0_361 : vd_wp d 0 361 ls (.int y :: .int x :: st) M Q = vd_wp d 0 362 ls (.int (x + y) :: st) (M) Q := vd_wp_alu (show vd_pI 0 361 = some (.iadd, 1, 0, 0, 0, .null) from rfl) rfl
set_option maxRecDepth 8000 in
theorem vd_E0_362 (h : vd_k M o = 32) (h1 : 0 ≤ z) (h2 : z < (vd_l M o : Int)) (h3 : z < 2147483648) : vd_wp d 0 362 ls (.int (vd_I z) :: .ref o :: st) M Q = vd_wp d 0 363 ls (.int (vd_i M o z.toNat) :: st) (M) Q := vd_g_ial (show vd_pI 0 362 = some (.iaload, 1, 1, 0, 0, .null) from rfl) h h1 h2 h3
set_option maxRecDepth 8000 in
theorem vd_E0_363 : vd_wp d 0 363 [.ref o, a1, a2, a3, a4, a5, a6] (st) M Q = vd_wp d 0 364 [.ref o, a1, a2, a3, a4, a5, a6] (.ref o :: st) (M) Q := vd_wp_alu (show vd_pI 0 363 = some (.aload_n 0, 1, 0, 0, 0, .null) from rfl) rfl
set_option maxRecDepth 8000 in
theorem vd_E0_363n : vd_wp d 0 363 [.null, a1, a2, a3, a4, a5, a6] (st) M Q = vd_wp d 0 364 [.null, a1, a2, a3, a4, a5, a6] (.null :: st) (M) Q := vd_wp_alu (show vd_pI 0 363 = some (.aload_n 0, 1, 0, 0, 0, .null) from rfl) rfl
set_option maxRecDepth 8000 in
theorem vd_E0_364 : vd_wp d 0 364 [a0, a1, a2, a3, .int x, a5, a6] (st) M Q = vd_wp d 0 366 [a0, a1, a2, a3, .int x, a5, a6] (.int x :: st) (M) Q := vd_wp_alu (show vd_pI 0 364 = some (.iload 4, 2, 0, 0, 0, .null) from rfl) rfl
set_option maxRecDepth 8000 in
theorem vd_E0_366 : vd_wp d 0 366 ls (st) M Q = vd_wp d 0 367 ls (.int (vd_I 2) :: st) (M) Q := vd_wp_alu (show vd_pI 0 366 = some (.iconst 2, 1, 0, 0, 0, .null) from rfl) rfl
set_option maxRecDepth 8000 in
theorem vd_E0_367 : vd_wp d 0 367 ls (.int y :: .int x :: st) M Q = vd_wp d 0 368 ls (.int (x + y) :: st) (M) Q := vd_wp_alu (show vd_pI 0 367 = some (.iadd, 1, 0, 0, 0, .null) from rfl) rfl
set_option maxRecDepth 8000 in
theorem vd_E0_368 (h : vd_k M o = 32) (h1 : 0 ≤ z) (h2 : z < (vd_l M o : Int)) (h3 : z < 2147483648) : vd_wp d 0 368 ls (.int (vd_I z) :: .ref o :: st) M Q = vd_wp d 0 369 ls (.int (vd_i M o z.toNat) :: st) (M) Q := vd_g_ial (show vd_pI 0 368 = some (.iaload, 1, 1, 0, 0, .null) from rfl) h h1 h2 h3
set_option maxRecDepth 8000 in
theorem vd_E0_369 : vd_wp d 0 369 [.ref o, a1, a2, a3, a4, a5, a6] (st) M Q = vd_wp d 0 370 [.ref o, a1, a2, a3, a4, a5, a6] (.ref o :: st) (M) Q := vd_wp_alu (show vd_pI 0 369 = some (.aload_n 0, 1, 0, 0, 0, .null) from rfl) rfl
set_option maxRecDepth 8000 in
theorem vd_E0_369n : vd_wp d 0 369 [.null, a1, a2, a3, a4, a5, a6] (st) M Q = vd_wp d 0 370 [.null, a1, a2, a3, a4, a5, a6] (.null :: st) (M) Q := vd_wp_alu (show vd_pI 0 369 = some (.aload_n 0, 1, 0, 0, 0, .null) from rfl) rfl
set_option maxRecDepth 8000 in
theorem vd_E0_370 : vd_wp d 0 370 [a0, a1, a2, a3, .int x, a5, a6] (st) M Q = vd_wp d 0 372 [a0, a1, a2, a3, .int x, a5, a6] (.int x :: st) (M) Q := vd_wp_alu (show vd_pI 0 370 = some (.iload 4, 2, 0, 0, 0, .null) from rfl) rfl
set_option maxRecDepth 8000 in
theorem vd_E0_372 : vd_wp d 0 372 ls (st) M Q = vd_wp d 0 373 ls (.int (vd_I 3) :: st) (M) Q := vd_wp_alu (show vd_pI 0 372 = some (.iconst 3, 1, 0, 0, 0, .null) from rfl) rfl
set_option maxRecDepth 8000 in
theorem vd_E0_373 : vd_wp d 0 373 ls (.int y :: .int x :: st) M Q = vd_wp d 0 374 ls (.int (x + y) :: st) (M) Q := vd_wp_alu (show vd_pI 0 373 = some (.iadd, 1, 0, 0, 0, .null) from rfl) rfl
set_option maxRecDepth 8000 in
theorem vd_E0_374 (h : vd_k M o = 32) (h1 : 0 ≤ z) (h2 : z < (vd_l M o : Int)) (h3 : z < 2147483648) : vd_wp d 0 374 ls (.int (vd_I z) :: .ref o :: st) M Q = vd_wp d 0 375 ls (.int (vd_i M o z.toNat) :: st) (M) Q := vd_g_ial (show vd_pI 0 374 = some (.iaload, 1, 1, 0, 0, .null) from rfl) h h1 h2 h3
set_option maxRecDepth 8000 in
theorem vd_E0_375 : vd_wp d 0 375 [.ref o, a1, a2, a3, a4, a5, a6] (st) M Q = vd_wp d 0 376 [.ref o, a1, a2, a3, a4, a5, a6] (.ref o :: st) (M) Q := vd_wp_alu (show vd_pI 0 375 = some (.aload_n 0, 1, 0, 0, 0, .null) from rfl) rfl
set_option maxRecDepth 8000 in
theorem vd_E0_375n : vd_wp d 0 375 [.null, a1, a2, a3, a4, a5, a6] (st) M Q = vd_wp d 0 376 [.null, a1, a2, a3, a4, a5, a6] (.null :: st) (M) Q := vd_wp_alu (show vd_pI 0 375 = some (.aload_n 0, 1, 0, 0, 0, .null) from rfl) rfl
set_option maxRecDepth 8000 in
theorem vd_E0_376 : vd_wp d 0 376 [a0, a1, a2, a3, .int x, a5, a6] (st) M Q = vd_wp d 0 378 [a0, a1, a2, a3, .int x, a5, a6] (.int x :: st) (M) Q := vd_wp_alu (show vd_pI 0 376 = some (.iload 4, 2, 0, 0, 0, .null) from rfl) rfl
set_option maxRecDepth 8000 in
theorem vd_E0_378 : vd_wp d 0 378 ls (st) M Q = vd_wp d 0 379 ls (.int (vd_I 4) :: st) (M) Q := vd_wp_alu (show vd_pI 0 378 = some (.iconst 4, 1, 0, 0, 0, .null) from rfl) rfl
set_option maxRecDepth 8000 in
theorem vd_E0_379 : vd_wp d 0 379 ls (.int y :: .int x :: st) M Q = vd_wp d 0 380 ls (.int (x + y) :: st) (M) Q := vd_wp_alu (show vd_pI 0 379 = some (.iadd, 1, 0, 0, 0, .null) from rfl) rfl
set_option maxRecDepth 8000 in
theorem vd_E0_380 (h : vd_k M o = 32) (h1 : 0 ≤ z) (h2 : z < (vd_l M o : Int)) (h3 : z < 2147483648) : vd_wp d 0 380 ls (.int (vd_I z) :: .ref o :: st) M Q = vd_wp d 0 381 ls (.int (vd_i M o z.toNat) :: st) (M) Q := vd_g_ial (show vd_pI 0 380 = some (.iaload, 1, 1, 0, 0, .null) from rfl) h h1 h2 h3
set_option maxRecDepth 8000 in
theorem vd_E0_381 : vd_wp d 0 381 [a0, a1, a2, .ref o, a4, a5, a6] (st) M Q = vd_wp d 0 382 [a0, a1, a2, .ref o, a4, a5, a6] (.ref o :: st) (M) Q := vd_wp_alu (show vd_pI 0 381 = some (.aload_n 3, 1, 0, 0, 0, .null) from rfl) rfl
set_option maxRecDepth 8000 in
theorem vd_E0_381n : vd_wp d 0 381 [a0, a1, a2, .null, a4, a5, a6] (st) M Q = vd_wp d 0 382 [a0, a1, a2, .null, a4, a5, a6] (.null :: st) (M) Q := vd_wp_alu (show vd_pI 0 381 = some (.aload_n 3, 1, 0, 0, 0, .null) from rfl) rfl
set_option maxRecDepth 8000 in
theorem vd_E0_382 (hc : vd_cs st ≤ 8) (hw : vd_wp d 152 0 [.ref o0, .int x1, .int x2, .int x3, .int x4, .ref o5, vd_U] [] M (fun M1 r => ∃ v, r = .inl v ∧ vd_wp (d + 1) 0 385 ls (v.toList ++ st) M1 Q)) : vd_wp (d + 1) 0 382 ls (.ref o5 :: .int x4 :: .int x3 :: .int x2 :: .int x1 :: .ref o0 :: st) M Q := vd_g_call (args := [.ref o5, .int x4, .int x3, .int x2, .int x1, .ref o0]) (st' := st) (nL := 7) (na := 6) (rc := 99) (show vd_pI 0 382 = some (.invokestatic 76, 3, 3, 152, 0, .null) from rfl) rfl rfl rfl hc (of_decide_eq_true rfl) rfl hw
set_option maxRecDepth 8000 in
theorem vd_E0_385 (h : vd_long a4 = false) : vd_wp d 0 385 [a0, a1, a2, a3, a4, a5, a6] (.int x :: st) M Q = vd_wp d 0 387 [a0, a1, a2, a3, a4, .int x, a6] (st) (M) Q := vd_g_ist (show vd_pI 0 385 = some (.istore 5, 2, 0, 0, 0, .null) from rfl) (vd_stS rfl h (of_decide_eq_true rfl))
set_option maxRecDepth 8000 in
theorem vd_E0_387 : vd_wp d 0 387 [a0, a1, .ref o, a3, a4, a5, a6] (st) M Q = vd_wp d 0 388 [a0, a1, .ref o, a3, a4, a5, a6] (.ref o :: st) (M) Q := vd_wp_alu (show vd_pI 0 387 = some (.aload_n 2, 1, 0, 0, 0, .null) from rfl) rfl
set_option maxRecDepth 8000 in
theorem vd_E0_387n : vd_wp d 0 387 [a0, a1, .null, a3, a4, a5, a6] (st) M Q = vd_wp d 0 388 [a0, a1, .null, a3, a4, a5, a6] (.null :: st) (M) Q := vd_wp_alu (show vd_pI 0 387 = some (.aload_n 2, 1, 0, 0, 0, .null) from rfl) rfl
set_option maxRecDepth 8000 in
theorem vd_E0_388 : vd_wp d 0 388 [.ref o, a1, a2, a3, a4, a5, a6] (st) M Q = vd_wp d 0 389 [.ref o, a1, a2, a3, a4, a5, a6] (.ref o :: st) (M) Q := vd_wp_alu (show vd_pI 0 388 = some (.aload_n 0, 1, 0, 0, 0, .null) from rfl) rfl
set_option maxRecDepth 8000 in
theorem vd_E0_388n : vd_wp d 0 388 [.null, a1, a2, a3, a4, a5, a6] (st) M Q = vd_wp d 0 389 [.null, a1, a2, a3, a4, a5, a6] (.null :: st) (M) Q := vd_wp_alu (show vd_pI 0 388 = some (.aload_n 0, 1, 0, 0, 0, .null) from rfl) rfl
set_option maxRecDepth 8000 in
theorem vd_E0_389 : vd_wp d 0 389 [a0, a1, a2, a3, .int x, a5, a6] (st) M Q = vd_wp d 0 391 [a0, a1, a2, a3, .int x, a5, a6] (.int x :: st) (M) Q := vd_wp_alu (show vd_pI 0 389 = some (.iload 4, 2, 0, 0, 0, .null) from rfl) rfl
set_option maxRecDepth 8000 in
theorem vd_E0_391 : vd_wp d 0 391 ls (st) M Q = vd_wp d 0 392 ls (.int (vd_I 1) :: st) (M) Q := vd_wp_alu (show vd_pI 0 391 = some (.iconst 1, 1, 0, 0, 0, .null) from rfl) rfl
set_option maxRecDepth 8000 in
theorem vd_E0_392 : vd_wp d 0 392 ls (.int y :: .int x :: st) M Q = vd_wp d 0 393 ls (.int (x + y) :: st) (M) Q := vd_wp_alu (show vd_pI 0 392 = some (.iadd, 1, 0, 0, 0, .null) from rfl) rfl
set_option maxRecDepth 8000 in
theorem vd_E0_393 (h : vd_k M o = 32) (h1 : 0 ≤ z) (h2 : z < (vd_l M o : Int)) (h3 : z < 2147483648) : vd_wp d 0 393 ls (.int (vd_I z) :: .ref o :: st) M Q = vd_wp d 0 394 ls (.int (vd_i M o z.toNat) :: st) (M) Q := vd_g_ial (show vd_pI 0 393 = some (.iaload, 1, 1, 0, 0, .null) from rfl) h h1 h2 h3
set_option maxRecDepth 8000 in
theorem vd_E0_394 : vd_wp d 0 394 [.ref o, a1, a2, a3, a4, a5, a6] (st) M Q = vd_wp d 0 395 [.ref o, a1, a2, a3, a4, a5, a6] (.ref o :: st) (M) Q := vd_wp_alu (show vd_pI 0 394 = some (.aload_n 0, 1, 0, 0, 0, .null) from rfl) rfl
set_option maxRecDepth 8000 in
theorem vd_E0_394n : vd_wp d 0 394 [.null, a1, a2, a3, a4, a5, a6] (st) M Q = vd_wp d 0 395 [.null, a1, a2, a3, a4, a5, a6] (.null :: st) (M) Q := vd_wp_alu (show vd_pI 0 394 = some (.aload_n 0, 1, 0, 0, 0, .null) from rfl) rfl
set_option maxRecDepth 8000 in
theorem vd_E0_395 : vd_wp d 0 395 [a0, a1, a2, a3, .int x, a5, a6] (st) M Q = vd_wp d 0 397 [a0, a1, a2, a3, .int x, a5, a6] (.int x :: st) (M) Q := vd_wp_alu (show vd_pI 0 395 = some (.iload 4, 2, 0, 0, 0, .null) from rfl) rfl
set_option maxRecDepth 8000 in
theorem vd_E0_397 : vd_wp d 0 397 ls (st) M Q = vd_wp d 0 398 ls (.int (vd_I 2) :: st) (M) Q := vd_wp_alu (show vd_pI 0 397 = some (.iconst 2, 1, 0, 0, 0, .null) from rfl) rfl
set_option maxRecDepth 8000 in
theorem vd_E0_398 : vd_wp d 0 398 ls (.int y :: .int x :: st) M Q = vd_wp d 0 399 ls (.int (x + y) :: st) (M) Q := vd_wp_alu (show vd_pI 0 398 = some (.iadd, 1, 0, 0, 0, .null) from rfl) rfl
set_option maxRecDepth 8000 in
theorem vd_E0_399 (h : vd_k M o = 32) (h1 : 0 ≤ z) (h2 : z < (vd_l M o : Int)) (h3 : z < 2147483648) : vd_wp d 0 399 ls (.int (vd_I z) :: .ref o :: st) M Q = vd_wp d 0 400 ls (.int (vd_i M o z.toNat) :: st) (M) Q := vd_g_ial (show vd_pI 0 399 = some (.iaload, 1, 1, 0, 0, .null) from rfl) h h1 h2 h3
set_option maxRecDepth 8000 in
theorem vd_E0_400 : vd_wp d 0 400 [.ref o, a1, a2, a3, a4, a5, a6] (st) M Q = vd_wp d 0 401 [.ref o, a1, a2, a3, a4, a5, a6] (.ref o :: st) (M) Q := vd_wp_alu (show vd_pI 0 400 = some (.aload_n 0, 1, 0, 0, 0, .null) from rfl) rfl
set_option maxRecDepth 8000 in
theorem vd_E0_400n : vd_wp d 0 400 [.null, a1, a2, a3, a4, a5, a6] (st) M Q = vd_wp d 0 401 [.null, a1, a2, a3, a4, a5, a6] (.null :: st) (M) Q := vd_wp_alu (show vd_pI 0 400 = some (.aload_n 0, 1, 0, 0, 0, .null) from rfl) rfl
set_option maxRecDepth 8000 in
theorem vd_E0_401 : vd_wp d 0 401 [a0, a1, a2, a3, .int x, a5, a6] (st) M Q = vd_wp d 0 403 [a0, a1, a2, a3, .int x, a5, a6] (.int x :: st) (M) Q := vd_wp_alu (show vd_pI 0 401 = some (.iload 4, 2, 0, 0, 0, .null) from rfl) rfl
set_option maxRecDepth 8000 in
theorem vd_E0_403 : vd_wp d 0 403 ls (st) M Q = vd_wp d 0 404 ls (.int (vd_I 3) :: st) (M) Q := vd_wp_alu (show vd_pI 0 403 = some (.iconst 3, 1, 0, 0, 0, .null) from rfl) rfl
set_option maxRecDepth 8000 in
theorem vd_E0_404 : vd_wp d 0 404 ls (.int y :: .int x :: st) M Q = vd_wp d 0 405 ls (.int (x + y) :: st) (M) Q := vd_wp_alu (show vd_pI 0 404 = some (.iadd, 1, 0, 0, 0, .null) from rfl) rfl
set_option maxRecDepth 8000 in
theorem vd_E0_405 (h : vd_k M o = 32) (h1 : 0 ≤ z) (h2 : z < (vd_l M o : Int)) (h3 : z < 2147483648) : vd_wp d 0 405 ls (.int (vd_I z) :: .ref o :: st) M Q = vd_wp d 0 406 ls (.int (vd_i M o z.toNat) :: st) (M) Q := vd_g_ial (show vd_pI 0 405 = some (.iaload, 1, 1, 0, 0, .null) from rfl) h h1 h2 h3
set_option maxRecDepth 8000 in
theorem vd_E0_406 : vd_wp d 0 406 [.ref o, a1, a2, a3, a4, a5, a6] (st) M Q = vd_wp d 0 407 [.ref o, a1, a2, a3, a4, a5, a6] (.ref o :: st) (M) Q := vd_wp_alu (show vd_pI 0 406 = some (.aload_n 0, 1, 0, 0, 0, .null) from rfl) rfl
set_option maxRecDepth 8000 in
theorem vd_E0_406n : vd_wp d 0 406 [.null, a1, a2, a3, a4, a5, a6] (st) M Q = vd_wp d 0 407 [.null, a1, a2, a3, a4, a5, a6] (.null :: st) (M) Q := vd_wp_alu (show vd_pI 0 406 = some (.aload_n 0, 1, 0, 0, 0, .null) from rfl) rfl
set_option maxRecDepth 8000 in
theorem vd_E0_407 : vd_wp d 0 407 [a0, a1, a2, a3, .int x, a5, a6] (st) M Q = vd_wp d 0 409 [a0, a1, a2, a3, .int x, a5, a6] (.int x :: st) (M) Q := vd_wp_alu (show vd_pI 0 407 = some (.iload 4, 2, 0, 0, 0, .null) from rfl) rfl
set_option maxRecDepth 8000 in
theorem vd_E0_409 : vd_wp d 0 409 ls (st) M Q = vd_wp d 0 410 ls (.int (vd_I 4) :: st) (M) Q := vd_wp_alu (show vd_pI 0 409 = some (.iconst 4, 1, 0, 0, 0, .null) from rfl) rfl
set_option maxRecDepth 8000 in
theorem vd_E0_410 : vd_wp d 0 410 ls (.int y :: .int x :: st) M Q = vd_wp d 0 411 ls (.int (x + y) :: st) (M) Q := vd_wp_alu (show vd_pI 0 410 = some (.iadd, 1, 0, 0, 0, .null) from rfl) rfl
set_option maxRecDepth 8000 in
theorem vd_E0_411 (h : vd_k M o = 32) (h1 : 0 ≤ z) (h2 : z < (vd_l M o : Int)) (h3 : z < 2147483648) : vd_wp d 0 411 ls (.int (vd_I z) :: .ref o :: st) M Q = vd_wp d 0 412 ls (.int (vd_i M o z.toNat) :: st) (M) Q := vd_g_ial (show vd_pI 0 411 = some (.iaload, 1, 1, 0, 0, .null) from rfl) h h1 h2 h3
set_option maxRecDepth 8000 in
theorem vd_E0_412 (hc : vd_cs st ≤ 8) (h : vd_k M o = 12) (hw : vd_wp d 278 0 [.ref o, .int x0, .int x1, .int x2, .int x3, vd_U] [] M (fun M1 r => ∃ v, r = .inl v ∧ vd_wp (d + 1) 0 415 ls (v.toList ++ st) M1 Q)) : vd_wp (d + 1) 0 412 ls (.int x3 :: .int x2 :: .int x1 :: .int x0 :: .ref o :: st) M Q := vd_g_call (args := [.int x3, .int x2, .int x1, .int x0, .ref o]) (st' := st) (nL := 6) (na := 5) (rc := 12) (show vd_pI 0 412 = some (.invokevirtual 79, 3, 3, 278, 0, .null) from rfl) rfl rfl rfl hc (of_decide_eq_true rfl) (by simp [h]) hw
set_option maxRecDepth 8000 in
theorem vd_E0_415 (h : vd_long a5 = false) : vd_wp d 0 415 [a0, a1, a2, a3, a4, a5, a6] (.int x :: st) M Q = vd_wp d 0 417 [a0, a1, a2, a3, a4, a5, .int x] (st) (M) Q := vd_g_ist (show vd_pI 0 415 = some (.istore 6, 2, 0, 0, 0, .null) from rfl) (vd_stS rfl h (of_decide_eq_true rfl))
set_option maxRecDepth 8000 in
theorem vd_E0_417 : vd_wp d 0 417 [a0, a1, .ref o, a3, a4, a5, a6] (st) M Q = vd_wp d 0 418 [a0, a1, .ref o, a3, a4, a5, a6] (.ref o :: st) (M) Q := vd_wp_alu (show vd_pI 0 417 = some (.aload_n 2, 1, 0, 0, 0, .null) from rfl) rfl
set_option maxRecDepth 8000 in
theorem vd_E0_417n : vd_wp d 0 417 [a0, a1, .null, a3, a4, a5, a6] (st) M Q = vd_wp d 0 418 [a0, a1, .null, a3, a4, a5, a6] (.null :: st) (M) Q := vd_wp_alu (show vd_pI 0 417 = some (.aload_n 2, 1, 0, 0, 0, .null) from rfl) rfl
set_option maxRecDepth 8000 in
theorem vd_E0_418 (hc : vd_cs st ≤ 8) (h : vd_k M o = 12) (hw : vd_wp d 166 0 [.ref o] [] M (fun M1 r => ∃ v, r = .inl v ∧ vd_wp (d + 1) 0 421 ls (v.toList ++ st) M1 Q)) : vd_wp (d + 1) 0 418 ls (.ref o :: st) M Q := vd_g_call (args := [.ref o]) (st' := st) (nL := 1) (na := 1) (rc := 12) (show vd_pI 0 418 = some (.invokevirtual 62, 3, 3, 166, 0, .null) from rfl) rfl rfl rfl hc (of_decide_eq_true rfl) (by simp [h]) hw
set_option maxRecDepth 8000 in
theorem vd_E0_421 : vd_wp d 0 421 [a0, a1, a2, a3, a4, .int x, a6] (st) M Q = vd_wp d 0 423 [a0, a1, a2, a3, a4, .int x, a6] (.int x :: st) (M) Q := vd_wp_alu (show vd_pI 0 421 = some (.iload 5, 2, 0, 0, 0, .null) from rfl) rfl
set_option maxRecDepth 8000 in
theorem vd_E0_423 : vd_wp d 0 423 ls (.int y :: .int x :: st) M Q = if x.toInt = y.toInt then vd_wp d 0 428 ls st M Q else vd_wp d 0 426 ls st M Q := vd_g_if (show vd_pI 0 423 = some (.if_icmp .eq 5, 3, 0, 0, 0, .null) from rfl) rfl vd_c_eq
set_option maxRecDepth 8000 in
theorem vd_E0_426 : vd_wp d 0 426 ls (st) M Q = vd_wp d 0 427 ls (.int (vd_I 0) :: st) (M) Q := vd_wp_alu (show vd_pI 0 426 = some (.iconst 0, 1, 0, 0, 0, .null) from rfl) rfl
set_option maxRecDepth 8000 in
theorem vd_E0_427 (h : vd_rok (some .boolean) x = true) : vd_wp d 0 427 ls [.int x] M Q = Q M (.inl (some (.int x))) := vd_g_iret (show vd_pI 0 427 = some (.ireturn, 1, 4, 0, 0, .null) from rfl) h
set_option maxRecDepth 8000 in
theorem vd_E0_428 : vd_wp d 0 428 [a0, a1, a2, a3, a4, .int x, a6] (st) M Q = vd_wp d 0 430 [a0, a1, a2, a3, a4, .int x, a6] (.int x :: st) (M) Q := vd_wp_alu (show vd_pI 0 428 = some (.iload 5, 2, 0, 0, 0, .null) from rfl) rfl
set_option maxRecDepth 8000 in
theorem vd_E0_430 : vd_wp d 0 430 ls (.int x :: st) M Q = if x.toInt = 0 then vd_wp d 0 433 ls st M Q else vd_wp d 0 445 ls st M Q := vd_g_ifn (show vd_pI 0 430 = some (.ifCond .ne 15, 3, 0, 0, 0, .null) from rfl) rfl vd_c_ne0
set_option maxRecDepth 8000 in
theorem vd_E0_433 : vd_wp d 0 433 [a0, a1, a2, .ref o, a4, a5, a6] (st) M Q = vd_wp d 0 434 [a0, a1, a2, .ref o, a4, a5, a6] (.ref o :: st) (M) Q := vd_wp_alu (show vd_pI 0 433 = some (.aload_n 3, 1, 0, 0, 0, .null) from rfl) rfl
set_option maxRecDepth 8000 in
theorem vd_E0_433n : vd_wp d 0 433 [a0, a1, a2, .null, a4, a5, a6] (st) M Q = vd_wp d 0 434 [a0, a1, a2, .null, a4, a5, a6] (.null :: st) (M) Q := vd_wp_alu (show vd_pI 0 433 = some (.aload_n 3, 1, 0, 0, 0, .null) from rfl) rfl
set_option maxRecDepth 8000 in
theorem vd_E0_434 : vd_wp d 0 434 ls (st) M Q = vd_wp d 0 435 ls (.int (vd_I 0) :: st) (M) Q := vd_wp_alu (show vd_pI 0 434 = some (.iconst 0, 1, 0, 0, 0, .null) from rfl) rfl
set_option maxRecDepth 8000 in
theorem vd_E0_435 (h : vd_k M o = 35) (h1 : 0 ≤ z) (h2 : z < (vd_l M o : Int)) (h3 : z < 2147483648) : vd_wp d 0 435 ls (.int (vd_I z) :: .ref o :: st) M Q = vd_wp d 0 436 ls (.long (vd_j M o z.toNat) :: st) (M) Q := vd_g_lal (show vd_pI 0 435 = some (.laload, 1, 1, 0, 0, .null) from rfl) h h1 h2 h3
set_option maxRecDepth 8000 in
theorem vd_E0_436 : vd_wp d 0 436 [a0, a1, a2, a3, a4, a5, .int x] (st) M Q = vd_wp d 0 438 [a0, a1, a2, a3, a4, a5, .int x] (.int x :: st) (M) Q := vd_wp_alu (show vd_pI 0 436 = some (.iload 6, 2, 0, 0, 0, .null) from rfl) rfl
set_option maxRecDepth 8000 in
theorem vd_E0_438 : vd_wp d 0 438 ls (.int x :: st) M Q = vd_wp d 0 439 ls (.long x.toInt64 :: st) (M) Q := vd_wp_alu (show vd_pI 0 438 = some (.i2l, 1, 0, 0, 0, .null) from rfl) rfl
set_option maxRecDepth 8000 in
theorem vd_E0_439 : vd_wp d 0 439 ls (.long w :: .long u :: st) M Q = vd_wp d 0 440 ls (.int (lg_cmp u w) :: st) (M) Q := vd_wp_alu (show vd_pI 0 439 = some (.lcmp, 1, 0, 0, 0, .null) from rfl) rfl
set_option maxRecDepth 8000 in
theorem vd_E0_440 : vd_wp d 0 440 ls (.int x :: st) M Q = if x.toInt = 0 then vd_wp d 0 445 ls st M Q else vd_wp d 0 443 ls st M Q := vd_g_if (show vd_pI 0 440 = some (.ifCond .eq 5, 3, 0, 0, 0, .null) from rfl) rfl vd_c_eq0
set_option maxRecDepth 8000 in
theorem vd_E0_443 : vd_wp d 0 443 ls (st) M Q = vd_wp d 0 444 ls (.int (vd_I 0) :: st) (M) Q := vd_wp_alu (show vd_pI 0 443 = some (.iconst 0, 1, 0, 0, 0, .null) from rfl) rfl
set_option maxRecDepth 8000 in
theorem vd_E0_444 (h : vd_rok (some .boolean) x = true) : vd_wp d 0 444 ls [.int x] M Q = Q M (.inl (some (.int x))) := vd_g_iret (show vd_pI 0 444 = some (.ireturn, 1, 4, 0, 0, .null) from rfl) h
set_option maxRecDepth 8000 in
theorem vd_E0_445 : vd_wp d 0 445 ls (st) M Q = vd_wp d 0 757 ls (st) (M) Q := vd_wp_alu (show vd_pI 0 445 = some (.goto 312, 3, 0, 0, 0, .null) from rfl) rfl
set_option maxRecDepth 8000 in
theorem vd_E0_448 : vd_wp d 0 448 [a0, .ref o, a2, a3, a4, a5, a6] (st) M Q = vd_wp d 0 449 [a0, .ref o, a2, a3, a4, a5, a6] (.ref o :: st) (M) Q := vd_wp_alu (show vd_pI 0 448 = some (.aload_n 1, 1, 0, 0, 0, .null) from rfl) rfl
set_option maxRecDepth 8000 in
theorem vd_E0_448n : vd_wp d 0 448 [a0, .null, a2, a3, a4, a5, a6] (st) M Q = vd_wp d 0 449 [a0, .null, a2, a3, a4, a5, a6] (.null :: st) (M) Q := vd_wp_alu (show vd_pI 0 448 = some (.aload_n 1, 1, 0, 0, 0, .null) from rfl) rfl
set_option maxRecDepth 8000 in
theorem vd_E0_449 : vd_wp d 0 449 [.ref o, a1, a2, a3, a4, a5, a6] (st) M Q = vd_wp d 0 450 [.ref o, a1, a2, a3, a4, a5, a6] (.ref o :: st) (M) Q := vd_wp_alu (show vd_pI 0 449 = some (.aload_n 0, 1, 0, 0, 0, .null) from rfl) rfl
set_option maxRecDepth 8000 in
theorem vd_E0_449n : vd_wp d 0 449 [.null, a1, a2, a3, a4, a5, a6] (st) M Q = vd_wp d 0 450 [.null, a1, a2, a3, a4, a5, a6] (.null :: st) (M) Q := vd_wp_alu (show vd_pI 0 449 = some (.aload_n 0, 1, 0, 0, 0, .null) from rfl) rfl
set_option maxRecDepth 8000 in
theorem vd_E0_450 : vd_wp d 0 450 [a0, a1, a2, a3, .int x, a5, a6] (st) M Q = vd_wp d 0 452 [a0, a1, a2, a3, .int x, a5, a6] (.int x :: st) (M) Q := vd_wp_alu (show vd_pI 0 450 = some (.iload 4, 2, 0, 0, 0, .null) from rfl) rfl
set_option maxRecDepth 8000 in
theorem vd_E0_452 : vd_wp d 0 452 ls (st) M Q = vd_wp d 0 453 ls (.int (vd_I 1) :: st) (M) Q := vd_wp_alu (show vd_pI 0 452 = some (.iconst 1, 1, 0, 0, 0, .null) from rfl) rfl
set_option maxRecDepth 8000 in
theorem vd_E0_453 : vd_wp d 0 453 ls (.int y :: .int x :: st) M Q = vd_wp d 0 454 ls (.int (x + y) :: st) (M) Q := vd_wp_alu (show vd_pI 0 453 = some (.iadd, 1, 0, 0, 0, .null) from rfl) rfl
set_option maxRecDepth 8000 in
theorem vd_E0_454 (h : vd_k M o = 32) (h1 : 0 ≤ z) (h2 : z < (vd_l M o : Int)) (h3 : z < 2147483648) : vd_wp d 0 454 ls (.int (vd_I z) :: .ref o :: st) M Q = vd_wp d 0 455 ls (.int (vd_i M o z.toNat) :: st) (M) Q := vd_g_ial (show vd_pI 0 454 = some (.iaload, 1, 1, 0, 0, .null) from rfl) h h1 h2 h3
set_option maxRecDepth 8000 in
theorem vd_E0_455 : vd_wp d 0 455 [.ref o, a1, a2, a3, a4, a5, a6] (st) M Q = vd_wp d 0 456 [.ref o, a1, a2, a3, a4, a5, a6] (.ref o :: st) (M) Q := vd_wp_alu (show vd_pI 0 455 = some (.aload_n 0, 1, 0, 0, 0, .null) from rfl) rfl
set_option maxRecDepth 8000 in
theorem vd_E0_455n : vd_wp d 0 455 [.null, a1, a2, a3, a4, a5, a6] (st) M Q = vd_wp d 0 456 [.null, a1, a2, a3, a4, a5, a6] (.null :: st) (M) Q := vd_wp_alu (show vd_pI 0 455 = some (.aload_n 0, 1, 0, 0, 0, .null) from rfl) rfl
set_option maxRecDepth 8000 in
theorem vd_E0_456 : vd_wp d 0 456 [a0, a1, a2, a3, .int x, a5, a6] (st) M Q = vd_wp d 0 458 [a0, a1, a2, a3, .int x, a5, a6] (.int x :: st) (M) Q := vd_wp_alu (show vd_pI 0 456 = some (.iload 4, 2, 0, 0, 0, .null) from rfl) rfl
set_option maxRecDepth 8000 in
theorem vd_E0_458 : vd_wp d 0 458 ls (st) M Q = vd_wp d 0 459 ls (.int (vd_I 2) :: st) (M) Q := vd_wp_alu (show vd_pI 0 458 = some (.iconst 2, 1, 0, 0, 0, .null) from rfl) rfl
set_option maxRecDepth 8000 in
theorem vd_E0_459 : vd_wp d 0 459 ls (.int y :: .int x :: st) M Q = vd_wp d 0 460 ls (.int (x + y) :: st) (M) Q := vd_wp_alu (show vd_pI 0 459 = some (.iadd, 1, 0, 0, 0, .null) from rfl) rfl
set_option maxRecDepth 8000 in
theorem vd_E0_460 (h : vd_k M o = 32) (h1 : 0 ≤ z) (h2 : z < (vd_l M o : Int)) (h3 : z < 2147483648) : vd_wp d 0 460 ls (.int (vd_I z) :: .ref o :: st) M Q = vd_wp d 0 461 ls (.int (vd_i M o z.toNat) :: st) (M) Q := vd_g_ial (show vd_pI 0 460 = some (.iaload, 1, 1, 0, 0, .null) from rfl) h h1 h2 h3
set_option maxRecDepth 8000 in
theorem vd_E0_461 : vd_wp d 0 461 [a0, a1, a2, .ref o, a4, a5, a6] (st) M Q = vd_wp d 0 462 [a0, a1, a2, .ref o, a4, a5, a6] (.ref o :: st) (M) Q := vd_wp_alu (show vd_pI 0 461 = some (.aload_n 3, 1, 0, 0, 0, .null) from rfl) rfl
set_option maxRecDepth 8000 in
theorem vd_E0_461n : vd_wp d 0 461 [a0, a1, a2, .null, a4, a5, a6] (st) M Q = vd_wp d 0 462 [a0, a1, a2, .null, a4, a5, a6] (.null :: st) (M) Q := vd_wp_alu (show vd_pI 0 461 = some (.aload_n 3, 1, 0, 0, 0, .null) from rfl) rfl
set_option maxRecDepth 8000 in
theorem vd_E0_462 (hc : vd_cs st ≤ 8) (hw : vd_wp d 155 0 [.ref o0, .int x1, .int x2, .ref o3, vd_U] [] M (fun M1 r => ∃ v, r = .inl v ∧ vd_wp (d + 1) 0 465 ls (v.toList ++ st) M1 Q)) : vd_wp (d + 1) 0 462 ls (.ref o3 :: .int x2 :: .int x1 :: .ref o0 :: st) M Q := vd_g_call (args := [.ref o3, .int x2, .int x1, .ref o0]) (st' := st) (nL := 5) (na := 4) (rc := 99) (show vd_pI 0 462 = some (.invokestatic 80, 3, 3, 155, 0, .null) from rfl) rfl rfl rfl hc (of_decide_eq_true rfl) rfl hw
set_option maxRecDepth 8000 in
theorem vd_E0_465 (h : vd_long a4 = false) : vd_wp d 0 465 [a0, a1, a2, a3, a4, a5, a6] (.int x :: st) M Q = vd_wp d 0 467 [a0, a1, a2, a3, a4, .int x, a6] (st) (M) Q := vd_g_ist (show vd_pI 0 465 = some (.istore 5, 2, 0, 0, 0, .null) from rfl) (vd_stS rfl h (of_decide_eq_true rfl))
set_option maxRecDepth 8000 in
theorem vd_E0_467 : vd_wp d 0 467 [a0, a1, .ref o, a3, a4, a5, a6] (st) M Q = vd_wp d 0 468 [a0, a1, .ref o, a3, a4, a5, a6] (.ref o :: st) (M) Q := vd_wp_alu (show vd_pI 0 467 = some (.aload_n 2, 1, 0, 0, 0, .null) from rfl) rfl
set_option maxRecDepth 8000 in
theorem vd_E0_467n : vd_wp d 0 467 [a0, a1, .null, a3, a4, a5, a6] (st) M Q = vd_wp d 0 468 [a0, a1, .null, a3, a4, a5, a6] (.null :: st) (M) Q := vd_wp_alu (show vd_pI 0 467 = some (.aload_n 2, 1, 0, 0, 0, .null) from rfl) rfl
set_option maxRecDepth 8000 in
theorem vd_E0_468 : vd_wp d 0 468 [.ref o, a1, a2, a3, a4, a5, a6] (st) M Q = vd_wp d 0 469 [.ref o, a1, a2, a3, a4, a5, a6] (.ref o :: st) (M) Q := vd_wp_alu (show vd_pI 0 468 = some (.aload_n 0, 1, 0, 0, 0, .null) from rfl) rfl
set_option maxRecDepth 8000 in
theorem vd_E0_468n : vd_wp d 0 468 [.null, a1, a2, a3, a4, a5, a6] (st) M Q = vd_wp d 0 469 [.null, a1, a2, a3, a4, a5, a6] (.null :: st) (M) Q := vd_wp_alu (show vd_pI 0 468 = some (.aload_n 0, 1, 0, 0, 0, .null) from rfl) rfl
set_option maxRecDepth 8000 in
theorem vd_E0_469 : vd_wp d 0 469 [a0, a1, a2, a3, .int x, a5, a6] (st) M Q = vd_wp d 0 471 [a0, a1, a2, a3, .int x, a5, a6] (.int x :: st) (M) Q := vd_wp_alu (show vd_pI 0 469 = some (.iload 4, 2, 0, 0, 0, .null) from rfl) rfl
set_option maxRecDepth 8000 in
theorem vd_E0_471 : vd_wp d 0 471 ls (st) M Q = vd_wp d 0 472 ls (.int (vd_I 1) :: st) (M) Q := vd_wp_alu (show vd_pI 0 471 = some (.iconst 1, 1, 0, 0, 0, .null) from rfl) rfl
set_option maxRecDepth 8000 in
theorem vd_E0_472 : vd_wp d 0 472 ls (.int y :: .int x :: st) M Q = vd_wp d 0 473 ls (.int (x + y) :: st) (M) Q := vd_wp_alu (show vd_pI 0 472 = some (.iadd, 1, 0, 0, 0, .null) from rfl) rfl
set_option maxRecDepth 8000 in
theorem vd_E0_473 (h : vd_k M o = 32) (h1 : 0 ≤ z) (h2 : z < (vd_l M o : Int)) (h3 : z < 2147483648) : vd_wp d 0 473 ls (.int (vd_I z) :: .ref o :: st) M Q = vd_wp d 0 474 ls (.int (vd_i M o z.toNat) :: st) (M) Q := vd_g_ial (show vd_pI 0 473 = some (.iaload, 1, 1, 0, 0, .null) from rfl) h h1 h2 h3
set_option maxRecDepth 8000 in
theorem vd_E0_474 : vd_wp d 0 474 [.ref o, a1, a2, a3, a4, a5, a6] (st) M Q = vd_wp d 0 475 [.ref o, a1, a2, a3, a4, a5, a6] (.ref o :: st) (M) Q := vd_wp_alu (show vd_pI 0 474 = some (.aload_n 0, 1, 0, 0, 0, .null) from rfl) rfl
set_option maxRecDepth 8000 in
theorem vd_E0_474n : vd_wp d 0 474 [.null, a1, a2, a3, a4, a5, a6] (st) M Q = vd_wp d 0 475 [.null, a1, a2, a3, a4, a5, a6] (.null :: st) (M) Q := vd_wp_alu (show vd_pI 0 474 = some (.aload_n 0, 1, 0, 0, 0, .null) from rfl) rfl
set_option maxRecDepth 8000 in
theorem vd_E0_475 : vd_wp d 0 475 [a0, a1, a2, a3, .int x, a5, a6] (st) M Q = vd_wp d 0 477 [a0, a1, a2, a3, .int x, a5, a6] (.int x :: st) (M) Q := vd_wp_alu (show vd_pI 0 475 = some (.iload 4, 2, 0, 0, 0, .null) from rfl) rfl
set_option maxRecDepth 8000 in
theorem vd_E0_477 : vd_wp d 0 477 ls (st) M Q = vd_wp d 0 478 ls (.int (vd_I 2) :: st) (M) Q := vd_wp_alu (show vd_pI 0 477 = some (.iconst 2, 1, 0, 0, 0, .null) from rfl) rfl
set_option maxRecDepth 8000 in
theorem vd_E0_478 : vd_wp d 0 478 ls (.int y :: .int x :: st) M Q = vd_wp d 0 479 ls (.int (x + y) :: st) (M) Q := vd_wp_alu (show vd_pI 0 478 = some (.iadd, 1, 0, 0, 0, .null) from rfl) rfl
set_option maxRecDepth 8000 in
theorem vd_E0_479 (h : vd_k M o = 32) (h1 : 0 ≤ z) (h2 : z < (vd_l M o : Int)) (h3 : z < 2147483648) : vd_wp d 0 479 ls (.int (vd_I z) :: .ref o :: st) M Q = vd_wp d 0 480 ls (.int (vd_i M o z.toNat) :: st) (M) Q := vd_g_ial (show vd_pI 0 479 = some (.iaload, 1, 1, 0, 0, .null) from rfl) h h1 h2 h3
set_option maxRecDepth 8000 in
theorem vd_E0_480 (hc : vd_cs st ≤ 8) (h : vd_k M o = 12) (hw : vd_wp d 280 0 [.ref o, .int x0, .int x1, vd_U, vd_U, vd_U, vd_U, vd_U] [] M (fun M1 r => ∃ v, r = .inl v ∧ vd_wp (d + 1) 0 483 ls (v.toList ++ st) M1 Q)) : vd_wp (d + 1) 0 480 ls (.int x1 :: .int x0 :: .ref o :: st) M Q := vd_g_call (args := [.int x1, .int x0, .ref o]) (st' := st) (nL := 8) (na := 3) (rc := 12) (show vd_pI 0 480 = some (.invokevirtual 83, 3, 3, 280, 0, .null) from rfl) rfl rfl rfl hc (of_decide_eq_true rfl) (by simp [h]) hw
set_option maxRecDepth 8000 in
theorem vd_E0_483 (h : vd_long a5 = false) : vd_wp d 0 483 [a0, a1, a2, a3, a4, a5, a6] (.int x :: st) M Q = vd_wp d 0 485 [a0, a1, a2, a3, a4, a5, .int x] (st) (M) Q := vd_g_ist (show vd_pI 0 483 = some (.istore 6, 2, 0, 0, 0, .null) from rfl) (vd_stS rfl h (of_decide_eq_true rfl))
set_option maxRecDepth 8000 in
theorem vd_E0_485 : vd_wp d 0 485 [a0, a1, .ref o, a3, a4, a5, a6] (st) M Q = vd_wp d 0 486 [a0, a1, .ref o, a3, a4, a5, a6] (.ref o :: st) (M) Q := vd_wp_alu (show vd_pI 0 485 = some (.aload_n 2, 1, 0, 0, 0, .null) from rfl) rfl
set_option maxRecDepth 8000 in
theorem vd_E0_485n : vd_wp d 0 485 [a0, a1, .null, a3, a4, a5, a6] (st) M Q = vd_wp d 0 486 [a0, a1, .null, a3, a4, a5, a6] (.null :: st) (M) Q := vd_wp_alu (show vd_pI 0 485 = some (.aload_n 2, 1, 0, 0, 0, .null) from rfl) rfl
set_option maxRecDepth 8000 in
theorem vd_E0_486 (hc : vd_cs st ≤ 8) (h : vd_k M o = 12) (hw : vd_wp d 166 0 [.ref o] [] M (fun M1 r => ∃ v, r = .inl v ∧ vd_wp (d + 1) 0 489 ls (v.toList ++ st) M1 Q)) : vd_wp (d + 1) 0 486 ls (.ref o :: st) M Q := vd_g_call (args := [.ref o]) (st' := st) (nL := 1) (na := 1) (rc := 12) (show vd_pI 0 486 = some (.invokevirtual 62, 3, 3, 166, 0, .null) from rfl) rfl rfl rfl hc (of_decide_eq_true rfl) (by simp [h]) hw
set_option maxRecDepth 8000 in
theorem vd_E0_489 : vd_wp d 0 489 [a0, a1, a2, a3, a4, .int x, a6] (st) M Q = vd_wp d 0 491 [a0, a1, a2, a3, a4, .int x, a6] (.int x :: st) (M) Q := vd_wp_alu (show vd_pI 0 489 = some (.iload 5, 2, 0, 0, 0, .null) from rfl) rfl
set_option maxRecDepth 8000 in
theorem vd_E0_491 : vd_wp d 0 491 ls (.int y :: .int x :: st) M Q = if x.toInt = y.toInt then vd_wp d 0 496 ls st M Q else vd_wp d 0 494 ls st M Q := vd_g_if (show vd_pI 0 491 = some (.if_icmp .eq 5, 3, 0, 0, 0, .null) from rfl) rfl vd_c_eq
set_option maxRecDepth 8000 in
theorem vd_E0_494 : vd_wp d 0 494 ls (st) M Q = vd_wp d 0 495 ls (.int (vd_I 0) :: st) (M) Q := vd_wp_alu (show vd_pI 0 494 = some (.iconst 0, 1, 0, 0, 0, .null) from rfl) rfl
set_option maxRecDepth 8000 in
theorem vd_E0_495 (h : vd_rok (some .boolean) x = true) : vd_wp d 0 495 ls [.int x] M Q = Q M (.inl (some (.int x))) := vd_g_iret (show vd_pI 0 495 = some (.ireturn, 1, 4, 0, 0, .null) from rfl) h
set_option maxRecDepth 8000 in
theorem vd_E0_496 : vd_wp d 0 496 [a0, a1, a2, a3, a4, .int x, a6] (st) M Q = vd_wp d 0 498 [a0, a1, a2, a3, a4, .int x, a6] (.int x :: st) (M) Q := vd_wp_alu (show vd_pI 0 496 = some (.iload 5, 2, 0, 0, 0, .null) from rfl) rfl
set_option maxRecDepth 8000 in
theorem vd_E0_498 : vd_wp d 0 498 ls (.int x :: st) M Q = if x.toInt = 0 then vd_wp d 0 501 ls st M Q else vd_wp d 0 513 ls st M Q := vd_g_ifn (show vd_pI 0 498 = some (.ifCond .ne 15, 3, 0, 0, 0, .null) from rfl) rfl vd_c_ne0
set_option maxRecDepth 8000 in
theorem vd_E0_501 : vd_wp d 0 501 [a0, a1, a2, .ref o, a4, a5, a6] (st) M Q = vd_wp d 0 502 [a0, a1, a2, .ref o, a4, a5, a6] (.ref o :: st) (M) Q := vd_wp_alu (show vd_pI 0 501 = some (.aload_n 3, 1, 0, 0, 0, .null) from rfl) rfl
set_option maxRecDepth 8000 in
theorem vd_E0_501n : vd_wp d 0 501 [a0, a1, a2, .null, a4, a5, a6] (st) M Q = vd_wp d 0 502 [a0, a1, a2, .null, a4, a5, a6] (.null :: st) (M) Q := vd_wp_alu (show vd_pI 0 501 = some (.aload_n 3, 1, 0, 0, 0, .null) from rfl) rfl
set_option maxRecDepth 8000 in
theorem vd_E0_502 : vd_wp d 0 502 ls (st) M Q = vd_wp d 0 503 ls (.int (vd_I 0) :: st) (M) Q := vd_wp_alu (show vd_pI 0 502 = some (.iconst 0, 1, 0, 0, 0, .null) from rfl) rfl
set_option maxRecDepth 8000 in
theorem vd_E0_503 (h : vd_k M o = 35) (h1 : 0 ≤ z) (h2 : z < (vd_l M o : Int)) (h3 : z < 2147483648) : vd_wp d 0 503 ls (.int (vd_I z) :: .ref o :: st) M Q = vd_wp d 0 504 ls (.long (vd_j M o z.toNat) :: st) (M) Q := vd_g_lal (show vd_pI 0 503 = some (.laload, 1, 1, 0, 0, .null) from rfl) h h1 h2 h3
set_option maxRecDepth 8000 in
theorem vd_E0_504 : vd_wp d 0 504 [a0, a1, a2, a3, a4, a5, .int x] (st) M Q = vd_wp d 0 506 [a0, a1, a2, a3, a4, a5, .int x] (.int x :: st) (M) Q := vd_wp_alu (show vd_pI 0 504 = some (.iload 6, 2, 0, 0, 0, .null) from rfl) rfl
set_option maxRecDepth 8000 in
theorem vd_E0_506 : vd_wp d 0 506 ls (.int x :: st) M Q = vd_wp d 0 507 ls (.long x.toInt64 :: st) (M) Q := vd_wp_alu (show vd_pI 0 506 = some (.i2l, 1, 0, 0, 0, .null) from rfl) rfl
set_option maxRecDepth 8000 in
theorem vd_E0_507 : vd_wp d 0 507 ls (.long w :: .long u :: st) M Q = vd_wp d 0 508 ls (.int (lg_cmp u w) :: st) (M) Q := vd_wp_alu (show vd_pI 0 507 = some (.lcmp, 1, 0, 0, 0, .null) from rfl) rfl
set_option maxRecDepth 8000 in
theorem vd_E0_508 : vd_wp d 0 508 ls (.int x :: st) M Q = if x.toInt = 0 then vd_wp d 0 513 ls st M Q else vd_wp d 0 511 ls st M Q := vd_g_if (show vd_pI 0 508 = some (.ifCond .eq 5, 3, 0, 0, 0, .null) from rfl) rfl vd_c_eq0
set_option maxRecDepth 8000 in
theorem vd_E0_511 : vd_wp d 0 511 ls (st) M Q = vd_wp d 0 512 ls (.int (vd_I 0) :: st) (M) Q := vd_wp_alu (show vd_pI 0 511 = some (.iconst 0, 1, 0, 0, 0, .null) from rfl) rfl
set_option maxRecDepth 8000 in
theorem vd_E0_512 (h : vd_rok (some .boolean) x = true) : vd_wp d 0 512 ls [.int x] M Q = Q M (.inl (some (.int x))) := vd_g_iret (show vd_pI 0 512 = some (.ireturn, 1, 4, 0, 0, .null) from rfl) h
set_option maxRecDepth 8000 in
theorem vd_E0_513 : vd_wp d 0 513 ls (st) M Q = vd_wp d 0 757 ls (st) (M) Q := vd_wp_alu (show vd_pI 0 513 = some (.goto 244, 3, 0, 0, 0, .null) from rfl) rfl
set_option maxRecDepth 8000 in
theorem vd_E0_516 : vd_wp d 0 516 [a0, .ref o, a2, a3, a4, a5, a6] (st) M Q = vd_wp d 0 517 [a0, .ref o, a2, a3, a4, a5, a6] (.ref o :: st) (M) Q := vd_wp_alu (show vd_pI 0 516 = some (.aload_n 1, 1, 0, 0, 0, .null) from rfl) rfl
set_option maxRecDepth 8000 in
theorem vd_E0_516n : vd_wp d 0 516 [a0, .null, a2, a3, a4, a5, a6] (st) M Q = vd_wp d 0 517 [a0, .null, a2, a3, a4, a5, a6] (.null :: st) (M) Q := vd_wp_alu (show vd_pI 0 516 = some (.aload_n 1, 1, 0, 0, 0, .null) from rfl) rfl
set_option maxRecDepth 8000 in
theorem vd_E0_517 : vd_wp d 0 517 [.ref o, a1, a2, a3, a4, a5, a6] (st) M Q = vd_wp d 0 518 [.ref o, a1, a2, a3, a4, a5, a6] (.ref o :: st) (M) Q := vd_wp_alu (show vd_pI 0 517 = some (.aload_n 0, 1, 0, 0, 0, .null) from rfl) rfl
set_option maxRecDepth 8000 in
theorem vd_E0_517n : vd_wp d 0 517 [.null, a1, a2, a3, a4, a5, a6] (st) M Q = vd_wp d 0 518 [.null, a1, a2, a3, a4, a5, a6] (.null :: st) (M) Q := vd_wp_alu (show vd_pI 0 517 = some (.aload_n 0, 1, 0, 0, 0, .null) from rfl) rfl
set_option maxRecDepth 8000 in
theorem vd_E0_518 : vd_wp d 0 518 [a0, a1, a2, a3, .int x, a5, a6] (st) M Q = vd_wp d 0 520 [a0, a1, a2, a3, .int x, a5, a6] (.int x :: st) (M) Q := vd_wp_alu (show vd_pI 0 518 = some (.iload 4, 2, 0, 0, 0, .null) from rfl) rfl
set_option maxRecDepth 8000 in
theorem vd_E0_520 : vd_wp d 0 520 ls (st) M Q = vd_wp d 0 521 ls (.int (vd_I 1) :: st) (M) Q := vd_wp_alu (show vd_pI 0 520 = some (.iconst 1, 1, 0, 0, 0, .null) from rfl) rfl
set_option maxRecDepth 8000 in
theorem vd_E0_521 : vd_wp d 0 521 ls (.int y :: .int x :: st) M Q = vd_wp d 0 522 ls (.int (x + y) :: st) (M) Q := vd_wp_alu (show vd_pI 0 521 = some (.iadd, 1, 0, 0, 0, .null) from rfl) rfl
set_option maxRecDepth 8000 in
theorem vd_E0_522 (h : vd_k M o = 32) (h1 : 0 ≤ z) (h2 : z < (vd_l M o : Int)) (h3 : z < 2147483648) : vd_wp d 0 522 ls (.int (vd_I z) :: .ref o :: st) M Q = vd_wp d 0 523 ls (.int (vd_i M o z.toNat) :: st) (M) Q := vd_g_ial (show vd_pI 0 522 = some (.iaload, 1, 1, 0, 0, .null) from rfl) h h1 h2 h3
set_option maxRecDepth 8000 in
theorem vd_E0_523 : vd_wp d 0 523 [.ref o, a1, a2, a3, a4, a5, a6] (st) M Q = vd_wp d 0 524 [.ref o, a1, a2, a3, a4, a5, a6] (.ref o :: st) (M) Q := vd_wp_alu (show vd_pI 0 523 = some (.aload_n 0, 1, 0, 0, 0, .null) from rfl) rfl
set_option maxRecDepth 8000 in
theorem vd_E0_523n : vd_wp d 0 523 [.null, a1, a2, a3, a4, a5, a6] (st) M Q = vd_wp d 0 524 [.null, a1, a2, a3, a4, a5, a6] (.null :: st) (M) Q := vd_wp_alu (show vd_pI 0 523 = some (.aload_n 0, 1, 0, 0, 0, .null) from rfl) rfl
set_option maxRecDepth 8000 in
theorem vd_E0_524 : vd_wp d 0 524 [a0, a1, a2, a3, .int x, a5, a6] (st) M Q = vd_wp d 0 526 [a0, a1, a2, a3, .int x, a5, a6] (.int x :: st) (M) Q := vd_wp_alu (show vd_pI 0 524 = some (.iload 4, 2, 0, 0, 0, .null) from rfl) rfl
set_option maxRecDepth 8000 in
theorem vd_E0_526 : vd_wp d 0 526 ls (st) M Q = vd_wp d 0 527 ls (.int (vd_I 2) :: st) (M) Q := vd_wp_alu (show vd_pI 0 526 = some (.iconst 2, 1, 0, 0, 0, .null) from rfl) rfl
set_option maxRecDepth 8000 in
theorem vd_E0_527 : vd_wp d 0 527 ls (.int y :: .int x :: st) M Q = vd_wp d 0 528 ls (.int (x + y) :: st) (M) Q := vd_wp_alu (show vd_pI 0 527 = some (.iadd, 1, 0, 0, 0, .null) from rfl) rfl
set_option maxRecDepth 8000 in
theorem vd_E0_528 (h : vd_k M o = 32) (h1 : 0 ≤ z) (h2 : z < (vd_l M o : Int)) (h3 : z < 2147483648) : vd_wp d 0 528 ls (.int (vd_I z) :: .ref o :: st) M Q = vd_wp d 0 529 ls (.int (vd_i M o z.toNat) :: st) (M) Q := vd_g_ial (show vd_pI 0 528 = some (.iaload, 1, 1, 0, 0, .null) from rfl) h h1 h2 h3
set_option maxRecDepth 8000 in
theorem vd_E0_529 : vd_wp d 0 529 [a0, a1, a2, .ref o, a4, a5, a6] (st) M Q = vd_wp d 0 530 [a0, a1, a2, .ref o, a4, a5, a6] (.ref o :: st) (M) Q := vd_wp_alu (show vd_pI 0 529 = some (.aload_n 3, 1, 0, 0, 0, .null) from rfl) rfl
set_option maxRecDepth 8000 in
theorem vd_E0_529n : vd_wp d 0 529 [a0, a1, a2, .null, a4, a5, a6] (st) M Q = vd_wp d 0 530 [a0, a1, a2, .null, a4, a5, a6] (.null :: st) (M) Q := vd_wp_alu (show vd_pI 0 529 = some (.aload_n 3, 1, 0, 0, 0, .null) from rfl) rfl
set_option maxRecDepth 8000 in
theorem vd_E0_530 (hc : vd_cs st ≤ 8) (hw : vd_wp d 157 0 [.ref o0, .int x1, .int x2, .ref o3, vd_U] [] M (fun M1 r => ∃ v, r = .inl v ∧ vd_wp (d + 1) 0 533 ls (v.toList ++ st) M1 Q)) : vd_wp (d + 1) 0 530 ls (.ref o3 :: .int x2 :: .int x1 :: .ref o0 :: st) M Q := vd_g_call (args := [.ref o3, .int x2, .int x1, .ref o0]) (st' := st) (nL := 5) (na := 4) (rc := 99) (show vd_pI 0 530 = some (.invokestatic 84, 3, 3, 157, 0, .null) from rfl) rfl rfl rfl hc (of_decide_eq_true rfl) rfl hw
set_option maxRecDepth 8000 in
theorem vd_E0_533 (h : vd_long a4 = false) : vd_wp d 0 533 [a0, a1, a2, a3, a4, a5, a6] (.int x :: st) M Q = vd_wp d 0 535 [a0, a1, a2, a3, a4, .int x, a6] (st) (M) Q := vd_g_ist (show vd_pI 0 533 = some (.istore 5, 2, 0, 0, 0, .null) from rfl) (vd_stS rfl h (of_decide_eq_true rfl))
set_option maxRecDepth 8000 in
theorem vd_E0_535 : vd_wp d 0 535 [a0, a1, .ref o, a3, a4, a5, a6] (st) M Q = vd_wp d 0 536 [a0, a1, .ref o, a3, a4, a5, a6] (.ref o :: st) (M) Q := vd_wp_alu (show vd_pI 0 535 = some (.aload_n 2, 1, 0, 0, 0, .null) from rfl) rfl
set_option maxRecDepth 8000 in
theorem vd_E0_535n : vd_wp d 0 535 [a0, a1, .null, a3, a4, a5, a6] (st) M Q = vd_wp d 0 536 [a0, a1, .null, a3, a4, a5, a6] (.null :: st) (M) Q := vd_wp_alu (show vd_pI 0 535 = some (.aload_n 2, 1, 0, 0, 0, .null) from rfl) rfl
set_option maxRecDepth 8000 in
theorem vd_E0_536 : vd_wp d 0 536 [.ref o, a1, a2, a3, a4, a5, a6] (st) M Q = vd_wp d 0 537 [.ref o, a1, a2, a3, a4, a5, a6] (.ref o :: st) (M) Q := vd_wp_alu (show vd_pI 0 536 = some (.aload_n 0, 1, 0, 0, 0, .null) from rfl) rfl
set_option maxRecDepth 8000 in
theorem vd_E0_536n : vd_wp d 0 536 [.null, a1, a2, a3, a4, a5, a6] (st) M Q = vd_wp d 0 537 [.null, a1, a2, a3, a4, a5, a6] (.null :: st) (M) Q := vd_wp_alu (show vd_pI 0 536 = some (.aload_n 0, 1, 0, 0, 0, .null) from rfl) rfl
set_option maxRecDepth 8000 in
theorem vd_E0_537 : vd_wp d 0 537 [a0, a1, a2, a3, .int x, a5, a6] (st) M Q = vd_wp d 0 539 [a0, a1, a2, a3, .int x, a5, a6] (.int x :: st) (M) Q := vd_wp_alu (show vd_pI 0 537 = some (.iload 4, 2, 0, 0, 0, .null) from rfl) rfl
set_option maxRecDepth 8000 in
theorem vd_E0_539 : vd_wp d 0 539 ls (st) M Q = vd_wp d 0 540 ls (.int (vd_I 1) :: st) (M) Q := vd_wp_alu (show vd_pI 0 539 = some (.iconst 1, 1, 0, 0, 0, .null) from rfl) rfl
set_option maxRecDepth 8000 in
theorem vd_E0_540 : vd_wp d 0 540 ls (.int y :: .int x :: st) M Q = vd_wp d 0 541 ls (.int (x + y) :: st) (M) Q := vd_wp_alu (show vd_pI 0 540 = some (.iadd, 1, 0, 0, 0, .null) from rfl) rfl
set_option maxRecDepth 8000 in
theorem vd_E0_541 (h : vd_k M o = 32) (h1 : 0 ≤ z) (h2 : z < (vd_l M o : Int)) (h3 : z < 2147483648) : vd_wp d 0 541 ls (.int (vd_I z) :: .ref o :: st) M Q = vd_wp d 0 542 ls (.int (vd_i M o z.toNat) :: st) (M) Q := vd_g_ial (show vd_pI 0 541 = some (.iaload, 1, 1, 0, 0, .null) from rfl) h h1 h2 h3
set_option maxRecDepth 8000 in
theorem vd_E0_542 : vd_wp d 0 542 [.ref o, a1, a2, a3, a4, a5, a6] (st) M Q = vd_wp d 0 543 [.ref o, a1, a2, a3, a4, a5, a6] (.ref o :: st) (M) Q := vd_wp_alu (show vd_pI 0 542 = some (.aload_n 0, 1, 0, 0, 0, .null) from rfl) rfl
set_option maxRecDepth 8000 in
theorem vd_E0_542n : vd_wp d 0 542 [.null, a1, a2, a3, a4, a5, a6] (st) M Q = vd_wp d 0 543 [.null, a1, a2, a3, a4, a5, a6] (.null :: st) (M) Q := vd_wp_alu (show vd_pI 0 542 = some (.aload_n 0, 1, 0, 0, 0, .null) from rfl) rfl
set_option maxRecDepth 8000 in
theorem vd_E0_543 : vd_wp d 0 543 [a0, a1, a2, a3, .int x, a5, a6] (st) M Q = vd_wp d 0 545 [a0, a1, a2, a3, .int x, a5, a6] (.int x :: st) (M) Q := vd_wp_alu (show vd_pI 0 543 = some (.iload 4, 2, 0, 0, 0, .null) from rfl) rfl
set_option maxRecDepth 8000 in
theorem vd_E0_545 : vd_wp d 0 545 ls (st) M Q = vd_wp d 0 546 ls (.int (vd_I 2) :: st) (M) Q := vd_wp_alu (show vd_pI 0 545 = some (.iconst 2, 1, 0, 0, 0, .null) from rfl) rfl
set_option maxRecDepth 8000 in
theorem vd_E0_546 : vd_wp d 0 546 ls (.int y :: .int x :: st) M Q = vd_wp d 0 547 ls (.int (x + y) :: st) (M) Q := vd_wp_alu (show vd_pI 0 546 = some (.iadd, 1, 0, 0, 0, .null) from rfl) rfl
set_option maxRecDepth 8000 in
theorem vd_E0_547 (h : vd_k M o = 32) (h1 : 0 ≤ z) (h2 : z < (vd_l M o : Int)) (h3 : z < 2147483648) : vd_wp d 0 547 ls (.int (vd_I z) :: .ref o :: st) M Q = vd_wp d 0 548 ls (.int (vd_i M o z.toNat) :: st) (M) Q := vd_g_ial (show vd_pI 0 547 = some (.iaload, 1, 1, 0, 0, .null) from rfl) h h1 h2 h3
set_option maxRecDepth 8000 in
theorem vd_E0_548 (hc : vd_cs st ≤ 8) (h : vd_k M o = 12) (hw : vd_wp d 281 0 [.ref o, .int x0, .int x1, vd_U] [] M (fun M1 r => ∃ v, r = .inl v ∧ vd_wp (d + 1) 0 551 ls (v.toList ++ st) M1 Q)) : vd_wp (d + 1) 0 548 ls (.int x1 :: .int x0 :: .ref o :: st) M Q := vd_g_call (args := [.int x1, .int x0, .ref o]) (st' := st) (nL := 4) (na := 3) (rc := 12) (show vd_pI 0 548 = some (.invokevirtual 86, 3, 3, 281, 0, .null) from rfl) rfl rfl rfl hc (of_decide_eq_true rfl) (by simp [h]) hw
set_option maxRecDepth 8000 in
theorem vd_E0_551 (h : vd_long a5 = false) : vd_wp d 0 551 [a0, a1, a2, a3, a4, a5, a6] (.int x :: st) M Q = vd_wp d 0 553 [a0, a1, a2, a3, a4, a5, .int x] (st) (M) Q := vd_g_ist (show vd_pI 0 551 = some (.istore 6, 2, 0, 0, 0, .null) from rfl) (vd_stS rfl h (of_decide_eq_true rfl))
set_option maxRecDepth 8000 in
theorem vd_E0_553 : vd_wp d 0 553 [a0, a1, .ref o, a3, a4, a5, a6] (st) M Q = vd_wp d 0 554 [a0, a1, .ref o, a3, a4, a5, a6] (.ref o :: st) (M) Q := vd_wp_alu (show vd_pI 0 553 = some (.aload_n 2, 1, 0, 0, 0, .null) from rfl) rfl
set_option maxRecDepth 8000 in
theorem vd_E0_553n : vd_wp d 0 553 [a0, a1, .null, a3, a4, a5, a6] (st) M Q = vd_wp d 0 554 [a0, a1, .null, a3, a4, a5, a6] (.null :: st) (M) Q := vd_wp_alu (show vd_pI 0 553 = some (.aload_n 2, 1, 0, 0, 0, .null) from rfl) rfl
set_option maxRecDepth 8000 in
theorem vd_E0_554 (hc : vd_cs st ≤ 8) (h : vd_k M o = 12) (hw : vd_wp d 166 0 [.ref o] [] M (fun M1 r => ∃ v, r = .inl v ∧ vd_wp (d + 1) 0 557 ls (v.toList ++ st) M1 Q)) : vd_wp (d + 1) 0 554 ls (.ref o :: st) M Q := vd_g_call (args := [.ref o]) (st' := st) (nL := 1) (na := 1) (rc := 12) (show vd_pI 0 554 = some (.invokevirtual 62, 3, 3, 166, 0, .null) from rfl) rfl rfl rfl hc (of_decide_eq_true rfl) (by simp [h]) hw
set_option maxRecDepth 8000 in
theorem vd_E0_557 : vd_wp d 0 557 [a0, a1, a2, a3, a4, .int x, a6] (st) M Q = vd_wp d 0 559 [a0, a1, a2, a3, a4, .int x, a6] (.int x :: st) (M) Q := vd_wp_alu (show vd_pI 0 557 = some (.iload 5, 2, 0, 0, 0, .null) from rfl) rfl
set_option maxRecDepth 8000 in
theorem vd_E0_559 : vd_wp d 0 559 ls (.int y :: .int x :: st) M Q = if x.toInt = y.toInt then vd_wp d 0 564 ls st M Q else vd_wp d 0 562 ls st M Q := vd_g_if (show vd_pI 0 559 = some (.if_icmp .eq 5, 3, 0, 0, 0, .null) from rfl) rfl vd_c_eq
set_option maxRecDepth 8000 in
theorem vd_E0_562 : vd_wp d 0 562 ls (st) M Q = vd_wp d 0 563 ls (.int (vd_I 0) :: st) (M) Q := vd_wp_alu (show vd_pI 0 562 = some (.iconst 0, 1, 0, 0, 0, .null) from rfl) rfl
set_option maxRecDepth 8000 in
theorem vd_E0_563 (h : vd_rok (some .boolean) x = true) : vd_wp d 0 563 ls [.int x] M Q = Q M (.inl (some (.int x))) := vd_g_iret (show vd_pI 0 563 = some (.ireturn, 1, 4, 0, 0, .null) from rfl) h
set_option maxRecDepth 8000 in
theorem vd_E0_564 : vd_wp d 0 564 [a0, a1, a2, a3, a4, .int x, a6] (st) M Q = vd_wp d 0 566 [a0, a1, a2, a3, a4, .int x, a6] (.int x :: st) (M) Q := vd_wp_alu (show vd_pI 0 564 = some (.iload 5, 2, 0, 0, 0, .null) from rfl) rfl
set_option maxRecDepth 8000 in
theorem vd_E0_566 : vd_wp d 0 566 ls (.int x :: st) M Q = if x.toInt = 0 then vd_wp d 0 569 ls st M Q else vd_wp d 0 581 ls st M Q := vd_g_ifn (show vd_pI 0 566 = some (.ifCond .ne 15, 3, 0, 0, 0, .null) from rfl) rfl vd_c_ne0
set_option maxRecDepth 8000 in
theorem vd_E0_569 : vd_wp d 0 569 [a0, a1, a2, .ref o, a4, a5, a6] (st) M Q = vd_wp d 0 570 [a0, a1, a2, .ref o, a4, a5, a6] (.ref o :: st) (M) Q := vd_wp_alu (show vd_pI 0 569 = some (.aload_n 3, 1, 0, 0, 0, .null) from rfl) rfl
set_option maxRecDepth 8000 in
theorem vd_E0_569n : vd_wp d 0 569 [a0, a1, a2, .null, a4, a5, a6] (st) M Q = vd_wp d 0 570 [a0, a1, a2, .null, a4, a5, a6] (.null :: st) (M) Q := vd_wp_alu (show vd_pI 0 569 = some (.aload_n 3, 1, 0, 0, 0, .null) from rfl) rfl
set_option maxRecDepth 8000 in
theorem vd_E0_570 : vd_wp d 0 570 ls (st) M Q = vd_wp d 0 571 ls (.int (vd_I 0) :: st) (M) Q := vd_wp_alu (show vd_pI 0 570 = some (.iconst 0, 1, 0, 0, 0, .null) from rfl) rfl
set_option maxRecDepth 8000 in
theorem vd_E0_571 (h : vd_k M o = 35) (h1 : 0 ≤ z) (h2 : z < (vd_l M o : Int)) (h3 : z < 2147483648) : vd_wp d 0 571 ls (.int (vd_I z) :: .ref o :: st) M Q = vd_wp d 0 572 ls (.long (vd_j M o z.toNat) :: st) (M) Q := vd_g_lal (show vd_pI 0 571 = some (.laload, 1, 1, 0, 0, .null) from rfl) h h1 h2 h3
set_option maxRecDepth 8000 in
theorem vd_E0_572 : vd_wp d 0 572 [a0, a1, a2, a3, a4, a5, .int x] (st) M Q = vd_wp d 0 574 [a0, a1, a2, a3, a4, a5, .int x] (.int x :: st) (M) Q := vd_wp_alu (show vd_pI 0 572 = some (.iload 6, 2, 0, 0, 0, .null) from rfl) rfl
set_option maxRecDepth 8000 in
theorem vd_E0_574 : vd_wp d 0 574 ls (.int x :: st) M Q = vd_wp d 0 575 ls (.long x.toInt64 :: st) (M) Q := vd_wp_alu (show vd_pI 0 574 = some (.i2l, 1, 0, 0, 0, .null) from rfl) rfl
set_option maxRecDepth 8000 in
theorem vd_E0_575 : vd_wp d 0 575 ls (.long w :: .long u :: st) M Q = vd_wp d 0 576 ls (.int (lg_cmp u w) :: st) (M) Q := vd_wp_alu (show vd_pI 0 575 = some (.lcmp, 1, 0, 0, 0, .null) from rfl) rfl
set_option maxRecDepth 8000 in
theorem vd_E0_576 : vd_wp d 0 576 ls (.int x :: st) M Q = if x.toInt = 0 then vd_wp d 0 581 ls st M Q else vd_wp d 0 579 ls st M Q := vd_g_if (show vd_pI 0 576 = some (.ifCond .eq 5, 3, 0, 0, 0, .null) from rfl) rfl vd_c_eq0
set_option maxRecDepth 8000 in
theorem vd_E0_579 : vd_wp d 0 579 ls (st) M Q = vd_wp d 0 580 ls (.int (vd_I 0) :: st) (M) Q := vd_wp_alu (show vd_pI 0 579 = some (.iconst 0, 1, 0, 0, 0, .null) from rfl) rfl
set_option maxRecDepth 8000 in
theorem vd_E0_580 (h : vd_rok (some .boolean) x = true) : vd_wp d 0 580 ls [.int x] M Q = Q M (.inl (some (.int x))) := vd_g_iret (show vd_pI 0 580 = some (.ireturn, 1, 4, 0, 0, .null) from rfl) h
set_option maxRecDepth 8000 in
theorem vd_E0_581 : vd_wp d 0 581 ls (st) M Q = vd_wp d 0 757 ls (st) (M) Q := vd_wp_alu (show vd_pI 0 581 = some (.goto 176, 3, 0, 0, 0, .null) from rfl) rfl
set_option maxRecDepth 8000 in
theorem vd_E0_584 : vd_wp d 0 584 [a0, .ref o, a2, a3, a4, a5, a6] (st) M Q = vd_wp d 0 585 [a0, .ref o, a2, a3, a4, a5, a6] (.ref o :: st) (M) Q := vd_wp_alu (show vd_pI 0 584 = some (.aload_n 1, 1, 0, 0, 0, .null) from rfl) rfl
set_option maxRecDepth 8000 in
theorem vd_E0_584n : vd_wp d 0 584 [a0, .null, a2, a3, a4, a5, a6] (st) M Q = vd_wp d 0 585 [a0, .null, a2, a3, a4, a5, a6] (.null :: st) (M) Q := vd_wp_alu (show vd_pI 0 584 = some (.aload_n 1, 1, 0, 0, 0, .null) from rfl) rfl
set_option maxRecDepth 8000 in
theorem vd_E0_585 : vd_wp d 0 585 [.ref o, a1, a2, a3, a4, a5, a6] (st) M Q = vd_wp d 0 586 [.ref o, a1, a2, a3, a4, a5, a6] (.ref o :: st) (M) Q := vd_wp_alu (show vd_pI 0 585 = some (.aload_n 0, 1, 0, 0, 0, .null) from rfl) rfl
set_option maxRecDepth 8000 in
theorem vd_E0_585n : vd_wp d 0 585 [.null, a1, a2, a3, a4, a5, a6] (st) M Q = vd_wp d 0 586 [.null, a1, a2, a3, a4, a5, a6] (.null :: st) (M) Q := vd_wp_alu (show vd_pI 0 585 = some (.aload_n 0, 1, 0, 0, 0, .null) from rfl) rfl
set_option maxRecDepth 8000 in
theorem vd_E0_586 : vd_wp d 0 586 [a0, a1, a2, a3, .int x, a5, a6] (st) M Q = vd_wp d 0 588 [a0, a1, a2, a3, .int x, a5, a6] (.int x :: st) (M) Q := vd_wp_alu (show vd_pI 0 586 = some (.iload 4, 2, 0, 0, 0, .null) from rfl) rfl
set_option maxRecDepth 8000 in
theorem vd_E0_588 : vd_wp d 0 588 ls (st) M Q = vd_wp d 0 589 ls (.int (vd_I 1) :: st) (M) Q := vd_wp_alu (show vd_pI 0 588 = some (.iconst 1, 1, 0, 0, 0, .null) from rfl) rfl
set_option maxRecDepth 8000 in
theorem vd_E0_589 : vd_wp d 0 589 ls (.int y :: .int x :: st) M Q = vd_wp d 0 590 ls (.int (x + y) :: st) (M) Q := vd_wp_alu (show vd_pI 0 589 = some (.iadd, 1, 0, 0, 0, .null) from rfl) rfl
set_option maxRecDepth 8000 in
theorem vd_E0_590 (h : vd_k M o = 32) (h1 : 0 ≤ z) (h2 : z < (vd_l M o : Int)) (h3 : z < 2147483648) : vd_wp d 0 590 ls (.int (vd_I z) :: .ref o :: st) M Q = vd_wp d 0 591 ls (.int (vd_i M o z.toNat) :: st) (M) Q := vd_g_ial (show vd_pI 0 590 = some (.iaload, 1, 1, 0, 0, .null) from rfl) h h1 h2 h3
set_option maxRecDepth 8000 in
theorem vd_E0_591 : vd_wp d 0 591 [.ref o, a1, a2, a3, a4, a5, a6] (st) M Q = vd_wp d 0 592 [.ref o, a1, a2, a3, a4, a5, a6] (.ref o :: st) (M) Q := vd_wp_alu (show vd_pI 0 591 = some (.aload_n 0, 1, 0, 0, 0, .null) from rfl) rfl
set_option maxRecDepth 8000 in
theorem vd_E0_591n : vd_wp d 0 591 [.null, a1, a2, a3, a4, a5, a6] (st) M Q = vd_wp d 0 592 [.null, a1, a2, a3, a4, a5, a6] (.null :: st) (M) Q := vd_wp_alu (show vd_pI 0 591 = some (.aload_n 0, 1, 0, 0, 0, .null) from rfl) rfl
set_option maxRecDepth 8000 in
theorem vd_E0_592 : vd_wp d 0 592 [a0, a1, a2, a3, .int x, a5, a6] (st) M Q = vd_wp d 0 594 [a0, a1, a2, a3, .int x, a5, a6] (.int x :: st) (M) Q := vd_wp_alu (show vd_pI 0 592 = some (.iload 4, 2, 0, 0, 0, .null) from rfl) rfl
set_option maxRecDepth 8000 in
theorem vd_E0_594 : vd_wp d 0 594 ls (st) M Q = vd_wp d 0 595 ls (.int (vd_I 2) :: st) (M) Q := vd_wp_alu (show vd_pI 0 594 = some (.iconst 2, 1, 0, 0, 0, .null) from rfl) rfl
set_option maxRecDepth 8000 in
theorem vd_E0_595 : vd_wp d 0 595 ls (.int y :: .int x :: st) M Q = vd_wp d 0 596 ls (.int (x + y) :: st) (M) Q := vd_wp_alu (show vd_pI 0 595 = some (.iadd, 1, 0, 0, 0, .null) from rfl) rfl
set_option maxRecDepth 8000 in
theorem vd_E0_596 (h : vd_k M o = 32) (h1 : 0 ≤ z) (h2 : z < (vd_l M o : Int)) (h3 : z < 2147483648) : vd_wp d 0 596 ls (.int (vd_I z) :: .ref o :: st) M Q = vd_wp d 0 597 ls (.int (vd_i M o z.toNat) :: st) (M) Q := vd_g_ial (show vd_pI 0 596 = some (.iaload, 1, 1, 0, 0, .null) from rfl) h h1 h2 h3
set_option maxRecDepth 8000 in
theorem vd_E0_597 : vd_wp d 0 597 [a0, a1, a2, .ref o, a4, a5, a6] (st) M Q = vd_wp d 0 598 [a0, a1, a2, .ref o, a4, a5, a6] (.ref o :: st) (M) Q := vd_wp_alu (show vd_pI 0 597 = some (.aload_n 3, 1, 0, 0, 0, .null) from rfl) rfl
set_option maxRecDepth 8000 in
theorem vd_E0_597n : vd_wp d 0 597 [a0, a1, a2, .null, a4, a5, a6] (st) M Q = vd_wp d 0 598 [a0, a1, a2, .null, a4, a5, a6] (.null :: st) (M) Q := vd_wp_alu (show vd_pI 0 597 = some (.aload_n 3, 1, 0, 0, 0, .null) from rfl) rfl
set_option maxRecDepth 8000 in
theorem vd_E0_598 (hc : vd_cs st ≤ 8) (hw : vd_wp d 159 0 [.ref o0, .int x1, .int x2, .ref o3, vd_U] [] M (fun M1 r => ∃ v, r = .inl v ∧ vd_wp (d + 1) 0 601 ls (v.toList ++ st) M1 Q)) : vd_wp (d + 1) 0 598 ls (.ref o3 :: .int x2 :: .int x1 :: .ref o0 :: st) M Q := vd_g_call (args := [.ref o3, .int x2, .int x1, .ref o0]) (st' := st) (nL := 5) (na := 4) (rc := 99) (show vd_pI 0 598 = some (.invokestatic 87, 3, 3, 159, 0, .null) from rfl) rfl rfl rfl hc (of_decide_eq_true rfl) rfl hw
set_option maxRecDepth 8000 in
theorem vd_E0_601 (h : vd_long a4 = false) : vd_wp d 0 601 [a0, a1, a2, a3, a4, a5, a6] (.int x :: st) M Q = vd_wp d 0 603 [a0, a1, a2, a3, a4, .int x, a6] (st) (M) Q := vd_g_ist (show vd_pI 0 601 = some (.istore 5, 2, 0, 0, 0, .null) from rfl) (vd_stS rfl h (of_decide_eq_true rfl))
set_option maxRecDepth 8000 in
theorem vd_E0_603 : vd_wp d 0 603 [a0, a1, .ref o, a3, a4, a5, a6] (st) M Q = vd_wp d 0 604 [a0, a1, .ref o, a3, a4, a5, a6] (.ref o :: st) (M) Q := vd_wp_alu (show vd_pI 0 603 = some (.aload_n 2, 1, 0, 0, 0, .null) from rfl) rfl
set_option maxRecDepth 8000 in
theorem vd_E0_603n : vd_wp d 0 603 [a0, a1, .null, a3, a4, a5, a6] (st) M Q = vd_wp d 0 604 [a0, a1, .null, a3, a4, a5, a6] (.null :: st) (M) Q := vd_wp_alu (show vd_pI 0 603 = some (.aload_n 2, 1, 0, 0, 0, .null) from rfl) rfl
set_option maxRecDepth 8000 in
theorem vd_E0_604 : vd_wp d 0 604 [.ref o, a1, a2, a3, a4, a5, a6] (st) M Q = vd_wp d 0 605 [.ref o, a1, a2, a3, a4, a5, a6] (.ref o :: st) (M) Q := vd_wp_alu (show vd_pI 0 604 = some (.aload_n 0, 1, 0, 0, 0, .null) from rfl) rfl
set_option maxRecDepth 8000 in
theorem vd_E0_604n : vd_wp d 0 604 [.null, a1, a2, a3, a4, a5, a6] (st) M Q = vd_wp d 0 605 [.null, a1, a2, a3, a4, a5, a6] (.null :: st) (M) Q := vd_wp_alu (show vd_pI 0 604 = some (.aload_n 0, 1, 0, 0, 0, .null) from rfl) rfl
set_option maxRecDepth 8000 in
theorem vd_E0_605 : vd_wp d 0 605 [a0, a1, a2, a3, .int x, a5, a6] (st) M Q = vd_wp d 0 607 [a0, a1, a2, a3, .int x, a5, a6] (.int x :: st) (M) Q := vd_wp_alu (show vd_pI 0 605 = some (.iload 4, 2, 0, 0, 0, .null) from rfl) rfl
set_option maxRecDepth 8000 in
theorem vd_E0_607 : vd_wp d 0 607 ls (st) M Q = vd_wp d 0 608 ls (.int (vd_I 1) :: st) (M) Q := vd_wp_alu (show vd_pI 0 607 = some (.iconst 1, 1, 0, 0, 0, .null) from rfl) rfl
set_option maxRecDepth 8000 in
theorem vd_E0_608 : vd_wp d 0 608 ls (.int y :: .int x :: st) M Q = vd_wp d 0 609 ls (.int (x + y) :: st) (M) Q := vd_wp_alu (show vd_pI 0 608 = some (.iadd, 1, 0, 0, 0, .null) from rfl) rfl
set_option maxRecDepth 8000 in
theorem vd_E0_609 (h : vd_k M o = 32) (h1 : 0 ≤ z) (h2 : z < (vd_l M o : Int)) (h3 : z < 2147483648) : vd_wp d 0 609 ls (.int (vd_I z) :: .ref o :: st) M Q = vd_wp d 0 610 ls (.int (vd_i M o z.toNat) :: st) (M) Q := vd_g_ial (show vd_pI 0 609 = some (.iaload, 1, 1, 0, 0, .null) from rfl) h h1 h2 h3
set_option maxRecDepth 8000 in
theorem vd_E0_610 : vd_wp d 0 610 [.ref o, a1, a2, a3, a4, a5, a6] (st) M Q = vd_wp d 0 611 [.ref o, a1, a2, a3, a4, a5, a6] (.ref o :: st) (M) Q := vd_wp_alu (show vd_pI 0 610 = some (.aload_n 0, 1, 0, 0, 0, .null) from rfl) rfl
set_option maxRecDepth 8000 in
theorem vd_E0_610n : vd_wp d 0 610 [.null, a1, a2, a3, a4, a5, a6] (st) M Q = vd_wp d 0 611 [.null, a1, a2, a3, a4, a5, a6] (.null :: st) (M) Q := vd_wp_alu (show vd_pI 0 610 = some (.aload_n 0, 1, 0, 0, 0, .null) from rfl) rfl
set_option maxRecDepth 8000 in
theorem vd_E0_611 : vd_wp d 0 611 [a0, a1, a2, a3, .int x, a5, a6] (st) M Q = vd_wp d 0 613 [a0, a1, a2, a3, .int x, a5, a6] (.int x :: st) (M) Q := vd_wp_alu (show vd_pI 0 611 = some (.iload 4, 2, 0, 0, 0, .null) from rfl) rfl
set_option maxRecDepth 8000 in
theorem vd_E0_613 : vd_wp d 0 613 ls (st) M Q = vd_wp d 0 614 ls (.int (vd_I 2) :: st) (M) Q := vd_wp_alu (show vd_pI 0 613 = some (.iconst 2, 1, 0, 0, 0, .null) from rfl) rfl
set_option maxRecDepth 8000 in
theorem vd_E0_614 : vd_wp d 0 614 ls (.int y :: .int x :: st) M Q = vd_wp d 0 615 ls (.int (x + y) :: st) (M) Q := vd_wp_alu (show vd_pI 0 614 = some (.iadd, 1, 0, 0, 0, .null) from rfl) rfl
set_option maxRecDepth 8000 in
theorem vd_E0_615 (h : vd_k M o = 32) (h1 : 0 ≤ z) (h2 : z < (vd_l M o : Int)) (h3 : z < 2147483648) : vd_wp d 0 615 ls (.int (vd_I z) :: .ref o :: st) M Q = vd_wp d 0 616 ls (.int (vd_i M o z.toNat) :: st) (M) Q := vd_g_ial (show vd_pI 0 615 = some (.iaload, 1, 1, 0, 0, .null) from rfl) h h1 h2 h3
set_option maxRecDepth 8000 in
theorem vd_E0_616 (hc : vd_cs st ≤ 8) (h : vd_k M o = 12) (hw : vd_wp d 282 0 [.ref o, .int x0, .int x1] [] M (fun M1 r => ∃ v, r = .inl v ∧ vd_wp (d + 1) 0 619 ls (v.toList ++ st) M1 Q)) : vd_wp (d + 1) 0 616 ls (.int x1 :: .int x0 :: .ref o :: st) M Q := vd_g_call (args := [.int x1, .int x0, .ref o]) (st' := st) (nL := 3) (na := 3) (rc := 12) (show vd_pI 0 616 = some (.invokevirtual 89, 3, 3, 282, 0, .null) from rfl) rfl rfl rfl hc (of_decide_eq_true rfl) (by simp [h]) hw
set_option maxRecDepth 8000 in
theorem vd_E0_619 (h : vd_long a5 = false) : vd_wp d 0 619 [a0, a1, a2, a3, a4, a5, a6] (.int x :: st) M Q = vd_wp d 0 621 [a0, a1, a2, a3, a4, a5, .int x] (st) (M) Q := vd_g_ist (show vd_pI 0 619 = some (.istore 6, 2, 0, 0, 0, .null) from rfl) (vd_stS rfl h (of_decide_eq_true rfl))
set_option maxRecDepth 8000 in
theorem vd_E0_621 : vd_wp d 0 621 [a0, a1, .ref o, a3, a4, a5, a6] (st) M Q = vd_wp d 0 622 [a0, a1, .ref o, a3, a4, a5, a6] (.ref o :: st) (M) Q := vd_wp_alu (show vd_pI 0 621 = some (.aload_n 2, 1, 0, 0, 0, .null) from rfl) rfl
set_option maxRecDepth 8000 in
theorem vd_E0_621n : vd_wp d 0 621 [a0, a1, .null, a3, a4, a5, a6] (st) M Q = vd_wp d 0 622 [a0, a1, .null, a3, a4, a5, a6] (.null :: st) (M) Q := vd_wp_alu (show vd_pI 0 621 = some (.aload_n 2, 1, 0, 0, 0, .null) from rfl) rfl
set_option maxRecDepth 8000 in
theorem vd_E0_622 (hc : vd_cs st ≤ 8) (h : vd_k M o = 12) (hw : vd_wp d 166 0 [.ref o] [] M (fun M1 r => ∃ v, r = .inl v ∧ vd_wp (d + 1) 0 625 ls (v.toList ++ st) M1 Q)) : vd_wp (d + 1) 0 622 ls (.ref o :: st) M Q := vd_g_call (args := [.ref o]) (st' := st) (nL := 1) (na := 1) (rc := 12) (show vd_pI 0 622 = some (.invokevirtual 62, 3, 3, 166, 0, .null) from rfl) rfl rfl rfl hc (of_decide_eq_true rfl) (by simp [h]) hw
set_option maxRecDepth 8000 in
theorem vd_E0_625 : vd_wp d 0 625 [a0, a1, a2, a3, a4, .int x, a6] (st) M Q = vd_wp d 0 627 [a0, a1, a2, a3, a4, .int x, a6] (.int x :: st) (M) Q := vd_wp_alu (show vd_pI 0 625 = some (.iload 5, 2, 0, 0, 0, .null) from rfl) rfl
set_option maxRecDepth 8000 in
theorem vd_E0_627 : vd_wp d 0 627 ls (.int y :: .int x :: st) M Q = if x.toInt = y.toInt then vd_wp d 0 632 ls st M Q else vd_wp d 0 630 ls st M Q := vd_g_if (show vd_pI 0 627 = some (.if_icmp .eq 5, 3, 0, 0, 0, .null) from rfl) rfl vd_c_eq
set_option maxRecDepth 8000 in
theorem vd_E0_630 : vd_wp d 0 630 ls (st) M Q = vd_wp d 0 631 ls (.int (vd_I 0) :: st) (M) Q := vd_wp_alu (show vd_pI 0 630 = some (.iconst 0, 1, 0, 0, 0, .null) from rfl) rfl
set_option maxRecDepth 8000 in
theorem vd_E0_631 (h : vd_rok (some .boolean) x = true) : vd_wp d 0 631 ls [.int x] M Q = Q M (.inl (some (.int x))) := vd_g_iret (show vd_pI 0 631 = some (.ireturn, 1, 4, 0, 0, .null) from rfl) h
set_option maxRecDepth 8000 in
theorem vd_E0_632 : vd_wp d 0 632 [a0, a1, a2, a3, a4, .int x, a6] (st) M Q = vd_wp d 0 634 [a0, a1, a2, a3, a4, .int x, a6] (.int x :: st) (M) Q := vd_wp_alu (show vd_pI 0 632 = some (.iload 5, 2, 0, 0, 0, .null) from rfl) rfl
set_option maxRecDepth 8000 in
theorem vd_E0_634 : vd_wp d 0 634 ls (.int x :: st) M Q = if x.toInt = 0 then vd_wp d 0 637 ls st M Q else vd_wp d 0 649 ls st M Q := vd_g_ifn (show vd_pI 0 634 = some (.ifCond .ne 15, 3, 0, 0, 0, .null) from rfl) rfl vd_c_ne0
set_option maxRecDepth 8000 in
theorem vd_E0_637 : vd_wp d 0 637 [a0, a1, a2, .ref o, a4, a5, a6] (st) M Q = vd_wp d 0 638 [a0, a1, a2, .ref o, a4, a5, a6] (.ref o :: st) (M) Q := vd_wp_alu (show vd_pI 0 637 = some (.aload_n 3, 1, 0, 0, 0, .null) from rfl) rfl
set_option maxRecDepth 8000 in
theorem vd_E0_637n : vd_wp d 0 637 [a0, a1, a2, .null, a4, a5, a6] (st) M Q = vd_wp d 0 638 [a0, a1, a2, .null, a4, a5, a6] (.null :: st) (M) Q := vd_wp_alu (show vd_pI 0 637 = some (.aload_n 3, 1, 0, 0, 0, .null) from rfl) rfl
set_option maxRecDepth 8000 in
theorem vd_E0_638 : vd_wp d 0 638 ls (st) M Q = vd_wp d 0 639 ls (.int (vd_I 0) :: st) (M) Q := vd_wp_alu (show vd_pI 0 638 = some (.iconst 0, 1, 0, 0, 0, .null) from rfl) rfl
set_option maxRecDepth 8000 in
theorem vd_E0_639 (h : vd_k M o = 35) (h1 : 0 ≤ z) (h2 : z < (vd_l M o : Int)) (h3 : z < 2147483648) : vd_wp d 0 639 ls (.int (vd_I z) :: .ref o :: st) M Q = vd_wp d 0 640 ls (.long (vd_j M o z.toNat) :: st) (M) Q := vd_g_lal (show vd_pI 0 639 = some (.laload, 1, 1, 0, 0, .null) from rfl) h h1 h2 h3
set_option maxRecDepth 8000 in
theorem vd_E0_640 : vd_wp d 0 640 [a0, a1, a2, a3, a4, a5, .int x] (st) M Q = vd_wp d 0 642 [a0, a1, a2, a3, a4, a5, .int x] (.int x :: st) (M) Q := vd_wp_alu (show vd_pI 0 640 = some (.iload 6, 2, 0, 0, 0, .null) from rfl) rfl
set_option maxRecDepth 8000 in
theorem vd_E0_642 : vd_wp d 0 642 ls (.int x :: st) M Q = vd_wp d 0 643 ls (.long x.toInt64 :: st) (M) Q := vd_wp_alu (show vd_pI 0 642 = some (.i2l, 1, 0, 0, 0, .null) from rfl) rfl
set_option maxRecDepth 8000 in
theorem vd_E0_643 : vd_wp d 0 643 ls (.long w :: .long u :: st) M Q = vd_wp d 0 644 ls (.int (lg_cmp u w) :: st) (M) Q := vd_wp_alu (show vd_pI 0 643 = some (.lcmp, 1, 0, 0, 0, .null) from rfl) rfl
set_option maxRecDepth 8000 in
theorem vd_E0_644 : vd_wp d 0 644 ls (.int x :: st) M Q = if x.toInt = 0 then vd_wp d 0 649 ls st M Q else vd_wp d 0 647 ls st M Q := vd_g_if (show vd_pI 0 644 = some (.ifCond .eq 5, 3, 0, 0, 0, .null) from rfl) rfl vd_c_eq0
set_option maxRecDepth 8000 in
theorem vd_E0_647 : vd_wp d 0 647 ls (st) M Q = vd_wp d 0 648 ls (.int (vd_I 0) :: st) (M) Q := vd_wp_alu (show vd_pI 0 647 = some (.iconst 0, 1, 0, 0, 0, .null) from rfl) rfl
set_option maxRecDepth 8000 in
theorem vd_E0_648 (h : vd_rok (some .boolean) x = true) : vd_wp d 0 648 ls [.int x] M Q = Q M (.inl (some (.int x))) := vd_g_iret (show vd_pI 0 648 = some (.ireturn, 1, 4, 0, 0, .null) from rfl) h
set_option maxRecDepth 8000 in
theorem vd_E0_649 : vd_wp d 0 649 ls (st) M Q = vd_wp d 0 757 ls (st) (M) Q := vd_wp_alu (show vd_pI 0 649 = some (.goto 108, 3, 0, 0, 0, .null) from rfl) rfl
set_option maxRecDepth 8000 in
theorem vd_E0_652 : vd_wp d 0 652 [a0, .ref o, a2, a3, a4, a5, a6] (st) M Q = vd_wp d 0 653 [a0, .ref o, a2, a3, a4, a5, a6] (.ref o :: st) (M) Q := vd_wp_alu (show vd_pI 0 652 = some (.aload_n 1, 1, 0, 0, 0, .null) from rfl) rfl
set_option maxRecDepth 8000 in
theorem vd_E0_652n : vd_wp d 0 652 [a0, .null, a2, a3, a4, a5, a6] (st) M Q = vd_wp d 0 653 [a0, .null, a2, a3, a4, a5, a6] (.null :: st) (M) Q := vd_wp_alu (show vd_pI 0 652 = some (.aload_n 1, 1, 0, 0, 0, .null) from rfl) rfl
set_option maxRecDepth 8000 in
theorem vd_E0_653 : vd_wp d 0 653 [.ref o, a1, a2, a3, a4, a5, a6] (st) M Q = vd_wp d 0 654 [.ref o, a1, a2, a3, a4, a5, a6] (.ref o :: st) (M) Q := vd_wp_alu (show vd_pI 0 653 = some (.aload_n 0, 1, 0, 0, 0, .null) from rfl) rfl
set_option maxRecDepth 8000 in
theorem vd_E0_653n : vd_wp d 0 653 [.null, a1, a2, a3, a4, a5, a6] (st) M Q = vd_wp d 0 654 [.null, a1, a2, a3, a4, a5, a6] (.null :: st) (M) Q := vd_wp_alu (show vd_pI 0 653 = some (.aload_n 0, 1, 0, 0, 0, .null) from rfl) rfl
set_option maxRecDepth 8000 in
theorem vd_E0_654 : vd_wp d 0 654 [a0, a1, a2, a3, .int x, a5, a6] (st) M Q = vd_wp d 0 656 [a0, a1, a2, a3, .int x, a5, a6] (.int x :: st) (M) Q := vd_wp_alu (show vd_pI 0 654 = some (.iload 4, 2, 0, 0, 0, .null) from rfl) rfl
set_option maxRecDepth 8000 in
theorem vd_E0_656 : vd_wp d 0 656 ls (st) M Q = vd_wp d 0 657 ls (.int (vd_I 1) :: st) (M) Q := vd_wp_alu (show vd_pI 0 656 = some (.iconst 1, 1, 0, 0, 0, .null) from rfl) rfl
set_option maxRecDepth 8000 in
theorem vd_E0_657 : vd_wp d 0 657 ls (.int y :: .int x :: st) M Q = vd_wp d 0 658 ls (.int (x + y) :: st) (M) Q := vd_wp_alu (show vd_pI 0 657 = some (.iadd, 1, 0, 0, 0, .null) from rfl) rfl
set_option maxRecDepth 8000 in
theorem vd_E0_658 (h : vd_k M o = 32) (h1 : 0 ≤ z) (h2 : z < (vd_l M o : Int)) (h3 : z < 2147483648) : vd_wp d 0 658 ls (.int (vd_I z) :: .ref o :: st) M Q = vd_wp d 0 659 ls (.int (vd_i M o z.toNat) :: st) (M) Q := vd_g_ial (show vd_pI 0 658 = some (.iaload, 1, 1, 0, 0, .null) from rfl) h h1 h2 h3
set_option maxRecDepth 8000 in
theorem vd_E0_659 : vd_wp d 0 659 [.ref o, a1, a2, a3, a4, a5, a6] (st) M Q = vd_wp d 0 660 [.ref o, a1, a2, a3, a4, a5, a6] (.ref o :: st) (M) Q := vd_wp_alu (show vd_pI 0 659 = some (.aload_n 0, 1, 0, 0, 0, .null) from rfl) rfl
set_option maxRecDepth 8000 in
theorem vd_E0_659n : vd_wp d 0 659 [.null, a1, a2, a3, a4, a5, a6] (st) M Q = vd_wp d 0 660 [.null, a1, a2, a3, a4, a5, a6] (.null :: st) (M) Q := vd_wp_alu (show vd_pI 0 659 = some (.aload_n 0, 1, 0, 0, 0, .null) from rfl) rfl
set_option maxRecDepth 8000 in
theorem vd_E0_660 : vd_wp d 0 660 [a0, a1, a2, a3, .int x, a5, a6] (st) M Q = vd_wp d 0 662 [a0, a1, a2, a3, .int x, a5, a6] (.int x :: st) (M) Q := vd_wp_alu (show vd_pI 0 660 = some (.iload 4, 2, 0, 0, 0, .null) from rfl) rfl
set_option maxRecDepth 8000 in
theorem vd_E0_662 : vd_wp d 0 662 ls (st) M Q = vd_wp d 0 663 ls (.int (vd_I 2) :: st) (M) Q := vd_wp_alu (show vd_pI 0 662 = some (.iconst 2, 1, 0, 0, 0, .null) from rfl) rfl
set_option maxRecDepth 8000 in
theorem vd_E0_663 : vd_wp d 0 663 ls (.int y :: .int x :: st) M Q = vd_wp d 0 664 ls (.int (x + y) :: st) (M) Q := vd_wp_alu (show vd_pI 0 663 = some (.iadd, 1, 0, 0, 0, .null) from rfl) rfl
set_option maxRecDepth 8000 in
theorem vd_E0_664 (h : vd_k M o = 32) (h1 : 0 ≤ z) (h2 : z < (vd_l M o : Int)) (h3 : z < 2147483648) : vd_wp d 0 664 ls (.int (vd_I z) :: .ref o :: st) M Q = vd_wp d 0 665 ls (.int (vd_i M o z.toNat) :: st) (M) Q := vd_g_ial (show vd_pI 0 664 = some (.iaload, 1, 1, 0, 0, .null) from rfl) h h1 h2 h3
set_option maxRecDepth 8000 in
theorem vd_E0_665 : vd_wp d 0 665 [.ref o, a1, a2, a3, a4, a5, a6] (st) M Q = vd_wp d 0 666 [.ref o, a1, a2, a3, a4, a5, a6] (.ref o :: st) (M) Q := vd_wp_alu (show vd_pI 0 665 = some (.aload_n 0, 1, 0, 0, 0, .null) from rfl) rfl
set_option maxRecDepth 8000 in
theorem vd_E0_665n : vd_wp d 0 665 [.null, a1, a2, a3, a4, a5, a6] (st) M Q = vd_wp d 0 666 [.null, a1, a2, a3, a4, a5, a6] (.null :: st) (M) Q := vd_wp_alu (show vd_pI 0 665 = some (.aload_n 0, 1, 0, 0, 0, .null) from rfl) rfl
set_option maxRecDepth 8000 in
theorem vd_E0_666 : vd_wp d 0 666 [a0, a1, a2, a3, .int x, a5, a6] (st) M Q = vd_wp d 0 668 [a0, a1, a2, a3, .int x, a5, a6] (.int x :: st) (M) Q := vd_wp_alu (show vd_pI 0 666 = some (.iload 4, 2, 0, 0, 0, .null) from rfl) rfl
set_option maxRecDepth 8000 in
theorem vd_E0_668 : vd_wp d 0 668 ls (st) M Q = vd_wp d 0 669 ls (.int (vd_I 3) :: st) (M) Q := vd_wp_alu (show vd_pI 0 668 = some (.iconst 3, 1, 0, 0, 0, .null) from rfl) rfl
set_option maxRecDepth 8000 in
theorem vd_E0_669 : vd_wp d 0 669 ls (.int y :: .int x :: st) M Q = vd_wp d 0 670 ls (.int (x + y) :: st) (M) Q := vd_wp_alu (show vd_pI 0 669 = some (.iadd, 1, 0, 0, 0, .null) from rfl) rfl
set_option maxRecDepth 8000 in
theorem vd_E0_670 (h : vd_k M o = 32) (h1 : 0 ≤ z) (h2 : z < (vd_l M o : Int)) (h3 : z < 2147483648) : vd_wp d 0 670 ls (.int (vd_I z) :: .ref o :: st) M Q = vd_wp d 0 671 ls (.int (vd_i M o z.toNat) :: st) (M) Q := vd_g_ial (show vd_pI 0 670 = some (.iaload, 1, 1, 0, 0, .null) from rfl) h h1 h2 h3
set_option maxRecDepth 8000 in
theorem vd_E0_671 : vd_wp d 0 671 [a0, a1, a2, .ref o, a4, a5, a6] (st) M Q = vd_wp d 0 672 [a0, a1, a2, .ref o, a4, a5, a6] (.ref o :: st) (M) Q := vd_wp_alu (show vd_pI 0 671 = some (.aload_n 3, 1, 0, 0, 0, .null) from rfl) rfl
set_option maxRecDepth 8000 in
theorem vd_E0_671n : vd_wp d 0 671 [a0, a1, a2, .null, a4, a5, a6] (st) M Q = vd_wp d 0 672 [a0, a1, a2, .null, a4, a5, a6] (.null :: st) (M) Q := vd_wp_alu (show vd_pI 0 671 = some (.aload_n 3, 1, 0, 0, 0, .null) from rfl) rfl
set_option maxRecDepth 8000 in
theorem vd_E0_672 (hc : vd_cs st ≤ 8) (hw : vd_wp d 161 0 [.ref o0, .int x1, .int x2, .int x3, .ref o4, vd_U] [] M (fun M1 r => ∃ v, r = .inl v ∧ vd_wp (d + 1) 0 675 ls (v.toList ++ st) M1 Q)) : vd_wp (d + 1) 0 672 ls (.ref o4 :: .int x3 :: .int x2 :: .int x1 :: .ref o0 :: st) M Q := vd_g_call (args := [.ref o4, .int x3, .int x2, .int x1, .ref o0]) (st' := st) (nL := 6) (na := 5) (rc := 99) (show vd_pI 0 672 = some (.invokestatic 90, 3, 3, 161, 0, .null) from rfl) rfl rfl rfl hc (of_decide_eq_true rfl) rfl hw
set_option maxRecDepth 8000 in
theorem vd_E0_675 (h : vd_long a4 = false) : vd_wp d 0 675 [a0, a1, a2, a3, a4, a5, a6] (.int x :: st) M Q = vd_wp d 0 677 [a0, a1, a2, a3, a4, .int x, a6] (st) (M) Q := vd_g_ist (show vd_pI 0 675 = some (.istore 5, 2, 0, 0, 0, .null) from rfl) (vd_stS rfl h (of_decide_eq_true rfl))
set_option maxRecDepth 8000 in
theorem vd_E0_677 : vd_wp d 0 677 [a0, a1, .ref o, a3, a4, a5, a6] (st) M Q = vd_wp d 0 678 [a0, a1, .ref o, a3, a4, a5, a6] (.ref o :: st) (M) Q := vd_wp_alu (show vd_pI 0 677 = some (.aload_n 2, 1, 0, 0, 0, .null) from rfl) rfl
set_option maxRecDepth 8000 in
theorem vd_E0_677n : vd_wp d 0 677 [a0, a1, .null, a3, a4, a5, a6] (st) M Q = vd_wp d 0 678 [a0, a1, .null, a3, a4, a5, a6] (.null :: st) (M) Q := vd_wp_alu (show vd_pI 0 677 = some (.aload_n 2, 1, 0, 0, 0, .null) from rfl) rfl
set_option maxRecDepth 8000 in
theorem vd_E0_678 : vd_wp d 0 678 [.ref o, a1, a2, a3, a4, a5, a6] (st) M Q = vd_wp d 0 679 [.ref o, a1, a2, a3, a4, a5, a6] (.ref o :: st) (M) Q := vd_wp_alu (show vd_pI 0 678 = some (.aload_n 0, 1, 0, 0, 0, .null) from rfl) rfl
set_option maxRecDepth 8000 in
theorem vd_E0_678n : vd_wp d 0 678 [.null, a1, a2, a3, a4, a5, a6] (st) M Q = vd_wp d 0 679 [.null, a1, a2, a3, a4, a5, a6] (.null :: st) (M) Q := vd_wp_alu (show vd_pI 0 678 = some (.aload_n 0, 1, 0, 0, 0, .null) from rfl) rfl
set_option maxRecDepth 8000 in
theorem vd_E0_679 : vd_wp d 0 679 [a0, a1, a2, a3, .int x, a5, a6] (st) M Q = vd_wp d 0 681 [a0, a1, a2, a3, .int x, a5, a6] (.int x :: st) (M) Q := vd_wp_alu (show vd_pI 0 679 = some (.iload 4, 2, 0, 0, 0, .null) from rfl) rfl
set_option maxRecDepth 8000 in
theorem vd_E0_681 : vd_wp d 0 681 ls (st) M Q = vd_wp d 0 682 ls (.int (vd_I 1) :: st) (M) Q := vd_wp_alu (show vd_pI 0 681 = some (.iconst 1, 1, 0, 0, 0, .null) from rfl) rfl
set_option maxRecDepth 8000 in
theorem vd_E0_682 : vd_wp d 0 682 ls (.int y :: .int x :: st) M Q = vd_wp d 0 683 ls (.int (x + y) :: st) (M) Q := vd_wp_alu (show vd_pI 0 682 = some (.iadd, 1, 0, 0, 0, .null) from rfl) rfl
set_option maxRecDepth 8000 in
theorem vd_E0_683 (h : vd_k M o = 32) (h1 : 0 ≤ z) (h2 : z < (vd_l M o : Int)) (h3 : z < 2147483648) : vd_wp d 0 683 ls (.int (vd_I z) :: .ref o :: st) M Q = vd_wp d 0 684 ls (.int (vd_i M o z.toNat) :: st) (M) Q := vd_g_ial (show vd_pI 0 683 = some (.iaload, 1, 1, 0, 0, .null) from rfl) h h1 h2 h3
set_option maxRecDepth 8000 in
theorem vd_E0_684 : vd_wp d 0 684 [.ref o, a1, a2, a3, a4, a5, a6] (st) M Q = vd_wp d 0 685 [.ref o, a1, a2, a3, a4, a5, a6] (.ref o :: st) (M) Q := vd_wp_alu (show vd_pI 0 684 = some (.aload_n 0, 1, 0, 0, 0, .null) from rfl) rfl
set_option maxRecDepth 8000 in
theorem vd_E0_684n : vd_wp d 0 684 [.null, a1, a2, a3, a4, a5, a6] (st) M Q = vd_wp d 0 685 [.null, a1, a2, a3, a4, a5, a6] (.null :: st) (M) Q := vd_wp_alu (show vd_pI 0 684 = some (.aload_n 0, 1, 0, 0, 0, .null) from rfl) rfl
set_option maxRecDepth 8000 in
theorem vd_E0_685 : vd_wp d 0 685 [a0, a1, a2, a3, .int x, a5, a6] (st) M Q = vd_wp d 0 687 [a0, a1, a2, a3, .int x, a5, a6] (.int x :: st) (M) Q := vd_wp_alu (show vd_pI 0 685 = some (.iload 4, 2, 0, 0, 0, .null) from rfl) rfl
set_option maxRecDepth 8000 in
theorem vd_E0_687 : vd_wp d 0 687 ls (st) M Q = vd_wp d 0 688 ls (.int (vd_I 2) :: st) (M) Q := vd_wp_alu (show vd_pI 0 687 = some (.iconst 2, 1, 0, 0, 0, .null) from rfl) rfl
set_option maxRecDepth 8000 in
theorem vd_E0_688 : vd_wp d 0 688 ls (.int y :: .int x :: st) M Q = vd_wp d 0 689 ls (.int (x + y) :: st) (M) Q := vd_wp_alu (show vd_pI 0 688 = some (.iadd, 1, 0, 0, 0, .null) from rfl) rfl
set_option maxRecDepth 8000 in
theorem vd_E0_689 (h : vd_k M o = 32) (h1 : 0 ≤ z) (h2 : z < (vd_l M o : Int)) (h3 : z < 2147483648) : vd_wp d 0 689 ls (.int (vd_I z) :: .ref o :: st) M Q = vd_wp d 0 690 ls (.int (vd_i M o z.toNat) :: st) (M) Q := vd_g_ial (show vd_pI 0 689 = some (.iaload, 1, 1, 0, 0, .null) from rfl) h h1 h2 h3
set_option maxRecDepth 8000 in
theorem vd_E0_690 : vd_wp d 0 690 [.ref o, a1, a2, a3, a4, a5, a6] (st) M Q = vd_wp d 0 691 [.ref o, a1, a2, a3, a4, a5, a6] (.ref o :: st) (M) Q := vd_wp_alu (show vd_pI 0 690 = some (.aload_n 0, 1, 0, 0, 0, .null) from rfl) rfl
set_option maxRecDepth 8000 in
theorem vd_E0_690n : vd_wp d 0 690 [.null, a1, a2, a3, a4, a5, a6] (st) M Q = vd_wp d 0 691 [.null, a1, a2, a3, a4, a5, a6] (.null :: st) (M) Q := vd_wp_alu (show vd_pI 0 690 = some (.aload_n 0, 1, 0, 0, 0, .null) from rfl) rfl
set_option maxRecDepth 8000 in
theorem vd_E0_691 : vd_wp d 0 691 [a0, a1, a2, a3, .int x, a5, a6] (st) M Q = vd_wp d 0 693 [a0, a1, a2, a3, .int x, a5, a6] (.int x :: st) (M) Q := vd_wp_alu (show vd_pI 0 691 = some (.iload 4, 2, 0, 0, 0, .null) from rfl) rfl
set_option maxRecDepth 8000 in
theorem vd_E0_693 : vd_wp d 0 693 ls (st) M Q = vd_wp d 0 694 ls (.int (vd_I 3) :: st) (M) Q := vd_wp_alu (show vd_pI 0 693 = some (.iconst 3, 1, 0, 0, 0, .null) from rfl) rfl
set_option maxRecDepth 8000 in
theorem vd_E0_694 : vd_wp d 0 694 ls (.int y :: .int x :: st) M Q = vd_wp d 0 695 ls (.int (x + y) :: st) (M) Q := vd_wp_alu (show vd_pI 0 694 = some (.iadd, 1, 0, 0, 0, .null) from rfl) rfl
set_option maxRecDepth 8000 in
theorem vd_E0_695 (h : vd_k M o = 32) (h1 : 0 ≤ z) (h2 : z < (vd_l M o : Int)) (h3 : z < 2147483648) : vd_wp d 0 695 ls (.int (vd_I z) :: .ref o :: st) M Q = vd_wp d 0 696 ls (.int (vd_i M o z.toNat) :: st) (M) Q := vd_g_ial (show vd_pI 0 695 = some (.iaload, 1, 1, 0, 0, .null) from rfl) h h1 h2 h3
set_option maxRecDepth 8000 in
theorem vd_E0_696 (hc : vd_cs st ≤ 8) (h : vd_k M o = 12) (hw : vd_wp d 283 0 [.ref o, .int x0, .int x1, .int x2, vd_U] [] M (fun M1 r => ∃ v, r = .inl v ∧ vd_wp (d + 1) 0 699 ls (v.toList ++ st) M1 Q)) : vd_wp (d + 1) 0 696 ls (.int x2 :: .int x1 :: .int x0 :: .ref o :: st) M Q := vd_g_call (args := [.int x2, .int x1, .int x0, .ref o]) (st' := st) (nL := 5) (na := 4) (rc := 12) (show vd_pI 0 696 = some (.invokevirtual 93, 3, 3, 283, 0, .null) from rfl) rfl rfl rfl hc (of_decide_eq_true rfl) (by simp [h]) hw
set_option maxRecDepth 8000 in
theorem vd_E0_699 (h : vd_long a5 = false) : vd_wp d 0 699 [a0, a1, a2, a3, a4, a5, a6] (.int x :: st) M Q = vd_wp d 0 701 [a0, a1, a2, a3, a4, a5, .int x] (st) (M) Q := vd_g_ist (show vd_pI 0 699 = some (.istore 6, 2, 0, 0, 0, .null) from rfl) (vd_stS rfl h (of_decide_eq_true rfl))
set_option maxRecDepth 8000 in
theorem vd_E0_701 : vd_wp d 0 701 [a0, a1, .ref o, a3, a4, a5, a6] (st) M Q = vd_wp d 0 702 [a0, a1, .ref o, a3, a4, a5, a6] (.ref o :: st) (M) Q := vd_wp_alu (show vd_pI 0 701 = some (.aload_n 2, 1, 0, 0, 0, .null) from rfl) rfl
set_option maxRecDepth 8000 in
theorem vd_E0_701n : vd_wp d 0 701 [a0, a1, .null, a3, a4, a5, a6] (st) M Q = vd_wp d 0 702 [a0, a1, .null, a3, a4, a5, a6] (.null :: st) (M) Q := vd_wp_alu (show vd_pI 0 701 = some (.aload_n 2, 1, 0, 0, 0, .null) from rfl) rfl
set_option maxRecDepth 8000 in
theorem vd_E0_702 (hc : vd_cs st ≤ 8) (h : vd_k M o = 12) (hw : vd_wp d 166 0 [.ref o] [] M (fun M1 r => ∃ v, r = .inl v ∧ vd_wp (d + 1) 0 705 ls (v.toList ++ st) M1 Q)) : vd_wp (d + 1) 0 702 ls (.ref o :: st) M Q := vd_g_call (args := [.ref o]) (st' := st) (nL := 1) (na := 1) (rc := 12) (show vd_pI 0 702 = some (.invokevirtual 62, 3, 3, 166, 0, .null) from rfl) rfl rfl rfl hc (of_decide_eq_true rfl) (by simp [h]) hw
set_option maxRecDepth 8000 in
theorem vd_E0_705 : vd_wp d 0 705 [a0, a1, a2, a3, a4, .int x, a6] (st) M Q = vd_wp d 0 707 [a0, a1, a2, a3, a4, .int x, a6] (.int x :: st) (M) Q := vd_wp_alu (show vd_pI 0 705 = some (.iload 5, 2, 0, 0, 0, .null) from rfl) rfl
set_option maxRecDepth 8000 in
theorem vd_E0_707 : vd_wp d 0 707 ls (.int y :: .int x :: st) M Q = if x.toInt = y.toInt then vd_wp d 0 712 ls st M Q else vd_wp d 0 710 ls st M Q := vd_g_if (show vd_pI 0 707 = some (.if_icmp .eq 5, 3, 0, 0, 0, .null) from rfl) rfl vd_c_eq
set_option maxRecDepth 8000 in
theorem vd_E0_710 : vd_wp d 0 710 ls (st) M Q = vd_wp d 0 711 ls (.int (vd_I 0) :: st) (M) Q := vd_wp_alu (show vd_pI 0 710 = some (.iconst 0, 1, 0, 0, 0, .null) from rfl) rfl
set_option maxRecDepth 8000 in
theorem vd_E0_711 (h : vd_rok (some .boolean) x = true) : vd_wp d 0 711 ls [.int x] M Q = Q M (.inl (some (.int x))) := vd_g_iret (show vd_pI 0 711 = some (.ireturn, 1, 4, 0, 0, .null) from rfl) h
set_option maxRecDepth 8000 in
theorem vd_E0_712 : vd_wp d 0 712 [a0, a1, a2, a3, a4, .int x, a6] (st) M Q = vd_wp d 0 714 [a0, a1, a2, a3, a4, .int x, a6] (.int x :: st) (M) Q := vd_wp_alu (show vd_pI 0 712 = some (.iload 5, 2, 0, 0, 0, .null) from rfl) rfl
set_option maxRecDepth 8000 in
theorem vd_E0_714 : vd_wp d 0 714 ls (.int x :: st) M Q = if x.toInt = 0 then vd_wp d 0 717 ls st M Q else vd_wp d 0 729 ls st M Q := vd_g_ifn (show vd_pI 0 714 = some (.ifCond .ne 15, 3, 0, 0, 0, .null) from rfl) rfl vd_c_ne0
set_option maxRecDepth 8000 in
theorem vd_E0_717 : vd_wp d 0 717 [a0, a1, a2, .ref o, a4, a5, a6] (st) M Q = vd_wp d 0 718 [a0, a1, a2, .ref o, a4, a5, a6] (.ref o :: st) (M) Q := vd_wp_alu (show vd_pI 0 717 = some (.aload_n 3, 1, 0, 0, 0, .null) from rfl) rfl
set_option maxRecDepth 8000 in
theorem vd_E0_717n : vd_wp d 0 717 [a0, a1, a2, .null, a4, a5, a6] (st) M Q = vd_wp d 0 718 [a0, a1, a2, .null, a4, a5, a6] (.null :: st) (M) Q := vd_wp_alu (show vd_pI 0 717 = some (.aload_n 3, 1, 0, 0, 0, .null) from rfl) rfl
set_option maxRecDepth 8000 in
theorem vd_E0_718 : vd_wp d 0 718 ls (st) M Q = vd_wp d 0 719 ls (.int (vd_I 0) :: st) (M) Q := vd_wp_alu (show vd_pI 0 718 = some (.iconst 0, 1, 0, 0, 0, .null) from rfl) rfl
set_option maxRecDepth 8000 in
theorem vd_E0_719 (h : vd_k M o = 35) (h1 : 0 ≤ z) (h2 : z < (vd_l M o : Int)) (h3 : z < 2147483648) : vd_wp d 0 719 ls (.int (vd_I z) :: .ref o :: st) M Q = vd_wp d 0 720 ls (.long (vd_j M o z.toNat) :: st) (M) Q := vd_g_lal (show vd_pI 0 719 = some (.laload, 1, 1, 0, 0, .null) from rfl) h h1 h2 h3
set_option maxRecDepth 8000 in
theorem vd_E0_720 : vd_wp d 0 720 [a0, a1, a2, a3, a4, a5, .int x] (st) M Q = vd_wp d 0 722 [a0, a1, a2, a3, a4, a5, .int x] (.int x :: st) (M) Q := vd_wp_alu (show vd_pI 0 720 = some (.iload 6, 2, 0, 0, 0, .null) from rfl) rfl
set_option maxRecDepth 8000 in
theorem vd_E0_722 : vd_wp d 0 722 ls (.int x :: st) M Q = vd_wp d 0 723 ls (.long x.toInt64 :: st) (M) Q := vd_wp_alu (show vd_pI 0 722 = some (.i2l, 1, 0, 0, 0, .null) from rfl) rfl
set_option maxRecDepth 8000 in
theorem vd_E0_723 : vd_wp d 0 723 ls (.long w :: .long u :: st) M Q = vd_wp d 0 724 ls (.int (lg_cmp u w) :: st) (M) Q := vd_wp_alu (show vd_pI 0 723 = some (.lcmp, 1, 0, 0, 0, .null) from rfl) rfl
set_option maxRecDepth 8000 in
theorem vd_E0_724 : vd_wp d 0 724 ls (.int x :: st) M Q = if x.toInt = 0 then vd_wp d 0 729 ls st M Q else vd_wp d 0 727 ls st M Q := vd_g_if (show vd_pI 0 724 = some (.ifCond .eq 5, 3, 0, 0, 0, .null) from rfl) rfl vd_c_eq0
set_option maxRecDepth 8000 in
theorem vd_E0_727 : vd_wp d 0 727 ls (st) M Q = vd_wp d 0 728 ls (.int (vd_I 0) :: st) (M) Q := vd_wp_alu (show vd_pI 0 727 = some (.iconst 0, 1, 0, 0, 0, .null) from rfl) rfl
set_option maxRecDepth 8000 in
theorem vd_E0_728 (h : vd_rok (some .boolean) x = true) : vd_wp d 0 728 ls [.int x] M Q = Q M (.inl (some (.int x))) := vd_g_iret (show vd_pI 0 728 = some (.ireturn, 1, 4, 0, 0, .null) from rfl) h
set_option maxRecDepth 8000 in
theorem vd_E0_729 : vd_wp d 0 729 ls (st) M Q = vd_wp d 0 757 ls (st) (M) Q := vd_wp_alu (show vd_pI 0 729 = some (.goto 28, 3, 0, 0, 0, .null) from rfl) rfl
set_option maxRecDepth 8000 in
theorem vd_E0_732 : vd_wp d 0 732 [a0, .ref o, a2, a3, a4, a5, a6] (st) M Q = vd_wp d 0 733 [a0, .ref o, a2, a3, a4, a5, a6] (.ref o :: st) (M) Q := vd_wp_alu (show vd_pI 0 732 = some (.aload_n 1, 1, 0, 0, 0, .null) from rfl) rfl
set_option maxRecDepth 8000 in
theorem vd_E0_732n : vd_wp d 0 732 [a0, .null, a2, a3, a4, a5, a6] (st) M Q = vd_wp d 0 733 [a0, .null, a2, a3, a4, a5, a6] (.null :: st) (M) Q := vd_wp_alu (show vd_pI 0 732 = some (.aload_n 1, 1, 0, 0, 0, .null) from rfl) rfl
set_option maxRecDepth 8000 in
theorem vd_E0_733 : vd_wp d 0 733 [.ref o, a1, a2, a3, a4, a5, a6] (st) M Q = vd_wp d 0 734 [.ref o, a1, a2, a3, a4, a5, a6] (.ref o :: st) (M) Q := vd_wp_alu (show vd_pI 0 733 = some (.aload_n 0, 1, 0, 0, 0, .null) from rfl) rfl
set_option maxRecDepth 8000 in
theorem vd_E0_733n : vd_wp d 0 733 [.null, a1, a2, a3, a4, a5, a6] (st) M Q = vd_wp d 0 734 [.null, a1, a2, a3, a4, a5, a6] (.null :: st) (M) Q := vd_wp_alu (show vd_pI 0 733 = some (.aload_n 0, 1, 0, 0, 0, .null) from rfl) rfl
set_option maxRecDepth 8000 in
theorem vd_E0_734 : vd_wp d 0 734 [a0, a1, a2, a3, .int x, a5, a6] (st) M Q = vd_wp d 0 736 [a0, a1, a2, a3, .int x, a5, a6] (.int x :: st) (M) Q := vd_wp_alu (show vd_pI 0 734 = some (.iload 4, 2, 0, 0, 0, .null) from rfl) rfl
set_option maxRecDepth 8000 in
theorem vd_E0_736 : vd_wp d 0 736 ls (st) M Q = vd_wp d 0 737 ls (.int (vd_I 1) :: st) (M) Q := vd_wp_alu (show vd_pI 0 736 = some (.iconst 1, 1, 0, 0, 0, .null) from rfl) rfl
set_option maxRecDepth 8000 in
theorem vd_E0_737 : vd_wp d 0 737 ls (.int y :: .int x :: st) M Q = vd_wp d 0 738 ls (.int (x + y) :: st) (M) Q := vd_wp_alu (show vd_pI 0 737 = some (.iadd, 1, 0, 0, 0, .null) from rfl) rfl
set_option maxRecDepth 8000 in
theorem vd_E0_738 (h : vd_k M o = 32) (h1 : 0 ≤ z) (h2 : z < (vd_l M o : Int)) (h3 : z < 2147483648) : vd_wp d 0 738 ls (.int (vd_I z) :: .ref o :: st) M Q = vd_wp d 0 739 ls (.int (vd_i M o z.toNat) :: st) (M) Q := vd_g_ial (show vd_pI 0 738 = some (.iaload, 1, 1, 0, 0, .null) from rfl) h h1 h2 h3
set_option maxRecDepth 8000 in
theorem vd_E0_739 (hc : vd_cs st ≤ 8) (h : vd_k M o = 0) (hw : vd_wp d 15 0 [.ref o, .int x0] [] M (fun M1 r => ∃ v, r = .inl v ∧ vd_wp (d + 1) 0 742 ls (v.toList ++ st) M1 Q)) : vd_wp (d + 1) 0 739 ls (.int x0 :: .ref o :: st) M Q := vd_g_call (args := [.int x0, .ref o]) (st' := st) (nL := 2) (na := 2) (rc := 0) (show vd_pI 0 739 = some (.invokevirtual 94, 3, 3, 15, 0, .null) from rfl) rfl rfl rfl hc (of_decide_eq_true rfl) (by simp [h]) hw
set_option maxRecDepth 8000 in
theorem vd_E0_742 : vd_wp d 0 742 [a0, a1, .ref o, a3, a4, a5, a6] (st) M Q = vd_wp d 0 743 [a0, a1, .ref o, a3, a4, a5, a6] (.ref o :: st) (M) Q := vd_wp_alu (show vd_pI 0 742 = some (.aload_n 2, 1, 0, 0, 0, .null) from rfl) rfl
set_option maxRecDepth 8000 in
theorem vd_E0_742n : vd_wp d 0 742 [a0, a1, .null, a3, a4, a5, a6] (st) M Q = vd_wp d 0 743 [a0, a1, .null, a3, a4, a5, a6] (.null :: st) (M) Q := vd_wp_alu (show vd_pI 0 742 = some (.aload_n 2, 1, 0, 0, 0, .null) from rfl) rfl
set_option maxRecDepth 8000 in
theorem vd_E0_743 : vd_wp d 0 743 [.ref o, a1, a2, a3, a4, a5, a6] (st) M Q = vd_wp d 0 744 [.ref o, a1, a2, a3, a4, a5, a6] (.ref o :: st) (M) Q := vd_wp_alu (show vd_pI 0 743 = some (.aload_n 0, 1, 0, 0, 0, .null) from rfl) rfl
set_option maxRecDepth 8000 in
theorem vd_E0_743n : vd_wp d 0 743 [.null, a1, a2, a3, a4, a5, a6] (st) M Q = vd_wp d 0 744 [.null, a1, a2, a3, a4, a5, a6] (.null :: st) (M) Q := vd_wp_alu (show vd_pI 0 743 = some (.aload_n 0, 1, 0, 0, 0, .null) from rfl) rfl
set_option maxRecDepth 8000 in
theorem vd_E0_744 : vd_wp d 0 744 [a0, a1, a2, a3, .int x, a5, a6] (st) M Q = vd_wp d 0 746 [a0, a1, a2, a3, .int x, a5, a6] (.int x :: st) (M) Q := vd_wp_alu (show vd_pI 0 744 = some (.iload 4, 2, 0, 0, 0, .null) from rfl) rfl
set_option maxRecDepth 8000 in
theorem vd_E0_746 : vd_wp d 0 746 ls (st) M Q = vd_wp d 0 747 ls (.int (vd_I 1) :: st) (M) Q := vd_wp_alu (show vd_pI 0 746 = some (.iconst 1, 1, 0, 0, 0, .null) from rfl) rfl
set_option maxRecDepth 8000 in
theorem vd_E0_747 : vd_wp d 0 747 ls (.int y :: .int x :: st) M Q = vd_wp d 0 748 ls (.int (x + y) :: st) (M) Q := vd_wp_alu (show vd_pI 0 747 = some (.iadd, 1, 0, 0, 0, .null) from rfl) rfl
set_option maxRecDepth 8000 in
theorem vd_E0_748 (h : vd_k M o = 32) (h1 : 0 ≤ z) (h2 : z < (vd_l M o : Int)) (h3 : z < 2147483648) : vd_wp d 0 748 ls (.int (vd_I z) :: .ref o :: st) M Q = vd_wp d 0 749 ls (.int (vd_i M o z.toNat) :: st) (M) Q := vd_g_ial (show vd_pI 0 748 = some (.iaload, 1, 1, 0, 0, .null) from rfl) h h1 h2 h3
set_option maxRecDepth 8000 in
theorem vd_E0_749 (hc : vd_cs st ≤ 8) (h : vd_k M o = 12) (hw : vd_wp d 285 0 [.ref o, .int x0] [] M (fun M1 r => ∃ v, r = .inl v ∧ vd_wp (d + 1) 0 752 ls (v.toList ++ st) M1 Q)) : vd_wp (d + 1) 0 749 ls (.int x0 :: .ref o :: st) M Q := vd_g_call (args := [.int x0, .ref o]) (st' := st) (nL := 2) (na := 2) (rc := 12) (show vd_pI 0 749 = some (.invokevirtual 97, 3, 3, 285, 0, .null) from rfl) rfl rfl rfl hc (of_decide_eq_true rfl) (by simp [h]) hw
set_option maxRecDepth 8000 in
theorem vd_E0_752 : vd_wp d 0 752 ls (.int y :: .int x :: st) M Q = if x.toInt = y.toInt then vd_wp d 0 757 ls st M Q else vd_wp d 0 755 ls st M Q := vd_g_if (show vd_pI 0 752 = some (.if_icmp .eq 5, 3, 0, 0, 0, .null) from rfl) rfl vd_c_eq
set_option maxRecDepth 8000 in
theorem vd_E0_755 : vd_wp d 0 755 ls (st) M Q = vd_wp d 0 756 ls (.int (vd_I 0) :: st) (M) Q := vd_wp_alu (show vd_pI 0 755 = some (.iconst 0, 1, 0, 0, 0, .null) from rfl) rfl
set_option maxRecDepth 8000 in
theorem vd_E0_756 (h : vd_rok (some .boolean) x = true) : vd_wp d 0 756 ls [.int x] M Q = Q M (.inl (some (.int x))) := vd_g_iret (show vd_pI 0 756 = some (.ireturn, 1, 4, 0, 0, .null) from rfl) h
set_option maxRecDepth 8000 in
theorem vd_E0_757 (h : vd_long a3 = false) : vd_wp d 0 757 [a0, a1, a2, a3, .int x, a5, a6] (st) M Q = vd_wp d 0 760 [a0, a1, a2, a3, .int (x + vd_I 6), a5, a6] (st) (M) Q := vd_g_inc (show vd_pI 0 757 = some (.iinc 4 6, 3, 0, 0, 0, .null) from rfl) rfl (vd_stS rfl h (of_decide_eq_true rfl))
set_option maxRecDepth 8000 in
theorem vd_E0_760 : vd_wp d 0 760 ls (st) M Q = vd_wp d 0 23 ls (st) (M) Q := vd_wp_alu (show vd_pI 0 760 = some (.goto (-737), 3, 0, 0, 0, .null) from rfl) rfl
set_option maxRecDepth 8000 in
theorem vd_E0_763 : vd_wp d 0 763 ls (st) M Q = vd_wp d 0 764 ls (.int (vd_I 1) :: st) (M) Q := vd_wp_alu (show vd_pI 0 763 = some (.iconst 1, 1, 0, 0, 0, .null) from rfl) rfl
set_option maxRecDepth 8000 in
theorem vd_E0_764 (h : vd_rok (some .boolean) x = true) : vd_wp d 0 764 ls [.int x] M Q = Q M (.inl (some (.int x))) := vd_g_iret (show vd_pI 0 764 = some (.ireturn, 1, 4, 0, 0, .null) from rfl) h
end VDE_e7
