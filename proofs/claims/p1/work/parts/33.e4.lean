/-! ===== rules of the entries: e4 ===== -/
section VDE_e4
variable {d : Nat} {ls st : List Value} {M : vd_M} {Q : vd_M → (Option Value ⊕ Nat) → Prop} {x y : Int32} {o v : Nat} {z : Int} {u w : Int64} {s0 s1 s2 : Value}
variable {a0 a1 a2 a3 a4 a5 a6 a7 a8 a9 a10 a11 a12 a13 a14 : Value} {x0 x1 x2 x3 x4 x5 x6 x7 : Int32} {o0 o1 o2 o3 o4 o5 o6 o7 : Nat}
/-! 163: VideoDecoderModel.<init>()V -/
theorem vd_E163_0 : vd_wp d 163 0 [.ref o, a1, a2] (st) M Q = vd_wp d 163 1 [.ref o, a1, a2] (.ref o :: st) (M) Q := vd_wp_alu (show vd_pI 163 0 = some (.aload_n 0, 1, 0, 0, 0, .null) from rfl) rfl
theorem vd_E163_0n : vd_wp d 163 0 [.null, a1, a2] (st) M Q = vd_wp d 163 1 [.null, a1, a2] (.null :: st) (M) Q := vd_wp_alu (show vd_pI 163 0 = some (.aload_n 0, 1, 0, 0, 0, .null) from rfl) rfl
theorem vd_E163_1 (hc : vd_cs st ≤ 8) : vd_wp d 163 1 ls (.ref o :: st) M Q = vd_wp d 163 4 ls (st) (M) Q := vd_wp_ob (show vd_pI 163 1 = some (.invokespecial 7, 3, 5, 0, 0, .null) from rfl) hc
theorem vd_E163_4 : vd_wp d 163 4 [.ref o, a1, a2] (st) M Q = vd_wp d 163 5 [.ref o, a1, a2] (.ref o :: st) (M) Q := vd_wp_alu (show vd_pI 163 4 = some (.aload_n 0, 1, 0, 0, 0, .null) from rfl) rfl
theorem vd_E163_4n : vd_wp d 163 4 [.null, a1, a2] (st) M Q = vd_wp d 163 5 [.null, a1, a2] (.null :: st) (M) Q := vd_wp_alu (show vd_pI 163 4 = some (.aload_n 0, 1, 0, 0, 0, .null) from rfl) rfl
theorem vd_E163_5 : vd_wp d 163 5 ls (st) M Q = vd_wp d 163 7 ls (.int (vd_I 65536) :: st) (M) Q := vd_g_con (show vd_pI 163 5 = some (.ldc 13, 2, 0, 0, 0, .int 65536) from rfl) rfl (by decide)
theorem vd_E163_7 (h1 : 0 ≤ z) (h2 : z ≤ 65536) : vd_wp d 163 7 ls (.int (vd_I z) :: st) M Q = vd_wp d 163 9 ls (.ref (vd_n M) :: st) (vd_new M 33 z.toNat z.toNat) Q := vd_g_nar (show vd_pI 163 7 = some (.newarray .byte, 2, 2, 0, 0, .null) from rfl) (by decide) h1 h2
theorem vd_E163_9 (h : vd_k M o = 12) : vd_wp d 163 9 ls (.ref v :: .ref o :: st) M Q = vd_wp d 163 12 ls (st) (vd_sr M o 0 (some v)) Q := vd_g_putR (show vd_pI 163 9 = some (.putfield 14, 3, 1, 12, 0, .null) from rfl) rfl h
theorem vd_E163_9n (h : vd_k M o = 12) : vd_wp d 163 9 ls (.null :: .ref o :: st) M Q = vd_wp d 163 12 ls (st) (vd_sr M o 0 none) Q := vd_g_putN (show vd_pI 163 9 = some (.putfield 14, 3, 1, 12, 0, .null) from rfl) rfl h
theorem vd_E163_12 : vd_wp d 163 12 [.ref o, a1, a2] (st) M Q = vd_wp d 163 13 [.ref o, a1, a2] (.ref o :: st) (M) Q := vd_wp_alu (show vd_pI 163 12 = some (.aload_n 0, 1, 0, 0, 0, .null) from rfl) rfl
theorem vd_E163_12n : vd_wp d 163 12 [.null, a1, a2] (st) M Q = vd_wp d 163 13 [.null, a1, a2] (.null :: st) (M) Q := vd_wp_alu (show vd_pI 163 12 = some (.aload_n 0, 1, 0, 0, 0, .null) from rfl) rfl
theorem vd_E163_13 : vd_wp d 163 13 ls (st) M Q = vd_wp d 163 14 ls (.int (vd_I 0) :: st) (M) Q := vd_wp_alu (show vd_pI 163 13 = some (.iconst 0, 1, 0, 0, 0, .null) from rfl) rfl
theorem vd_E163_14 (h : vd_k M o = 12) : vd_wp d 163 14 ls (.int x :: .ref o :: st) M Q = vd_wp d 163 17 ls (st) (vd_si M o 1 x) Q := vd_g_putI (show vd_pI 163 14 = some (.putfield 18, 3, 1, 12, 1, .null) from rfl) rfl h
theorem vd_E163_17 : vd_wp d 163 17 [.ref o, a1, a2] (st) M Q = vd_wp d 163 18 [.ref o, a1, a2] (.ref o :: st) (M) Q := vd_wp_alu (show vd_pI 163 17 = some (.aload_n 0, 1, 0, 0, 0, .null) from rfl) rfl
theorem vd_E163_17n : vd_wp d 163 17 [.null, a1, a2] (st) M Q = vd_wp d 163 18 [.null, a1, a2] (.null :: st) (M) Q := vd_wp_alu (show vd_pI 163 17 = some (.aload_n 0, 1, 0, 0, 0, .null) from rfl) rfl
theorem vd_E163_18 : vd_wp d 163 18 ls (st) M Q = vd_wp d 163 19 ls (.int (vd_I 0) :: st) (M) Q := vd_wp_alu (show vd_pI 163 18 = some (.iconst 0, 1, 0, 0, 0, .null) from rfl) rfl
theorem vd_E163_19 (h : vd_k M o = 12) : vd_wp d 163 19 ls (.int x :: .ref o :: st) M Q = vd_wp d 163 22 ls (st) (vd_si M o 2 x) Q := vd_g_putI (show vd_pI 163 19 = some (.putfield 22, 3, 1, 12, 2, .null) from rfl) rfl h
theorem vd_E163_22 : vd_wp d 163 22 [.ref o, a1, a2] (st) M Q = vd_wp d 163 23 [.ref o, a1, a2] (.ref o :: st) (M) Q := vd_wp_alu (show vd_pI 163 22 = some (.aload_n 0, 1, 0, 0, 0, .null) from rfl) rfl
theorem vd_E163_22n : vd_wp d 163 22 [.null, a1, a2] (st) M Q = vd_wp d 163 23 [.null, a1, a2] (.null :: st) (M) Q := vd_wp_alu (show vd_pI 163 22 = some (.aload_n 0, 1, 0, 0, 0, .null) from rfl) rfl
theorem vd_E163_23 : vd_wp d 163 23 ls (st) M Q = vd_wp d 163 24 ls (.int (vd_I 0) :: st) (M) Q := vd_wp_alu (show vd_pI 163 23 = some (.iconst 0, 1, 0, 0, 0, .null) from rfl) rfl
theorem vd_E163_24 (h : vd_k M o = 12) : vd_wp d 163 24 ls (.int x :: .ref o :: st) M Q = vd_wp d 163 27 ls (st) (vd_si M o 3 x) Q := vd_g_putI (show vd_pI 163 24 = some (.putfield 25, 3, 1, 12, 3, .null) from rfl) rfl h
theorem vd_E163_27 : vd_wp d 163 27 [.ref o, a1, a2] (st) M Q = vd_wp d 163 28 [.ref o, a1, a2] (.ref o :: st) (M) Q := vd_wp_alu (show vd_pI 163 27 = some (.aload_n 0, 1, 0, 0, 0, .null) from rfl) rfl
theorem vd_E163_27n : vd_wp d 163 27 [.null, a1, a2] (st) M Q = vd_wp d 163 28 [.null, a1, a2] (.null :: st) (M) Q := vd_wp_alu (show vd_pI 163 27 = some (.aload_n 0, 1, 0, 0, 0, .null) from rfl) rfl
theorem vd_E163_28 : vd_wp d 163 28 ls (st) M Q = vd_wp d 163 29 ls (.int (vd_I (-1)) :: st) (M) Q := vd_wp_alu (show vd_pI 163 28 = some (.iconst (-1), 1, 0, 0, 0, .null) from rfl) rfl
theorem vd_E163_29 (h : vd_k M o = 12) : vd_wp d 163 29 ls (.int x :: .ref o :: st) M Q = vd_wp d 163 32 ls (st) (vd_si M o 4 x) Q := vd_g_putI (show vd_pI 163 29 = some (.putfield 28, 3, 1, 12, 4, .null) from rfl) rfl h
theorem vd_E163_32 : vd_wp d 163 32 [.ref o, a1, a2] (st) M Q = vd_wp d 163 33 [.ref o, a1, a2] (.ref o :: st) (M) Q := vd_wp_alu (show vd_pI 163 32 = some (.aload_n 0, 1, 0, 0, 0, .null) from rfl) rfl
theorem vd_E163_32n : vd_wp d 163 32 [.null, a1, a2] (st) M Q = vd_wp d 163 33 [.null, a1, a2] (.null :: st) (M) Q := vd_wp_alu (show vd_pI 163 32 = some (.aload_n 0, 1, 0, 0, 0, .null) from rfl) rfl
theorem vd_E163_33 : vd_wp d 163 33 ls (st) M Q = vd_wp d 163 35 ls (.int (vd_I 11) :: st) (M) Q := vd_g_con (show vd_pI 163 33 = some (.bipush 11, 2, 0, 0, 0, .null) from rfl) rfl (by decide)
theorem vd_E163_35 (h1 : 0 ≤ z) (h2 : z ≤ 65536) : vd_wp d 163 35 ls (.int (vd_I z) :: st) M Q = vd_wp d 163 38 ls (.ref (vd_n M) :: st) (vd_new M 37 z.toNat z.toNat) Q := vd_g_anr (show vd_pI 163 35 = some (.anewarray 31, 3, 2, 37, 1867, .null) from rfl) (by decide) h1 h2
theorem vd_E163_38 (h : vd_k M o = 12) : vd_wp d 163 38 ls (.ref v :: .ref o :: st) M Q = vd_wp d 163 41 ls (st) (vd_sr M o 5 (some v)) Q := vd_g_putR (show vd_pI 163 38 = some (.putfield 33, 3, 1, 12, 5, .null) from rfl) rfl h
theorem vd_E163_38n (h : vd_k M o = 12) : vd_wp d 163 38 ls (.null :: .ref o :: st) M Q = vd_wp d 163 41 ls (st) (vd_sr M o 5 none) Q := vd_g_putN (show vd_pI 163 38 = some (.putfield 33, 3, 1, 12, 5, .null) from rfl) rfl h
theorem vd_E163_41 : vd_wp d 163 41 [.ref o, a1, a2] (st) M Q = vd_wp d 163 42 [.ref o, a1, a2] (.ref o :: st) (M) Q := vd_wp_alu (show vd_pI 163 41 = some (.aload_n 0, 1, 0, 0, 0, .null) from rfl) rfl
theorem vd_E163_41n : vd_wp d 163 41 [.null, a1, a2] (st) M Q = vd_wp d 163 42 [.null, a1, a2] (.null :: st) (M) Q := vd_wp_alu (show vd_pI 163 41 = some (.aload_n 0, 1, 0, 0, 0, .null) from rfl) rfl
theorem vd_E163_42 : vd_wp d 163 42 ls (st) M Q = vd_wp d 163 44 ls (.int (vd_I 8) :: st) (M) Q := vd_g_con (show vd_pI 163 42 = some (.bipush 8, 2, 0, 0, 0, .null) from rfl) rfl (by decide)
theorem vd_E163_44 (h1 : 0 ≤ z) (h2 : z ≤ 65536) : vd_wp d 163 44 ls (.int (vd_I z) :: st) M Q = vd_wp d 163 47 ls (.ref (vd_n M) :: st) (vd_new M 37 z.toNat z.toNat) Q := vd_g_anr (show vd_pI 163 44 = some (.anewarray 31, 3, 2, 37, 1867, .null) from rfl) (by decide) h1 h2
theorem vd_E163_47 (h : vd_k M o = 12) : vd_wp d 163 47 ls (.ref v :: .ref o :: st) M Q = vd_wp d 163 50 ls (st) (vd_sr M o 6 (some v)) Q := vd_g_putR (show vd_pI 163 47 = some (.putfield 37, 3, 1, 12, 6, .null) from rfl) rfl h
theorem vd_E163_47n (h : vd_k M o = 12) : vd_wp d 163 47 ls (.null :: .ref o :: st) M Q = vd_wp d 163 50 ls (st) (vd_sr M o 6 none) Q := vd_g_putN (show vd_pI 163 47 = some (.putfield 37, 3, 1, 12, 6, .null) from rfl) rfl h
theorem vd_E163_50 : vd_wp d 163 50 [.ref o, a1, a2] (st) M Q = vd_wp d 163 51 [.ref o, a1, a2] (.ref o :: st) (M) Q := vd_wp_alu (show vd_pI 163 50 = some (.aload_n 0, 1, 0, 0, 0, .null) from rfl) rfl
theorem vd_E163_50n : vd_wp d 163 50 [.null, a1, a2] (st) M Q = vd_wp d 163 51 [.null, a1, a2] (.null :: st) (M) Q := vd_wp_alu (show vd_pI 163 50 = some (.aload_n 0, 1, 0, 0, 0, .null) from rfl) rfl
theorem vd_E163_51 : vd_wp d 163 51 ls (st) M Q = vd_wp d 163 52 ls (.null :: st) (M) Q := vd_wp_alu (show vd_pI 163 51 = some (.aconst_null, 1, 0, 0, 0, .null) from rfl) rfl
theorem vd_E163_52 (h : vd_k M o = 12) : vd_wp d 163 52 ls (.ref v :: .ref o :: st) M Q = vd_wp d 163 55 ls (st) (vd_sr M o 7 (some v)) Q := vd_g_putR (show vd_pI 163 52 = some (.putfield 40, 3, 1, 12, 7, .null) from rfl) rfl h
theorem vd_E163_52n (h : vd_k M o = 12) : vd_wp d 163 52 ls (.null :: .ref o :: st) M Q = vd_wp d 163 55 ls (st) (vd_sr M o 7 none) Q := vd_g_putN (show vd_pI 163 52 = some (.putfield 40, 3, 1, 12, 7, .null) from rfl) rfl h
theorem vd_E163_55 : vd_wp d 163 55 [.ref o, a1, a2] (st) M Q = vd_wp d 163 56 [.ref o, a1, a2] (.ref o :: st) (M) Q := vd_wp_alu (show vd_pI 163 55 = some (.aload_n 0, 1, 0, 0, 0, .null) from rfl) rfl
theorem vd_E163_55n : vd_wp d 163 55 [.null, a1, a2] (st) M Q = vd_wp d 163 56 [.null, a1, a2] (.null :: st) (M) Q := vd_wp_alu (show vd_pI 163 55 = some (.aload_n 0, 1, 0, 0, 0, .null) from rfl) rfl
theorem vd_E163_56 : vd_wp d 163 56 ls (st) M Q = vd_wp d 163 57 ls (.int (vd_I 4) :: st) (M) Q := vd_wp_alu (show vd_pI 163 56 = some (.iconst 4, 1, 0, 0, 0, .null) from rfl) rfl
theorem vd_E163_57 : vd_wp d 163 57 ls (st) M Q = vd_wp d 163 60 ls (.int (vd_I 2941) :: st) (M) Q := vd_g_con (show vd_pI 163 57 = some (.sipush 2941, 3, 0, 0, 0, .null) from rfl) rfl (by decide)
theorem vd_E163_60 (h1 : 0 ≤ z) (h2 : z ≤ 65536) : vd_wp d 163 60 ls (.int (vd_I z) :: .int (vd_I 4) :: st) M Q = vd_wp d 163 64 ls (.ref (vd_n M) :: st) (vd_mu4 M z.toNat) Q := vd_g_mu (show vd_pI 163 60 = some (.multianewarray 44 2, 4, 8, 0, 0, .null) from rfl) h1 h2
theorem vd_E163_64 (h : vd_k M o = 12) : vd_wp d 163 64 ls (.ref v :: .ref o :: st) M Q = vd_wp d 163 67 ls (st) (vd_sr M o 8 (some v)) Q := vd_g_putR (show vd_pI 163 64 = some (.putfield 46, 3, 1, 12, 8, .null) from rfl) rfl h
theorem vd_E163_64n (h : vd_k M o = 12) : vd_wp d 163 64 ls (.null :: .ref o :: st) M Q = vd_wp d 163 67 ls (st) (vd_sr M o 8 none) Q := vd_g_putN (show vd_pI 163 64 = some (.putfield 46, 3, 1, 12, 8, .null) from rfl) rfl h
theorem vd_E163_67 : vd_wp d 163 67 [.ref o, a1, a2] (st) M Q = vd_wp d 163 68 [.ref o, a1, a2] (.ref o :: st) (M) Q := vd_wp_alu (show vd_pI 163 67 = some (.aload_n 0, 1, 0, 0, 0, .null) from rfl) rfl
theorem vd_E163_67n : vd_wp d 163 67 [.null, a1, a2] (st) M Q = vd_wp d 163 68 [.null, a1, a2] (.null :: st) (M) Q := vd_wp_alu (show vd_pI 163 67 = some (.aload_n 0, 1, 0, 0, 0, .null) from rfl) rfl
theorem vd_E163_68 : vd_wp d 163 68 ls (st) M Q = vd_wp d 163 71 ls (.int (vd_I 576) :: st) (M) Q := vd_g_con (show vd_pI 163 68 = some (.sipush 576, 3, 0, 0, 0, .null) from rfl) rfl (by decide)
theorem vd_E163_71 (h1 : 0 ≤ z) (h2 : z ≤ 65536) : vd_wp d 163 71 ls (.int (vd_I z) :: st) M Q = vd_wp d 163 73 ls (.ref (vd_n M) :: st) (vd_new M 32 z.toNat z.toNat) Q := vd_g_nar (show vd_pI 163 71 = some (.newarray .int, 2, 2, 0, 0, .null) from rfl) (by decide) h1 h2
theorem vd_E163_73 (h : vd_k M o = 12) : vd_wp d 163 73 ls (.ref v :: .ref o :: st) M Q = vd_wp d 163 76 ls (st) (vd_sr M o 9 (some v)) Q := vd_g_putR (show vd_pI 163 73 = some (.putfield 49, 3, 1, 12, 9, .null) from rfl) rfl h
theorem vd_E163_73n (h : vd_k M o = 12) : vd_wp d 163 73 ls (.null :: .ref o :: st) M Q = vd_wp d 163 76 ls (st) (vd_sr M o 9 none) Q := vd_g_putN (show vd_pI 163 73 = some (.putfield 49, 3, 1, 12, 9, .null) from rfl) rfl h
theorem vd_E163_76 : vd_wp d 163 76 [.ref o, a1, a2] (st) M Q = vd_wp d 163 77 [.ref o, a1, a2] (.ref o :: st) (M) Q := vd_wp_alu (show vd_pI 163 76 = some (.aload_n 0, 1, 0, 0, 0, .null) from rfl) rfl
theorem vd_E163_76n : vd_wp d 163 76 [.null, a1, a2] (st) M Q = vd_wp d 163 77 [.null, a1, a2] (.null :: st) (M) Q := vd_wp_alu (show vd_pI 163 76 = some (.aload_n 0, 1, 0, 0, 0, .null) from rfl) rfl
theorem vd_E163_77 : vd_wp d 163 77 ls (st) M Q = vd_wp d 163 79 ls (.int (vd_I 6) :: st) (M) Q := vd_g_con (show vd_pI 163 77 = some (.bipush 6, 2, 0, 0, 0, .null) from rfl) rfl (by decide)
theorem vd_E163_79 (h1 : 0 ≤ z) (h2 : z ≤ 65536) : vd_wp d 163 79 ls (.int (vd_I z) :: st) M Q = vd_wp d 163 81 ls (.ref (vd_n M) :: st) (vd_new M 32 z.toNat z.toNat) Q := vd_g_nar (show vd_pI 163 79 = some (.newarray .int, 2, 2, 0, 0, .null) from rfl) (by decide) h1 h2
theorem vd_E163_81 (h : vd_long s0 = false) : vd_wp d 163 81 ls (s0 :: st) M Q = vd_wp d 163 82 ls (s0 :: s0 :: st) (M) Q := vd_g_dup (show vd_pI 163 81 = some (.dup, 1, 0, 0, 0, .null) from rfl) h
theorem vd_E163_82 : vd_wp d 163 82 ls (st) M Q = vd_wp d 163 83 ls (.int (vd_I 0) :: st) (M) Q := vd_wp_alu (show vd_pI 163 82 = some (.iconst 0, 1, 0, 0, 0, .null) from rfl) rfl
theorem vd_E163_83 : vd_wp d 163 83 ls (st) M Q = vd_wp d 163 84 ls (.int (vd_I 1) :: st) (M) Q := vd_wp_alu (show vd_pI 163 83 = some (.iconst 1, 1, 0, 0, 0, .null) from rfl) rfl
theorem vd_E163_84 (h0 : 10 ≤ o) (h : vd_k M o = 32) (h1 : 0 ≤ z) (h2 : z < (vd_l M o : Int)) (h3 : z < 2147483648) : vd_wp d 163 84 ls (.int x :: .int (vd_I z) :: .ref o :: st) M Q = vd_wp d 163 85 ls (st) (vd_si M o z.toNat x) Q := vd_g_ias (show vd_pI 163 84 = some (.iastore, 1, 1, 0, 0, .null) from rfl) h0 h h1 h2 h3
theorem vd_E163_85 (h : vd_long s0 = false) : vd_wp d 163 85 ls (s0 :: st) M Q = vd_wp d 163 86 ls (s0 :: s0 :: st) (M) Q := vd_g_dup (show vd_pI 163 85 = some (.dup, 1, 0, 0, 0, .null) from rfl) h
theorem vd_E163_86 : vd_wp d 163 86 ls (st) M Q = vd_wp d 163 87 ls (.int (vd_I 1) :: st) (M) Q := vd_wp_alu (show vd_pI 163 86 = some (.iconst 1, 1, 0, 0, 0, .null) from rfl) rfl
theorem vd_E163_87 : vd_wp d 163 87 ls (st) M Q = vd_wp d 163 88 ls (.int (vd_I 0) :: st) (M) Q := vd_wp_alu (show vd_pI 163 87 = some (.iconst 0, 1, 0, 0, 0, .null) from rfl) rfl
theorem vd_E163_88 (h0 : 10 ≤ o) (h : vd_k M o = 32) (h1 : 0 ≤ z) (h2 : z < (vd_l M o : Int)) (h3 : z < 2147483648) : vd_wp d 163 88 ls (.int x :: .int (vd_I z) :: .ref o :: st) M Q = vd_wp d 163 89 ls (st) (vd_si M o z.toNat x) Q := vd_g_ias (show vd_pI 163 88 = some (.iastore, 1, 1, 0, 0, .null) from rfl) h0 h h1 h2 h3
theorem vd_E163_89 (h : vd_long s0 = false) : vd_wp d 163 89 ls (s0 :: st) M Q = vd_wp d 163 90 ls (s0 :: s0 :: st) (M) Q := vd_g_dup (show vd_pI 163 89 = some (.dup, 1, 0, 0, 0, .null) from rfl) h
theorem vd_E163_90 : vd_wp d 163 90 ls (st) M Q = vd_wp d 163 91 ls (.int (vd_I 2) :: st) (M) Q := vd_wp_alu (show vd_pI 163 90 = some (.iconst 2, 1, 0, 0, 0, .null) from rfl) rfl
theorem vd_E163_91 : vd_wp d 163 91 ls (st) M Q = vd_wp d 163 92 ls (.int (vd_I (-1)) :: st) (M) Q := vd_wp_alu (show vd_pI 163 91 = some (.iconst (-1), 1, 0, 0, 0, .null) from rfl) rfl
theorem vd_E163_92 (h0 : 10 ≤ o) (h : vd_k M o = 32) (h1 : 0 ≤ z) (h2 : z < (vd_l M o : Int)) (h3 : z < 2147483648) : vd_wp d 163 92 ls (.int x :: .int (vd_I z) :: .ref o :: st) M Q = vd_wp d 163 93 ls (st) (vd_si M o z.toNat x) Q := vd_g_ias (show vd_pI 163 92 = some (.iastore, 1, 1, 0, 0, .null) from rfl) h0 h h1 h2 h3
theorem vd_E163_93 (h : vd_long s0 = false) : vd_wp d 163 93 ls (s0 :: st) M Q = vd_wp d 163 94 ls (s0 :: s0 :: st) (M) Q := vd_g_dup (show vd_pI 163 93 = some (.dup, 1, 0, 0, 0, .null) from rfl) h
theorem vd_E163_94 : vd_wp d 163 94 ls (st) M Q = vd_wp d 163 95 ls (.int (vd_I 3) :: st) (M) Q := vd_wp_alu (show vd_pI 163 94 = some (.iconst 3, 1, 0, 0, 0, .null) from rfl) rfl
theorem vd_E163_95 : vd_wp d 163 95 ls (st) M Q = vd_wp d 163 96 ls (.int (vd_I (-1)) :: st) (M) Q := vd_wp_alu (show vd_pI 163 95 = some (.iconst (-1), 1, 0, 0, 0, .null) from rfl) rfl
theorem vd_E163_96 (h0 : 10 ≤ o) (h : vd_k M o = 32) (h1 : 0 ≤ z) (h2 : z < (vd_l M o : Int)) (h3 : z < 2147483648) : vd_wp d 163 96 ls (.int x :: .int (vd_I z) :: .ref o :: st) M Q = vd_wp d 163 97 ls (st) (vd_si M o z.toNat x) Q := vd_g_ias (show vd_pI 163 96 = some (.iastore, 1, 1, 0, 0, .null) from rfl) h0 h h1 h2 h3
theorem vd_E163_97 (h : vd_long s0 = false) : vd_wp d 163 97 ls (s0 :: st) M Q = vd_wp d 163 98 ls (s0 :: s0 :: st) (M) Q := vd_g_dup (show vd_pI 163 97 = some (.dup, 1, 0, 0, 0, .null) from rfl) h
theorem vd_E163_98 : vd_wp d 163 98 ls (st) M Q = vd_wp d 163 99 ls (.int (vd_I 4) :: st) (M) Q := vd_wp_alu (show vd_pI 163 98 = some (.iconst 4, 1, 0, 0, 0, .null) from rfl) rfl
theorem vd_E163_99 : vd_wp d 163 99 ls (st) M Q = vd_wp d 163 100 ls (.int (vd_I 0) :: st) (M) Q := vd_wp_alu (show vd_pI 163 99 = some (.iconst 0, 1, 0, 0, 0, .null) from rfl) rfl
theorem vd_E163_100 (h0 : 10 ≤ o) (h : vd_k M o = 32) (h1 : 0 ≤ z) (h2 : z < (vd_l M o : Int)) (h3 : z < 2147483648) : vd_wp d 163 100 ls (.int x :: .int (vd_I z) :: .ref o :: st) M Q = vd_wp d 163 101 ls (st) (vd_si M o z.toNat x) Q := vd_g_ias (show vd_pI 163 100 = some (.iastore, 1, 1, 0, 0, .null) from rfl) h0 h h1 h2 h3
theorem vd_E163_101 (h : vd_long s0 = false) : vd_wp d 163 101 ls (s0 :: st) M Q = vd_wp d 163 102 ls (s0 :: s0 :: st) (M) Q := vd_g_dup (show vd_pI 163 101 = some (.dup, 1, 0, 0, 0, .null) from rfl) h
theorem vd_E163_102 : vd_wp d 163 102 ls (st) M Q = vd_wp d 163 103 ls (.int (vd_I 5) :: st) (M) Q := vd_wp_alu (show vd_pI 163 102 = some (.iconst 5, 1, 0, 0, 0, .null) from rfl) rfl
theorem vd_E163_103 : vd_wp d 163 103 ls (st) M Q = vd_wp d 163 104 ls (.int (vd_I 0) :: st) (M) Q := vd_wp_alu (show vd_pI 163 103 = some (.iconst 0, 1, 0, 0, 0, .null) from rfl) rfl
theorem vd_E163_104 (h0 : 10 ≤ o) (h : vd_k M o = 32) (h1 : 0 ≤ z) (h2 : z < (vd_l M o : Int)) (h3 : z < 2147483648) : vd_wp d 163 104 ls (.int x :: .int (vd_I z) :: .ref o :: st) M Q = vd_wp d 163 105 ls (st) (vd_si M o z.toNat x) Q := vd_g_ias (show vd_pI 163 104 = some (.iastore, 1, 1, 0, 0, .null) from rfl) h0 h h1 h2 h3
theorem vd_E163_105 (h : vd_k M o = 12) : vd_wp d 163 105 ls (.ref v :: .ref o :: st) M Q = vd_wp d 163 108 ls (st) (vd_sr M o 10 (some v)) Q := vd_g_putR (show vd_pI 163 105 = some (.putfield 53, 3, 1, 12, 10, .null) from rfl) rfl h
theorem vd_E163_105n (h : vd_k M o = 12) : vd_wp d 163 105 ls (.null :: .ref o :: st) M Q = vd_wp d 163 108 ls (st) (vd_sr M o 10 none) Q := vd_g_putN (show vd_pI 163 105 = some (.putfield 53, 3, 1, 12, 10, .null) from rfl) rfl h
theorem vd_E163_108 : vd_wp d 163 108 [.ref o, a1, a2] (st) M Q = vd_wp d 163 109 [.ref o, a1, a2] (.ref o :: st) (M) Q := vd_wp_alu (show vd_pI 163 108 = some (.aload_n 0, 1, 0, 0, 0, .null) from rfl) rfl
theorem vd_E163_108n : vd_wp d 163 108 [.null, a1, a2] (st) M Q = vd_wp d 163 109 [.null, a1, a2] (.null :: st) (M) Q := vd_wp_alu (show vd_pI 163 108 = some (.aload_n 0, 1, 0, 0, 0, .null) from rfl) rfl
theorem vd_E163_109 : vd_wp d 163 109 ls (st) M Q = vd_wp d 163 111 ls (.int (vd_I 32) :: st) (M) Q := vd_g_con (show vd_pI 163 109 = some (.bipush 32, 2, 0, 0, 0, .null) from rfl) rfl (by decide)
theorem vd_E163_111 (h1 : 0 ≤ z) (h2 : z ≤ 65536) : vd_wp d 163 111 ls (.int (vd_I z) :: st) M Q = vd_wp d 163 113 ls (.ref (vd_n M) :: st) (vd_new M 34 z.toNat z.toNat) Q := vd_g_nar (show vd_pI 163 111 = some (.newarray .boolean, 2, 2, 0, 0, .null) from rfl) (by decide) h1 h2
theorem vd_E163_113 (h : vd_k M o = 12) : vd_wp d 163 113 ls (.ref v :: .ref o :: st) M Q = vd_wp d 163 116 ls (st) (vd_sr M o 11 (some v)) Q := vd_g_putR (show vd_pI 163 113 = some (.putfield 56, 3, 1, 12, 11, .null) from rfl) rfl h
theorem vd_E163_113n (h : vd_k M o = 12) : vd_wp d 163 113 ls (.null :: .ref o :: st) M Q = vd_wp d 163 116 ls (st) (vd_sr M o 11 none) Q := vd_g_putN (show vd_pI 163 113 = some (.putfield 56, 3, 1, 12, 11, .null) from rfl) rfl h
theorem vd_E163_116 : vd_wp d 163 116 [.ref o, a1, a2] (st) M Q = vd_wp d 163 117 [.ref o, a1, a2] (.ref o :: st) (M) Q := vd_wp_alu (show vd_pI 163 116 = some (.aload_n 0, 1, 0, 0, 0, .null) from rfl) rfl
theorem vd_E163_116n : vd_wp d 163 116 [.null, a1, a2] (st) M Q = vd_wp d 163 117 [.null, a1, a2] (.null :: st) (M) Q := vd_wp_alu (show vd_pI 163 116 = some (.aload_n 0, 1, 0, 0, 0, .null) from rfl) rfl
theorem vd_E163_117 : vd_wp d 163 117 ls (st) M Q = vd_wp d 163 119 ls (.int (vd_I 32) :: st) (M) Q := vd_g_con (show vd_pI 163 117 = some (.bipush 32, 2, 0, 0, 0, .null) from rfl) rfl (by decide)
theorem vd_E163_119 (h1 : 0 ≤ z) (h2 : z ≤ 65536) : vd_wp d 163 119 ls (.int (vd_I z) :: st) M Q = vd_wp d 163 121 ls (.ref (vd_n M) :: st) (vd_new M 32 z.toNat z.toNat) Q := vd_g_nar (show vd_pI 163 119 = some (.newarray .int, 2, 2, 0, 0, .null) from rfl) (by decide) h1 h2
theorem vd_E163_121 (h : vd_k M o = 12) : vd_wp d 163 121 ls (.ref v :: .ref o :: st) M Q = vd_wp d 163 124 ls (st) (vd_sr M o 12 (some v)) Q := vd_g_putR (show vd_pI 163 121 = some (.putfield 60, 3, 1, 12, 12, .null) from rfl) rfl h
theorem vd_E163_121n (h : vd_k M o = 12) : vd_wp d 163 121 ls (.null :: .ref o :: st) M Q = vd_wp d 163 124 ls (st) (vd_sr M o 12 none) Q := vd_g_putN (show vd_pI 163 121 = some (.putfield 60, 3, 1, 12, 12, .null) from rfl) rfl h
theorem vd_E163_124 : vd_wp d 163 124 [.ref o, a1, a2] (st) M Q = vd_wp d 163 125 [.ref o, a1, a2] (.ref o :: st) (M) Q := vd_wp_alu (show vd_pI 163 124 = some (.aload_n 0, 1, 0, 0, 0, .null) from rfl) rfl
theorem vd_E163_124n : vd_wp d 163 124 [.null, a1, a2] (st) M Q = vd_wp d 163 125 [.null, a1, a2] (.null :: st) (M) Q := vd_wp_alu (show vd_pI 163 124 = some (.aload_n 0, 1, 0, 0, 0, .null) from rfl) rfl
theorem vd_E163_125 : vd_wp d 163 125 ls (st) M Q = vd_wp d 163 126 ls (.int (vd_I 0) :: st) (M) Q := vd_wp_alu (show vd_pI 163 125 = some (.iconst 0, 1, 0, 0, 0, .null) from rfl) rfl
theorem vd_E163_126 (h0 : vd_fok .boolean x = true) (h : vd_k M o = 12) : vd_wp d 163 126 ls (.int x :: .ref o :: st) M Q = vd_wp d 163 129 ls (st) (vd_si M o 13 x) Q := vd_g_putI (show vd_pI 163 126 = some (.putfield 63, 3, 1, 12, 13, .null) from rfl) h0 h
theorem vd_E163_129 : vd_wp d 163 129 [.ref o, a1, a2] (st) M Q = vd_wp d 163 130 [.ref o, a1, a2] (.ref o :: st) (M) Q := vd_wp_alu (show vd_pI 163 129 = some (.aload_n 0, 1, 0, 0, 0, .null) from rfl) rfl
theorem vd_E163_129n : vd_wp d 163 129 [.null, a1, a2] (st) M Q = vd_wp d 163 130 [.null, a1, a2] (.null :: st) (M) Q := vd_wp_alu (show vd_pI 163 129 = some (.aload_n 0, 1, 0, 0, 0, .null) from rfl) rfl
theorem vd_E163_130 : vd_wp d 163 130 ls (st) M Q = vd_wp d 163 131 ls (.int (vd_I 0) :: st) (M) Q := vd_wp_alu (show vd_pI 163 130 = some (.iconst 0, 1, 0, 0, 0, .null) from rfl) rfl
theorem vd_E163_131 (h : vd_k M o = 12) : vd_wp d 163 131 ls (.int x :: .ref o :: st) M Q = vd_wp d 163 134 ls (st) (vd_si M o 14 x) Q := vd_g_putI (show vd_pI 163 131 = some (.putfield 67, 3, 1, 12, 14, .null) from rfl) rfl h
theorem vd_E163_134 : vd_wp d 163 134 [.ref o, a1, a2] (st) M Q = vd_wp d 163 135 [.ref o, a1, a2] (.ref o :: st) (M) Q := vd_wp_alu (show vd_pI 163 134 = some (.aload_n 0, 1, 0, 0, 0, .null) from rfl) rfl
theorem vd_E163_134n : vd_wp d 163 134 [.null, a1, a2] (st) M Q = vd_wp d 163 135 [.null, a1, a2] (.null :: st) (M) Q := vd_wp_alu (show vd_pI 163 134 = some (.aload_n 0, 1, 0, 0, 0, .null) from rfl) rfl
theorem vd_E163_135 : vd_wp d 163 135 ls (st) M Q = vd_wp d 163 136 ls (.int (vd_I 0) :: st) (M) Q := vd_wp_alu (show vd_pI 163 135 = some (.iconst 0, 1, 0, 0, 0, .null) from rfl) rfl
theorem vd_E163_136 (h : vd_k M o = 12) : vd_wp d 163 136 ls (.int x :: .ref o :: st) M Q = vd_wp d 163 139 ls (st) (vd_si M o 15 x) Q := vd_g_putI (show vd_pI 163 136 = some (.putfield 70, 3, 1, 12, 15, .null) from rfl) rfl h
theorem vd_E163_139 : vd_wp d 163 139 [.ref o, a1, a2] (st) M Q = vd_wp d 163 140 [.ref o, a1, a2] (.ref o :: st) (M) Q := vd_wp_alu (show vd_pI 163 139 = some (.aload_n 0, 1, 0, 0, 0, .null) from rfl) rfl
theorem vd_E163_139n : vd_wp d 163 139 [.null, a1, a2] (st) M Q = vd_wp d 163 140 [.null, a1, a2] (.null :: st) (M) Q := vd_wp_alu (show vd_pI 163 139 = some (.aload_n 0, 1, 0, 0, 0, .null) from rfl) rfl
theorem vd_E163_140 : vd_wp d 163 140 ls (st) M Q = vd_wp d 163 141 ls (.int (vd_I 0) :: st) (M) Q := vd_wp_alu (show vd_pI 163 140 = some (.iconst 0, 1, 0, 0, 0, .null) from rfl) rfl
theorem vd_E163_141 (h0 : vd_fok .boolean x = true) (h : vd_k M o = 12) : vd_wp d 163 141 ls (.int x :: .ref o :: st) M Q = vd_wp d 163 144 ls (st) (vd_si M o 16 x) Q := vd_g_putI (show vd_pI 163 141 = some (.putfield 73, 3, 1, 12, 16, .null) from rfl) h0 h
theorem vd_E163_144 : vd_wp d 163 144 [.ref o, a1, a2] (st) M Q = vd_wp d 163 145 [.ref o, a1, a2] (.ref o :: st) (M) Q := vd_wp_alu (show vd_pI 163 144 = some (.aload_n 0, 1, 0, 0, 0, .null) from rfl) rfl
theorem vd_E163_144n : vd_wp d 163 144 [.null, a1, a2] (st) M Q = vd_wp d 163 145 [.null, a1, a2] (.null :: st) (M) Q := vd_wp_alu (show vd_pI 163 144 = some (.aload_n 0, 1, 0, 0, 0, .null) from rfl) rfl
theorem vd_E163_145 : vd_wp d 163 145 ls (st) M Q = vd_wp d 163 148 ls (.int (vd_I 1152) :: st) (M) Q := vd_g_con (show vd_pI 163 145 = some (.sipush 1152, 3, 0, 0, 0, .null) from rfl) rfl (by decide)
theorem vd_E163_148 (h1 : 0 ≤ z) (h2 : z ≤ 65536) : vd_wp d 163 148 ls (.int (vd_I z) :: st) M Q = vd_wp d 163 150 ls (.ref (vd_n M) :: st) (vd_new M 32 z.toNat z.toNat) Q := vd_g_nar (show vd_pI 163 148 = some (.newarray .int, 2, 2, 0, 0, .null) from rfl) (by decide) h1 h2
theorem vd_E163_150 (h : vd_k M o = 12) : vd_wp d 163 150 ls (.ref v :: .ref o :: st) M Q = vd_wp d 163 153 ls (st) (vd_sr M o 17 (some v)) Q := vd_g_putR (show vd_pI 163 150 = some (.putfield 76, 3, 1, 12, 17, .null) from rfl) rfl h
theorem vd_E163_150n (h : vd_k M o = 12) : vd_wp d 163 150 ls (.null :: .ref o :: st) M Q = vd_wp d 163 153 ls (st) (vd_sr M o 17 none) Q := vd_g_putN (show vd_pI 163 150 = some (.putfield 76, 3, 1, 12, 17, .null) from rfl) rfl h
theorem vd_E163_153 : vd_wp d 163 153 [.ref o, a1, a2] (st) M Q = vd_wp d 163 154 [.ref o, a1, a2] (.ref o :: st) (M) Q := vd_wp_alu (show vd_pI 163 153 = some (.aload_n 0, 1, 0, 0, 0, .null) from rfl) rfl
theorem vd_E163_153n : vd_wp d 163 153 [.null, a1, a2] (st) M Q = vd_wp d 163 154 [.null, a1, a2] (.null :: st) (M) Q := vd_wp_alu (show vd_pI 163 153 = some (.aload_n 0, 1, 0, 0, 0, .null) from rfl) rfl
theorem vd_E163_154 : vd_wp d 163 154 ls (st) M Q = vd_wp d 163 157 ls (.int (vd_I 1152) :: st) (M) Q := vd_g_con (show vd_pI 163 154 = some (.sipush 1152, 3, 0, 0, 0, .null) from rfl) rfl (by decide)
theorem vd_E163_157 (h1 : 0 ≤ z) (h2 : z ≤ 65536) : vd_wp d 163 157 ls (.int (vd_I z) :: st) M Q = vd_wp d 163 159 ls (.ref (vd_n M) :: st) (vd_new M 32 z.toNat z.toNat) Q := vd_g_nar (show vd_pI 163 157 = some (.newarray .int, 2, 2, 0, 0, .null) from rfl) (by decide) h1 h2
theorem vd_E163_159 (h : vd_k M o = 12) : vd_wp d 163 159 ls (.ref v :: .ref o :: st) M Q = vd_wp d 163 162 ls (st) (vd_sr M o 18 (some v)) Q := vd_g_putR (show vd_pI 163 159 = some (.putfield 79, 3, 1, 12, 18, .null) from rfl) rfl h
theorem vd_E163_159n (h : vd_k M o = 12) : vd_wp d 163 159 ls (.null :: .ref o :: st) M Q = vd_wp d 163 162 ls (st) (vd_sr M o 18 none) Q := vd_g_putN (show vd_pI 163 159 = some (.putfield 79, 3, 1, 12, 18, .null) from rfl) rfl h
theorem vd_E163_162 : vd_wp d 163 162 [.ref o, a1, a2] (st) M Q = vd_wp d 163 163 [.ref o, a1, a2] (.ref o :: st) (M) Q := vd_wp_alu (show vd_pI 163 162 = some (.aload_n 0, 1, 0, 0, 0, .null) from rfl) rfl
theorem vd_E163_162n : vd_wp d 163 162 [.null, a1, a2] (st) M Q = vd_wp d 163 163 [.null, a1, a2] (.null :: st) (M) Q := vd_wp_alu (show vd_pI 163 162 = some (.aload_n 0, 1, 0, 0, 0, .null) from rfl) rfl
theorem vd_E163_163 : vd_wp d 163 163 ls (st) M Q = vd_wp d 163 166 ls (.int (vd_I 1152) :: st) (M) Q := vd_g_con (show vd_pI 163 163 = some (.sipush 1152, 3, 0, 0, 0, .null) from rfl) rfl (by decide)
theorem vd_E163_166 (h1 : 0 ≤ z) (h2 : z ≤ 65536) : vd_wp d 163 166 ls (.int (vd_I z) :: st) M Q = vd_wp d 163 168 ls (.ref (vd_n M) :: st) (vd_new M 32 z.toNat z.toNat) Q := vd_g_nar (show vd_pI 163 166 = some (.newarray .int, 2, 2, 0, 0, .null) from rfl) (by decide) h1 h2
theorem vd_E163_168 (h : vd_k M o = 12) : vd_wp d 163 168 ls (.ref v :: .ref o :: st) M Q = vd_wp d 163 171 ls (st) (vd_sr M o 19 (some v)) Q := vd_g_putR (show vd_pI 163 168 = some (.putfield 82, 3, 1, 12, 19, .null) from rfl) rfl h
theorem vd_E163_168n (h : vd_k M o = 12) : vd_wp d 163 168 ls (.null :: .ref o :: st) M Q = vd_wp d 163 171 ls (st) (vd_sr M o 19 none) Q := vd_g_putN (show vd_pI 163 168 = some (.putfield 82, 3, 1, 12, 19, .null) from rfl) rfl h
theorem vd_E163_171 : vd_wp d 163 171 [.ref o, a1, a2] (st) M Q = vd_wp d 163 172 [.ref o, a1, a2] (.ref o :: st) (M) Q := vd_wp_alu (show vd_pI 163 171 = some (.aload_n 0, 1, 0, 0, 0, .null) from rfl) rfl
theorem vd_E163_171n : vd_wp d 163 171 [.null, a1, a2] (st) M Q = vd_wp d 163 172 [.null, a1, a2] (.null :: st) (M) Q := vd_wp_alu (show vd_pI 163 171 = some (.aload_n 0, 1, 0, 0, 0, .null) from rfl) rfl
theorem vd_E163_172 : vd_wp d 163 172 ls (st) M Q = vd_wp d 163 173 ls (.int (vd_I 0) :: st) (M) Q := vd_wp_alu (show vd_pI 163 172 = some (.iconst 0, 1, 0, 0, 0, .null) from rfl) rfl
theorem vd_E163_173 (h : vd_k M o = 12) : vd_wp d 163 173 ls (.int x :: .ref o :: st) M Q = vd_wp d 163 176 ls (st) (vd_si M o 20 x) Q := vd_g_putI (show vd_pI 163 173 = some (.putfield 85, 3, 1, 12, 20, .null) from rfl) rfl h
theorem vd_E163_176 : vd_wp d 163 176 [.ref o, a1, a2] (st) M Q = vd_wp d 163 177 [.ref o, a1, a2] (.ref o :: st) (M) Q := vd_wp_alu (show vd_pI 163 176 = some (.aload_n 0, 1, 0, 0, 0, .null) from rfl) rfl
theorem vd_E163_176n : vd_wp d 163 176 [.null, a1, a2] (st) M Q = vd_wp d 163 177 [.null, a1, a2] (.null :: st) (M) Q := vd_wp_alu (show vd_pI 163 176 = some (.aload_n 0, 1, 0, 0, 0, .null) from rfl) rfl
theorem vd_E163_177 : vd_wp d 163 177 ls (st) M Q = vd_wp d 163 178 ls (.int (vd_I 0) :: st) (M) Q := vd_wp_alu (show vd_pI 163 177 = some (.iconst 0, 1, 0, 0, 0, .null) from rfl) rfl
theorem vd_E163_178 (h : vd_k M o = 12) : vd_wp d 163 178 ls (.int x :: .ref o :: st) M Q = vd_wp d 163 181 ls (st) (vd_si M o 21 x) Q := vd_g_putI (show vd_pI 163 178 = some (.putfield 88, 3, 1, 12, 21, .null) from rfl) rfl h
theorem vd_E163_181 : vd_wp d 163 181 [.ref o, a1, a2] (st) M Q = vd_wp d 163 182 [.ref o, a1, a2] (.ref o :: st) (M) Q := vd_wp_alu (show vd_pI 163 181 = some (.aload_n 0, 1, 0, 0, 0, .null) from rfl) rfl
theorem vd_E163_181n : vd_wp d 163 181 [.null, a1, a2] (st) M Q = vd_wp d 163 182 [.null, a1, a2] (.null :: st) (M) Q := vd_wp_alu (show vd_pI 163 181 = some (.aload_n 0, 1, 0, 0, 0, .null) from rfl) rfl
theorem vd_E163_182 : vd_wp d 163 182 ls (st) M Q = vd_wp d 163 183 ls (.int (vd_I 5) :: st) (M) Q := vd_wp_alu (show vd_pI 163 182 = some (.iconst 5, 1, 0, 0, 0, .null) from rfl) rfl
theorem vd_E163_183 (h1 : 0 ≤ z) (h2 : z ≤ 65536) : vd_wp d 163 183 ls (.int (vd_I z) :: st) M Q = vd_wp d 163 185 ls (.ref (vd_n M) :: st) (vd_new M 32 z.toNat z.toNat) Q := vd_g_nar (show vd_pI 163 183 = some (.newarray .int, 2, 2, 0, 0, .null) from rfl) (by decide) h1 h2
theorem vd_E163_185 (h : vd_long s0 = false) : vd_wp d 163 185 ls (s0 :: st) M Q = vd_wp d 163 186 ls (s0 :: s0 :: st) (M) Q := vd_g_dup (show vd_pI 163 185 = some (.dup, 1, 0, 0, 0, .null) from rfl) h
theorem vd_E163_186 : vd_wp d 163 186 ls (st) M Q = vd_wp d 163 187 ls (.int (vd_I 0) :: st) (M) Q := vd_wp_alu (show vd_pI 163 186 = some (.iconst 0, 1, 0, 0, 0, .null) from rfl) rfl
theorem vd_E163_187 : vd_wp d 163 187 ls (st) M Q = vd_wp d 163 188 ls (.int (vd_I 0) :: st) (M) Q := vd_wp_alu (show vd_pI 163 187 = some (.iconst 0, 1, 0, 0, 0, .null) from rfl) rfl
theorem vd_E163_188 (h0 : 10 ≤ o) (h : vd_k M o = 32) (h1 : 0 ≤ z) (h2 : z < (vd_l M o : Int)) (h3 : z < 2147483648) : vd_wp d 163 188 ls (.int x :: .int (vd_I z) :: .ref o :: st) M Q = vd_wp d 163 189 ls (st) (vd_si M o z.toNat x) Q := vd_g_ias (show vd_pI 163 188 = some (.iastore, 1, 1, 0, 0, .null) from rfl) h0 h h1 h2 h3
theorem vd_E163_189 (h : vd_long s0 = false) : vd_wp d 163 189 ls (s0 :: st) M Q = vd_wp d 163 190 ls (s0 :: s0 :: st) (M) Q := vd_g_dup (show vd_pI 163 189 = some (.dup, 1, 0, 0, 0, .null) from rfl) h
theorem vd_E163_190 : vd_wp d 163 190 ls (st) M Q = vd_wp d 163 191 ls (.int (vd_I 1) :: st) (M) Q := vd_wp_alu (show vd_pI 163 190 = some (.iconst 1, 1, 0, 0, 0, .null) from rfl) rfl
theorem vd_E163_191 : vd_wp d 163 191 ls (st) M Q = vd_wp d 163 192 ls (.int (vd_I 0) :: st) (M) Q := vd_wp_alu (show vd_pI 163 191 = some (.iconst 0, 1, 0, 0, 0, .null) from rfl) rfl
theorem vd_E163_192 (h0 : 10 ≤ o) (h : vd_k M o = 32) (h1 : 0 ≤ z) (h2 : z < (vd_l M o : Int)) (h3 : z < 2147483648) : vd_wp d 163 192 ls (.int x :: .int (vd_I z) :: .ref o :: st) M Q = vd_wp d 163 193 ls (st) (vd_si M o z.toNat x) Q := vd_g_ias (show vd_pI 163 192 = some (.iastore, 1, 1, 0, 0, .null) from rfl) h0 h h1 h2 h3
theorem vd_E163_193 (h : vd_long s0 = false) : vd_wp d 163 193 ls (s0 :: st) M Q = vd_wp d 163 194 ls (s0 :: s0 :: st) (M) Q := vd_g_dup (show vd_pI 163 193 = some (.dup, 1, 0, 0, 0, .null) from rfl) h
theorem vd_E163_194 : vd_wp d 163 194 ls (st) M Q = vd_wp d 163 195 ls (.int (vd_I 2) :: st) (M) Q := vd_wp_alu (show vd_pI 163 194 = some (.iconst 2, 1, 0, 0, 0, .null) from rfl) rfl
theorem vd_E163_195 : vd_wp d 163 195 ls (st) M Q = vd_wp d 163 196 ls (.int (vd_I 0) :: st) (M) Q := vd_wp_alu (show vd_pI 163 195 = some (.iconst 0, 1, 0, 0, 0, .null) from rfl) rfl
theorem vd_E163_196 (h0 : 10 ≤ o) (h : vd_k M o = 32) (h1 : 0 ≤ z) (h2 : z < (vd_l M o : Int)) (h3 : z < 2147483648) : vd_wp d 163 196 ls (.int x :: .int (vd_I z) :: .ref o :: st) M Q = vd_wp d 163 197 ls (st) (vd_si M o z.toNat x) Q := vd_g_ias (show vd_pI 163 196 = some (.iastore, 1, 1, 0, 0, .null) from rfl) h0 h h1 h2 h3
theorem vd_E163_197 (h : vd_long s0 = false) : vd_wp d 163 197 ls (s0 :: st) M Q = vd_wp d 163 198 ls (s0 :: s0 :: st) (M) Q := vd_g_dup (show vd_pI 163 197 = some (.dup, 1, 0, 0, 0, .null) from rfl) h
theorem vd_E163_198 : vd_wp d 163 198 ls (st) M Q = vd_wp d 163 199 ls (.int (vd_I 3) :: st) (M) Q := vd_wp_alu (show vd_pI 163 198 = some (.iconst 3, 1, 0, 0, 0, .null) from rfl) rfl
theorem vd_E163_199 : vd_wp d 163 199 ls (st) M Q = vd_wp d 163 200 ls (.int (vd_I 0) :: st) (M) Q := vd_wp_alu (show vd_pI 163 199 = some (.iconst 0, 1, 0, 0, 0, .null) from rfl) rfl
theorem vd_E163_200 (h0 : 10 ≤ o) (h : vd_k M o = 32) (h1 : 0 ≤ z) (h2 : z < (vd_l M o : Int)) (h3 : z < 2147483648) : vd_wp d 163 200 ls (.int x :: .int (vd_I z) :: .ref o :: st) M Q = vd_wp d 163 201 ls (st) (vd_si M o z.toNat x) Q := vd_g_ias (show vd_pI 163 200 = some (.iastore, 1, 1, 0, 0, .null) from rfl) h0 h h1 h2 h3
theorem vd_E163_201 (h : vd_long s0 = false) : vd_wp d 163 201 ls (s0 :: st) M Q = vd_wp d 163 202 ls (s0 :: s0 :: st) (M) Q := vd_g_dup (show vd_pI 163 201 = some (.dup, 1, 0, 0, 0, .null) from rfl) h
theorem vd_E163_202 : vd_wp d 163 202 ls (st) M Q = vd_wp d 163 203 ls (.int (vd_I 4) :: st) (M) Q := vd_wp_alu (show vd_pI 163 202 = some (.iconst 4, 1, 0, 0, 0, .null) from rfl) rfl
theorem vd_E163_203 : vd_wp d 163 203 ls (st) M Q = vd_wp d 163 204 ls (.int (vd_I (-1)) :: st) (M) Q := vd_wp_alu (show vd_pI 163 203 = some (.iconst (-1), 1, 0, 0, 0, .null) from rfl) rfl
theorem vd_E163_204 (h0 : 10 ≤ o) (h : vd_k M o = 32) (h1 : 0 ≤ z) (h2 : z < (vd_l M o : Int)) (h3 : z < 2147483648) : vd_wp d 163 204 ls (.int x :: .int (vd_I z) :: .ref o :: st) M Q = vd_wp d 163 205 ls (st) (vd_si M o z.toNat x) Q := vd_g_ias (show vd_pI 163 204 = some (.iastore, 1, 1, 0, 0, .null) from rfl) h0 h h1 h2 h3
theorem vd_E163_205 (h : vd_k M o = 12) : vd_wp d 163 205 ls (.ref v :: .ref o :: st) M Q = vd_wp d 163 208 ls (st) (vd_sr M o 22 (some v)) Q := vd_g_putR (show vd_pI 163 205 = some (.putfield 91, 3, 1, 12, 22, .null) from rfl) rfl h
theorem vd_E163_205n (h : vd_k M o = 12) : vd_wp d 163 205 ls (.null :: .ref o :: st) M Q = vd_wp d 163 208 ls (st) (vd_sr M o 22 none) Q := vd_g_putN (show vd_pI 163 205 = some (.putfield 91, 3, 1, 12, 22, .null) from rfl) rfl h
theorem vd_E163_208 : vd_wp d 163 208 [.ref o, a1, a2] (st) M Q = vd_wp d 163 209 [.ref o, a1, a2] (.ref o :: st) (M) Q := vd_wp_alu (show vd_pI 163 208 = some (.aload_n 0, 1, 0, 0, 0, .null) from rfl) rfl
theorem vd_E163_208n : vd_wp d 163 208 [.null, a1, a2] (st) M Q = vd_wp d 163 209 [.null, a1, a2] (.null :: st) (M) Q := vd_wp_alu (show vd_pI 163 208 = some (.aload_n 0, 1, 0, 0, 0, .null) from rfl) rfl
theorem vd_E163_209 : vd_wp d 163 209 ls (st) M Q = vd_wp d 163 210 ls (.null :: st) (M) Q := vd_wp_alu (show vd_pI 163 209 = some (.aconst_null, 1, 0, 0, 0, .null) from rfl) rfl
theorem vd_E163_210 (h : vd_k M o = 12) : vd_wp d 163 210 ls (.ref v :: .ref o :: st) M Q = vd_wp d 163 213 ls (st) (vd_sr M o 23 (some v)) Q := vd_g_putR (show vd_pI 163 210 = some (.putfield 94, 3, 1, 12, 23, .null) from rfl) rfl h
theorem vd_E163_210n (h : vd_k M o = 12) : vd_wp d 163 210 ls (.null :: .ref o :: st) M Q = vd_wp d 163 213 ls (st) (vd_sr M o 23 none) Q := vd_g_putN (show vd_pI 163 210 = some (.putfield 94, 3, 1, 12, 23, .null) from rfl) rfl h
theorem vd_E163_213 : vd_wp d 163 213 [.ref o, a1, a2] (st) M Q = vd_wp d 163 214 [.ref o, a1, a2] (.ref o :: st) (M) Q := vd_wp_alu (show vd_pI 163 213 = some (.aload_n 0, 1, 0, 0, 0, .null) from rfl) rfl
theorem vd_E163_213n : vd_wp d 163 213 [.null, a1, a2] (st) M Q = vd_wp d 163 214 [.null, a1, a2] (.null :: st) (M) Q := vd_wp_alu (show vd_pI 163 213 = some (.aload_n 0, 1, 0, 0, 0, .null) from rfl) rfl
theorem vd_E163_214 : vd_wp d 163 214 ls (st) M Q = vd_wp d 163 215 ls (.int (vd_I 0) :: st) (M) Q := vd_wp_alu (show vd_pI 163 214 = some (.iconst 0, 1, 0, 0, 0, .null) from rfl) rfl
theorem vd_E163_215 (h : vd_k M o = 12) : vd_wp d 163 215 ls (.int x :: .ref o :: st) M Q = vd_wp d 163 218 ls (st) (vd_si M o 24 x) Q := vd_g_putI (show vd_pI 163 215 = some (.putfield 97, 3, 1, 12, 24, .null) from rfl) rfl h
theorem vd_E163_218 : vd_wp d 163 218 [.ref o, a1, a2] (st) M Q = vd_wp d 163 219 [.ref o, a1, a2] (.ref o :: st) (M) Q := vd_wp_alu (show vd_pI 163 218 = some (.aload_n 0, 1, 0, 0, 0, .null) from rfl) rfl
theorem vd_E163_218n : vd_wp d 163 218 [.null, a1, a2] (st) M Q = vd_wp d 163 219 [.null, a1, a2] (.null :: st) (M) Q := vd_wp_alu (show vd_pI 163 218 = some (.aload_n 0, 1, 0, 0, 0, .null) from rfl) rfl
theorem vd_E163_219 : vd_wp d 163 219 ls (st) M Q = vd_wp d 163 220 ls (.int (vd_I 0) :: st) (M) Q := vd_wp_alu (show vd_pI 163 219 = some (.iconst 0, 1, 0, 0, 0, .null) from rfl) rfl
theorem vd_E163_220 (h : vd_k M o = 12) : vd_wp d 163 220 ls (.int x :: .ref o :: st) M Q = vd_wp d 163 223 ls (st) (vd_si M o 25 x) Q := vd_g_putI (show vd_pI 163 220 = some (.putfield 100, 3, 1, 12, 25, .null) from rfl) rfl h
theorem vd_E163_223 : vd_wp d 163 223 [.ref o, a1, a2] (st) M Q = vd_wp d 163 224 [.ref o, a1, a2] (.ref o :: st) (M) Q := vd_wp_alu (show vd_pI 163 223 = some (.aload_n 0, 1, 0, 0, 0, .null) from rfl) rfl
theorem vd_E163_223n : vd_wp d 163 223 [.null, a1, a2] (st) M Q = vd_wp d 163 224 [.null, a1, a2] (.null :: st) (M) Q := vd_wp_alu (show vd_pI 163 223 = some (.aload_n 0, 1, 0, 0, 0, .null) from rfl) rfl
theorem vd_E163_224 : vd_wp d 163 224 ls (st) M Q = vd_wp d 163 225 ls (.int (vd_I 0) :: st) (M) Q := vd_wp_alu (show vd_pI 163 224 = some (.iconst 0, 1, 0, 0, 0, .null) from rfl) rfl
theorem vd_E163_225 (h : vd_k M o = 12) : vd_wp d 163 225 ls (.int x :: .ref o :: st) M Q = vd_wp d 163 228 ls (st) (vd_si M o 26 x) Q := vd_g_putI (show vd_pI 163 225 = some (.putfield 103, 3, 1, 12, 26, .null) from rfl) rfl h
theorem vd_E163_228 : vd_wp d 163 228 [.ref o, a1, a2] (st) M Q = vd_wp d 163 229 [.ref o, a1, a2] (.ref o :: st) (M) Q := vd_wp_alu (show vd_pI 163 228 = some (.aload_n 0, 1, 0, 0, 0, .null) from rfl) rfl
theorem vd_E163_228n : vd_wp d 163 228 [.null, a1, a2] (st) M Q = vd_wp d 163 229 [.null, a1, a2] (.null :: st) (M) Q := vd_wp_alu (show vd_pI 163 228 = some (.aload_n 0, 1, 0, 0, 0, .null) from rfl) rfl
set_option maxRecDepth 8000 in
theorem vd_E163_229 : vd_wp d 163 229 ls (st) M Q = vd_wp d 163 230 ls (.int (vd_I 0) :: st) (M) Q := vd_wp_alu (show vd_pI 163 229 = some (.iconst 0, 1, 0, 0, 0, .null) from rfl) rfl
set_option maxRecDepth 8000 in
theorem vd_E163_230 (h : vd_k M o = 12) : vd_wp d 163 230 ls (.int x :: .ref o :: st) M Q = vd_wp d 163 233 ls (st) (vd_si M o 27 x) Q := vd_g_putI (show vd_pI 163 230 = some (.putfield 106, 3, 1, 12, 27, .null) from rfl) rfl h
set_option maxRecDepth 8000 in
theorem vd_E163_233 : vd_wp d 163 233 [.ref o, a1, a2] (st) M Q = vd_wp d 163 234 [.ref o, a1, a2] (.ref o :: st) (M) Q := vd_wp_alu (show vd_pI 163 233 = some (.aload_n 0, 1, 0, 0, 0, .null) from rfl) rfl
set_option maxRecDepth 8000 in
theorem vd_E163_233n : vd_wp d 163 233 [.null, a1, a2] (st) M Q = vd_wp d 163 234 [.null, a1, a2] (.null :: st) (M) Q := vd_wp_alu (show vd_pI 163 233 = some (.aload_n 0, 1, 0, 0, 0, .null) from rfl) rfl
set_option maxRecDepth 8000 in
theorem vd_E163_234 : vd_wp d 163 234 ls (st) M Q = vd_wp d 163 237 ls (.int (vd_I 2941) :: st) (M) Q := vd_g_con (show vd_pI 163 234 = some (.sipush 2941, 3, 0, 0, 0, .null) from rfl) rfl (by decide)
set_option maxRecDepth 8000 in
theorem vd_E163_237 (h1 : 0 ≤ z) (h2 : z ≤ 65536) : vd_wp d 163 237 ls (.int (vd_I z) :: st) M Q = vd_wp d 163 239 ls (.ref (vd_n M) :: st) (vd_new M 32 z.toNat z.toNat) Q := vd_g_nar (show vd_pI 163 237 = some (.newarray .int, 2, 2, 0, 0, .null) from rfl) (by decide) h1 h2
set_option maxRecDepth 8000 in
theorem vd_E163_239 (h : vd_k M o = 12) : vd_wp d 163 239 ls (.ref v :: .ref o :: st) M Q = vd_wp d 163 242 ls (st) (vd_sr M o 28 (some v)) Q := vd_g_putR (show vd_pI 163 239 = some (.putfield 109, 3, 1, 12, 28, .null) from rfl) rfl h
set_option maxRecDepth 8000 in
theorem vd_E163_239n (h : vd_k M o = 12) : vd_wp d 163 239 ls (.null :: .ref o :: st) M Q = vd_wp d 163 242 ls (st) (vd_sr M o 28 none) Q := vd_g_putN (show vd_pI 163 239 = some (.putfield 109, 3, 1, 12, 28, .null) from rfl) rfl h
set_option maxRecDepth 8000 in
theorem vd_E163_242 : vd_wp d 163 242 [.ref o, a1, a2] (st) M Q = vd_wp d 163 243 [.ref o, a1, a2] (.ref o :: st) (M) Q := vd_wp_alu (show vd_pI 163 242 = some (.aload_n 0, 1, 0, 0, 0, .null) from rfl) rfl
set_option maxRecDepth 8000 in
theorem vd_E163_242n : vd_wp d 163 242 [.null, a1, a2] (st) M Q = vd_wp d 163 243 [.null, a1, a2] (.null :: st) (M) Q := vd_wp_alu (show vd_pI 163 242 = some (.aload_n 0, 1, 0, 0, 0, .null) from rfl) rfl
set_option maxRecDepth 8000 in
theorem vd_E163_243 : vd_wp d 163 243 ls (st) M Q = vd_wp d 163 246 ls (.int (vd_I 2941) :: st) (M) Q := vd_g_con (show vd_pI 163 243 = some (.sipush 2941, 3, 0, 0, 0, .null) from rfl) rfl (by decide)
set_option maxRecDepth 8000 in
theorem vd_E163_246 (h1 : 0 ≤ z) (h2 : z ≤ 65536) : vd_wp d 163 246 ls (.int (vd_I z) :: st) M Q = vd_wp d 163 248 ls (.ref (vd_n M) :: st) (vd_new M 32 z.toNat z.toNat) Q := vd_g_nar (show vd_pI 163 246 = some (.newarray .int, 2, 2, 0, 0, .null) from rfl) (by decide) h1 h2
set_option maxRecDepth 8000 in
theorem vd_E163_248 (h : vd_k M o = 12) : vd_wp d 163 248 ls (.ref v :: .ref o :: st) M Q = vd_wp d 163 251 ls (st) (vd_sr M o 29 (some v)) Q := vd_g_putR (show vd_pI 163 248 = some (.putfield 112, 3, 1, 12, 29, .null) from rfl) rfl h
set_option maxRecDepth 8000 in
theorem vd_E163_248n (h : vd_k M o = 12) : vd_wp d 163 248 ls (.null :: .ref o :: st) M Q = vd_wp d 163 251 ls (st) (vd_sr M o 29 none) Q := vd_g_putN (show vd_pI 163 248 = some (.putfield 112, 3, 1, 12, 29, .null) from rfl) rfl h
set_option maxRecDepth 8000 in
theorem vd_E163_251 : vd_wp d 163 251 [.ref o, a1, a2] (st) M Q = vd_wp d 163 252 [.ref o, a1, a2] (.ref o :: st) (M) Q := vd_wp_alu (show vd_pI 163 251 = some (.aload_n 0, 1, 0, 0, 0, .null) from rfl) rfl
set_option maxRecDepth 8000 in
theorem vd_E163_251n : vd_wp d 163 251 [.null, a1, a2] (st) M Q = vd_wp d 163 252 [.null, a1, a2] (.null :: st) (M) Q := vd_wp_alu (show vd_pI 163 251 = some (.aload_n 0, 1, 0, 0, 0, .null) from rfl) rfl
set_option maxRecDepth 8000 in
theorem vd_E163_252 : vd_wp d 163 252 ls (st) M Q = vd_wp d 163 255 ls (.int (vd_I 2941) :: st) (M) Q := vd_g_con (show vd_pI 163 252 = some (.sipush 2941, 3, 0, 0, 0, .null) from rfl) rfl (by decide)
set_option maxRecDepth 8000 in
theorem vd_E163_255 (h1 : 0 ≤ z) (h2 : z ≤ 65536) : vd_wp d 163 255 ls (.int (vd_I z) :: st) M Q = vd_wp d 163 257 ls (.ref (vd_n M) :: st) (vd_new M 32 z.toNat z.toNat) Q := vd_g_nar (show vd_pI 163 255 = some (.newarray .int, 2, 2, 0, 0, .null) from rfl) (by decide) h1 h2
set_option maxRecDepth 8000 in
theorem vd_E163_257 (h : vd_k M o = 12) : vd_wp d 163 257 ls (.ref v :: .ref o :: st) M Q = vd_wp d 163 260 ls (st) (vd_sr M o 30 (some v)) Q := vd_g_putR (show vd_pI 163 257 = some (.putfield 115, 3, 1, 12, 30, .null) from rfl) rfl h
set_option maxRecDepth 8000 in
theorem vd_E163_257n (h : vd_k M o = 12) : vd_wp d 163 257 ls (.null :: .ref o :: st) M Q = vd_wp d 163 260 ls (st) (vd_sr M o 30 none) Q := vd_g_putN (show vd_pI 163 257 = some (.putfield 115, 3, 1, 12, 30, .null) from rfl) rfl h
set_option maxRecDepth 8000 in
theorem vd_E163_260 : vd_wp d 163 260 [.ref o, a1, a2] (st) M Q = vd_wp d 163 261 [.ref o, a1, a2] (.ref o :: st) (M) Q := vd_wp_alu (show vd_pI 163 260 = some (.aload_n 0, 1, 0, 0, 0, .null) from rfl) rfl
set_option maxRecDepth 8000 in
theorem vd_E163_260n : vd_wp d 163 260 [.null, a1, a2] (st) M Q = vd_wp d 163 261 [.null, a1, a2] (.null :: st) (M) Q := vd_wp_alu (show vd_pI 163 260 = some (.aload_n 0, 1, 0, 0, 0, .null) from rfl) rfl
set_option maxRecDepth 8000 in
theorem vd_E163_261 : vd_wp d 163 261 ls (st) M Q = vd_wp d 163 262 ls (.int (vd_I 3) :: st) (M) Q := vd_wp_alu (show vd_pI 163 261 = some (.iconst 3, 1, 0, 0, 0, .null) from rfl) rfl
set_option maxRecDepth 8000 in
theorem vd_E163_262 (h1 : 0 ≤ z) (h2 : z ≤ 65536) : vd_wp d 163 262 ls (.int (vd_I z) :: st) M Q = vd_wp d 163 265 ls (.ref (vd_n M) :: st) (vd_new M 37 z.toNat z.toNat) Q := vd_g_anr (show vd_pI 163 262 = some (.anewarray 31, 3, 2, 37, 1867, .null) from rfl) (by decide) h1 h2
set_option maxRecDepth 8000 in
theorem vd_E163_265 (h : vd_k M o = 12) : vd_wp d 163 265 ls (.ref v :: .ref o :: st) M Q = vd_wp d 163 268 ls (st) (vd_sr M o 31 (some v)) Q := vd_g_putR (show vd_pI 163 265 = some (.putfield 118, 3, 1, 12, 31, .null) from rfl) rfl h
set_option maxRecDepth 8000 in
theorem vd_E163_265n (h : vd_k M o = 12) : vd_wp d 163 265 ls (.null :: .ref o :: st) M Q = vd_wp d 163 268 ls (st) (vd_sr M o 31 none) Q := vd_g_putN (show vd_pI 163 265 = some (.putfield 118, 3, 1, 12, 31, .null) from rfl) rfl h
set_option maxRecDepth 8000 in
theorem vd_E163_268 : vd_wp d 163 268 [.ref o, a1, a2] (st) M Q = vd_wp d 163 269 [.ref o, a1, a2] (.ref o :: st) (M) Q := vd_wp_alu (show vd_pI 163 268 = some (.aload_n 0, 1, 0, 0, 0, .null) from rfl) rfl
set_option maxRecDepth 8000 in
theorem vd_E163_268n : vd_wp d 163 268 [.null, a1, a2] (st) M Q = vd_wp d 163 269 [.null, a1, a2] (.null :: st) (M) Q := vd_wp_alu (show vd_pI 163 268 = some (.aload_n 0, 1, 0, 0, 0, .null) from rfl) rfl
set_option maxRecDepth 8000 in
theorem vd_E163_269 : vd_wp d 163 269 ls (st) M Q = vd_wp d 163 270 ls (.int (vd_I 3) :: st) (M) Q := vd_wp_alu (show vd_pI 163 269 = some (.iconst 3, 1, 0, 0, 0, .null) from rfl) rfl
set_option maxRecDepth 8000 in
theorem vd_E163_270 (h1 : 0 ≤ z) (h2 : z ≤ 65536) : vd_wp d 163 270 ls (.int (vd_I z) :: st) M Q = vd_wp d 163 272 ls (.ref (vd_n M) :: st) (vd_new M 32 z.toNat z.toNat) Q := vd_g_nar (show vd_pI 163 270 = some (.newarray .int, 2, 2, 0, 0, .null) from rfl) (by decide) h1 h2
set_option maxRecDepth 8000 in
theorem vd_E163_272 (h : vd_k M o = 12) : vd_wp d 163 272 ls (.ref v :: .ref o :: st) M Q = vd_wp d 163 275 ls (st) (vd_sr M o 32 (some v)) Q := vd_g_putR (show vd_pI 163 272 = some (.putfield 121, 3, 1, 12, 32, .null) from rfl) rfl h
set_option maxRecDepth 8000 in
theorem vd_E163_272n (h : vd_k M o = 12) : vd_wp d 163 272 ls (.null :: .ref o :: st) M Q = vd_wp d 163 275 ls (st) (vd_sr M o 32 none) Q := vd_g_putN (show vd_pI 163 272 = some (.putfield 121, 3, 1, 12, 32, .null) from rfl) rfl h
set_option maxRecDepth 8000 in
theorem vd_E163_275 : vd_wp d 163 275 [.ref o, a1, a2] (st) M Q = vd_wp d 163 276 [.ref o, a1, a2] (.ref o :: st) (M) Q := vd_wp_alu (show vd_pI 163 275 = some (.aload_n 0, 1, 0, 0, 0, .null) from rfl) rfl
set_option maxRecDepth 8000 in
theorem vd_E163_275n : vd_wp d 163 275 [.null, a1, a2] (st) M Q = vd_wp d 163 276 [.null, a1, a2] (.null :: st) (M) Q := vd_wp_alu (show vd_pI 163 275 = some (.aload_n 0, 1, 0, 0, 0, .null) from rfl) rfl
set_option maxRecDepth 8000 in
theorem vd_E163_276 : vd_wp d 163 276 ls (st) M Q = vd_wp d 163 277 ls (.int (vd_I 0) :: st) (M) Q := vd_wp_alu (show vd_pI 163 276 = some (.iconst 0, 1, 0, 0, 0, .null) from rfl) rfl
set_option maxRecDepth 8000 in
theorem vd_E163_277 (h0 : vd_fok .boolean x = true) (h : vd_k M o = 12) : vd_wp d 163 277 ls (.int x :: .ref o :: st) M Q = vd_wp d 163 280 ls (st) (vd_si M o 33 x) Q := vd_g_putI (show vd_pI 163 277 = some (.putfield 124, 3, 1, 12, 33, .null) from rfl) h0 h
set_option maxRecDepth 8000 in
theorem vd_E163_280 : vd_wp d 163 280 [.ref o, a1, a2] (st) M Q = vd_wp d 163 281 [.ref o, a1, a2] (.ref o :: st) (M) Q := vd_wp_alu (show vd_pI 163 280 = some (.aload_n 0, 1, 0, 0, 0, .null) from rfl) rfl
set_option maxRecDepth 8000 in
theorem vd_E163_280n : vd_wp d 163 280 [.null, a1, a2] (st) M Q = vd_wp d 163 281 [.null, a1, a2] (.null :: st) (M) Q := vd_wp_alu (show vd_pI 163 280 = some (.aload_n 0, 1, 0, 0, 0, .null) from rfl) rfl
set_option maxRecDepth 8000 in
theorem vd_E163_281 : vd_wp d 163 281 ls (st) M Q = vd_wp d 163 282 ls (.int (vd_I 0) :: st) (M) Q := vd_wp_alu (show vd_pI 163 281 = some (.iconst 0, 1, 0, 0, 0, .null) from rfl) rfl
set_option maxRecDepth 8000 in
theorem vd_E163_282 (h0 : vd_fok .boolean x = true) (h : vd_k M o = 12) : vd_wp d 163 282 ls (.int x :: .ref o :: st) M Q = vd_wp d 163 285 ls (st) (vd_si M o 34 x) Q := vd_g_putI (show vd_pI 163 282 = some (.putfield 127, 3, 1, 12, 34, .null) from rfl) h0 h
set_option maxRecDepth 8000 in
theorem vd_E163_285 : vd_wp d 163 285 [.ref o, a1, a2] (st) M Q = vd_wp d 163 286 [.ref o, a1, a2] (.ref o :: st) (M) Q := vd_wp_alu (show vd_pI 163 285 = some (.aload_n 0, 1, 0, 0, 0, .null) from rfl) rfl
set_option maxRecDepth 8000 in
theorem vd_E163_285n : vd_wp d 163 285 [.null, a1, a2] (st) M Q = vd_wp d 163 286 [.null, a1, a2] (.null :: st) (M) Q := vd_wp_alu (show vd_pI 163 285 = some (.aload_n 0, 1, 0, 0, 0, .null) from rfl) rfl
set_option maxRecDepth 8000 in
theorem vd_E163_286 : vd_wp d 163 286 ls (st) M Q = vd_wp d 163 287 ls (.int (vd_I 0) :: st) (M) Q := vd_wp_alu (show vd_pI 163 286 = some (.iconst 0, 1, 0, 0, 0, .null) from rfl) rfl
set_option maxRecDepth 8000 in
theorem vd_E163_287 (h0 : vd_fok .boolean x = true) (h : vd_k M o = 12) : vd_wp d 163 287 ls (.int x :: .ref o :: st) M Q = vd_wp d 163 290 ls (st) (vd_si M o 35 x) Q := vd_g_putI (show vd_pI 163 287 = some (.putfield 130, 3, 1, 12, 35, .null) from rfl) h0 h
set_option maxRecDepth 8000 in
theorem vd_E163_290 : vd_wp d 163 290 [.ref o, a1, a2] (st) M Q = vd_wp d 163 291 [.ref o, a1, a2] (.ref o :: st) (M) Q := vd_wp_alu (show vd_pI 163 290 = some (.aload_n 0, 1, 0, 0, 0, .null) from rfl) rfl
set_option maxRecDepth 8000 in
theorem vd_E163_290n : vd_wp d 163 290 [.null, a1, a2] (st) M Q = vd_wp d 163 291 [.null, a1, a2] (.null :: st) (M) Q := vd_wp_alu (show vd_pI 163 290 = some (.aload_n 0, 1, 0, 0, 0, .null) from rfl) rfl
set_option maxRecDepth 8000 in
theorem vd_E163_291 : vd_wp d 163 291 ls (st) M Q = vd_wp d 163 292 ls (.int (vd_I 0) :: st) (M) Q := vd_wp_alu (show vd_pI 163 291 = some (.iconst 0, 1, 0, 0, 0, .null) from rfl) rfl
set_option maxRecDepth 8000 in
theorem vd_E163_292 (h0 : vd_fok .boolean x = true) (h : vd_k M o = 12) : vd_wp d 163 292 ls (.int x :: .ref o :: st) M Q = vd_wp d 163 295 ls (st) (vd_si M o 36 x) Q := vd_g_putI (show vd_pI 163 292 = some (.putfield 133, 3, 1, 12, 36, .null) from rfl) h0 h
set_option maxRecDepth 8000 in
theorem vd_E163_295 : vd_wp d 163 295 [.ref o, a1, a2] (st) M Q = vd_wp d 163 296 [.ref o, a1, a2] (.ref o :: st) (M) Q := vd_wp_alu (show vd_pI 163 295 = some (.aload_n 0, 1, 0, 0, 0, .null) from rfl) rfl
set_option maxRecDepth 8000 in
theorem vd_E163_295n : vd_wp d 163 295 [.null, a1, a2] (st) M Q = vd_wp d 163 296 [.null, a1, a2] (.null :: st) (M) Q := vd_wp_alu (show vd_pI 163 295 = some (.aload_n 0, 1, 0, 0, 0, .null) from rfl) rfl
set_option maxRecDepth 8000 in
theorem vd_E163_296 : vd_wp d 163 296 ls (st) M Q = vd_wp d 163 297 ls (.int (vd_I 0) :: st) (M) Q := vd_wp_alu (show vd_pI 163 296 = some (.iconst 0, 1, 0, 0, 0, .null) from rfl) rfl
set_option maxRecDepth 8000 in
theorem vd_E163_297 (h0 : vd_fok .boolean x = true) (h : vd_k M o = 12) : vd_wp d 163 297 ls (.int x :: .ref o :: st) M Q = vd_wp d 163 300 ls (st) (vd_si M o 37 x) Q := vd_g_putI (show vd_pI 163 297 = some (.putfield 136, 3, 1, 12, 37, .null) from rfl) h0 h
set_option maxRecDepth 8000 in
theorem vd_E163_300 : vd_wp d 163 300 [.ref o, a1, a2] (st) M Q = vd_wp d 163 301 [.ref o, a1, a2] (.ref o :: st) (M) Q := vd_wp_alu (show vd_pI 163 300 = some (.aload_n 0, 1, 0, 0, 0, .null) from rfl) rfl
set_option maxRecDepth 8000 in
theorem vd_E163_300n : vd_wp d 163 300 [.null, a1, a2] (st) M Q = vd_wp d 163 301 [.null, a1, a2] (.null :: st) (M) Q := vd_wp_alu (show vd_pI 163 300 = some (.aload_n 0, 1, 0, 0, 0, .null) from rfl) rfl
set_option maxRecDepth 8000 in
theorem vd_E163_301 : vd_wp d 163 301 ls (st) M Q = vd_wp d 163 302 ls (.int (vd_I 0) :: st) (M) Q := vd_wp_alu (show vd_pI 163 301 = some (.iconst 0, 1, 0, 0, 0, .null) from rfl) rfl
set_option maxRecDepth 8000 in
theorem vd_E163_302 (h0 : vd_fok .boolean x = true) (h : vd_k M o = 12) : vd_wp d 163 302 ls (.int x :: .ref o :: st) M Q = vd_wp d 163 305 ls (st) (vd_si M o 38 x) Q := vd_g_putI (show vd_pI 163 302 = some (.putfield 139, 3, 1, 12, 38, .null) from rfl) h0 h
set_option maxRecDepth 8000 in
theorem vd_E163_305 : vd_wp d 163 305 [.ref o, a1, a2] (st) M Q = vd_wp d 163 306 [.ref o, a1, a2] (.ref o :: st) (M) Q := vd_wp_alu (show vd_pI 163 305 = some (.aload_n 0, 1, 0, 0, 0, .null) from rfl) rfl
set_option maxRecDepth 8000 in
theorem vd_E163_305n : vd_wp d 163 305 [.null, a1, a2] (st) M Q = vd_wp d 163 306 [.null, a1, a2] (.null :: st) (M) Q := vd_wp_alu (show vd_pI 163 305 = some (.aload_n 0, 1, 0, 0, 0, .null) from rfl) rfl
set_option maxRecDepth 8000 in
theorem vd_E163_306 : vd_wp d 163 306 ls (st) M Q = vd_wp d 163 307 ls (.int (vd_I 0) :: st) (M) Q := vd_wp_alu (show vd_pI 163 306 = some (.iconst 0, 1, 0, 0, 0, .null) from rfl) rfl
set_option maxRecDepth 8000 in
theorem vd_E163_307 (h0 : vd_fok .boolean x = true) (h : vd_k M o = 12) : vd_wp d 163 307 ls (.int x :: .ref o :: st) M Q = vd_wp d 163 310 ls (st) (vd_si M o 39 x) Q := vd_g_putI (show vd_pI 163 307 = some (.putfield 142, 3, 1, 12, 39, .null) from rfl) h0 h
set_option maxRecDepth 8000 in
theorem vd_E163_310 : vd_wp d 163 310 [.ref o, a1, a2] (st) M Q = vd_wp d 163 311 [.ref o, a1, a2] (.ref o :: st) (M) Q := vd_wp_alu (show vd_pI 163 310 = some (.aload_n 0, 1, 0, 0, 0, .null) from rfl) rfl
set_option maxRecDepth 8000 in
theorem vd_E163_310n : vd_wp d 163 310 [.null, a1, a2] (st) M Q = vd_wp d 163 311 [.null, a1, a2] (.null :: st) (M) Q := vd_wp_alu (show vd_pI 163 310 = some (.aload_n 0, 1, 0, 0, 0, .null) from rfl) rfl
set_option maxRecDepth 8000 in
theorem vd_E163_311 : vd_wp d 163 311 ls (st) M Q = vd_wp d 163 312 ls (.int (vd_I 0) :: st) (M) Q := vd_wp_alu (show vd_pI 163 311 = some (.iconst 0, 1, 0, 0, 0, .null) from rfl) rfl
set_option maxRecDepth 8000 in
theorem vd_E163_312 (h : vd_k M o = 12) : vd_wp d 163 312 ls (.int x :: .ref o :: st) M Q = vd_wp d 163 315 ls (st) (vd_si M o 40 x) Q := vd_g_putI (show vd_pI 163 312 = some (.putfield 145, 3, 1, 12, 40, .null) from rfl) rfl h
set_option maxRecDepth 8000 in
theorem vd_E163_315 : vd_wp d 163 315 [.ref o, a1, a2] (st) M Q = vd_wp d 163 316 [.ref o, a1, a2] (.ref o :: st) (M) Q := vd_wp_alu (show vd_pI 163 315 = some (.aload_n 0, 1, 0, 0, 0, .null) from rfl) rfl
set_option maxRecDepth 8000 in
theorem vd_E163_315n : vd_wp d 163 315 [.null, a1, a2] (st) M Q = vd_wp d 163 316 [.null, a1, a2] (.null :: st) (M) Q := vd_wp_alu (show vd_pI 163 315 = some (.aload_n 0, 1, 0, 0, 0, .null) from rfl) rfl
set_option maxRecDepth 8000 in
theorem vd_E163_316 : vd_wp d 163 316 ls (st) M Q = vd_wp d 163 317 ls (.int (vd_I 0) :: st) (M) Q := vd_wp_alu (show vd_pI 163 316 = some (.iconst 0, 1, 0, 0, 0, .null) from rfl) rfl
set_option maxRecDepth 8000 in
theorem vd_E163_317 (h : vd_k M o = 12) : vd_wp d 163 317 ls (.int x :: .ref o :: st) M Q = vd_wp d 163 320 ls (st) (vd_si M o 41 x) Q := vd_g_putI (show vd_pI 163 317 = some (.putfield 148, 3, 1, 12, 41, .null) from rfl) rfl h
set_option maxRecDepth 8000 in
theorem vd_E163_320 : vd_wp d 163 320 [.ref o, a1, a2] (st) M Q = vd_wp d 163 321 [.ref o, a1, a2] (.ref o :: st) (M) Q := vd_wp_alu (show vd_pI 163 320 = some (.aload_n 0, 1, 0, 0, 0, .null) from rfl) rfl
set_option maxRecDepth 8000 in
theorem vd_E163_320n : vd_wp d 163 320 [.null, a1, a2] (st) M Q = vd_wp d 163 321 [.null, a1, a2] (.null :: st) (M) Q := vd_wp_alu (show vd_pI 163 320 = some (.aload_n 0, 1, 0, 0, 0, .null) from rfl) rfl
set_option maxRecDepth 8000 in
theorem vd_E163_321 : vd_wp d 163 321 ls (st) M Q = vd_wp d 163 322 ls (.int (vd_I 0) :: st) (M) Q := vd_wp_alu (show vd_pI 163 321 = some (.iconst 0, 1, 0, 0, 0, .null) from rfl) rfl
set_option maxRecDepth 8000 in
theorem vd_E163_322 (h : vd_k M o = 12) : vd_wp d 163 322 ls (.int x :: .ref o :: st) M Q = vd_wp d 163 325 ls (st) (vd_si M o 42 x) Q := vd_g_putI (show vd_pI 163 322 = some (.putfield 151, 3, 1, 12, 42, .null) from rfl) rfl h
set_option maxRecDepth 8000 in
theorem vd_E163_325 : vd_wp d 163 325 [.ref o, a1, a2] (st) M Q = vd_wp d 163 326 [.ref o, a1, a2] (.ref o :: st) (M) Q := vd_wp_alu (show vd_pI 163 325 = some (.aload_n 0, 1, 0, 0, 0, .null) from rfl) rfl
set_option maxRecDepth 8000 in
theorem vd_E163_325n : vd_wp d 163 325 [.null, a1, a2] (st) M Q = vd_wp d 163 326 [.null, a1, a2] (.null :: st) (M) Q := vd_wp_alu (show vd_pI 163 325 = some (.aload_n 0, 1, 0, 0, 0, .null) from rfl) rfl
set_option maxRecDepth 8000 in
theorem vd_E163_326 : vd_wp d 163 326 ls (st) M Q = vd_wp d 163 327 ls (.int (vd_I 0) :: st) (M) Q := vd_wp_alu (show vd_pI 163 326 = some (.iconst 0, 1, 0, 0, 0, .null) from rfl) rfl
set_option maxRecDepth 8000 in
theorem vd_E163_327 (h : vd_k M o = 12) : vd_wp d 163 327 ls (.int x :: .ref o :: st) M Q = vd_wp d 163 330 ls (st) (vd_si M o 43 x) Q := vd_g_putI (show vd_pI 163 327 = some (.putfield 154, 3, 1, 12, 43, .null) from rfl) rfl h
set_option maxRecDepth 8000 in
theorem vd_E163_330 : vd_wp d 163 330 [.ref o, a1, a2] (st) M Q = vd_wp d 163 331 [.ref o, a1, a2] (.ref o :: st) (M) Q := vd_wp_alu (show vd_pI 163 330 = some (.aload_n 0, 1, 0, 0, 0, .null) from rfl) rfl
set_option maxRecDepth 8000 in
theorem vd_E163_330n : vd_wp d 163 330 [.null, a1, a2] (st) M Q = vd_wp d 163 331 [.null, a1, a2] (.null :: st) (M) Q := vd_wp_alu (show vd_pI 163 330 = some (.aload_n 0, 1, 0, 0, 0, .null) from rfl) rfl
set_option maxRecDepth 8000 in
theorem vd_E163_331 : vd_wp d 163 331 ls (st) M Q = vd_wp d 163 332 ls (.int (vd_I 0) :: st) (M) Q := vd_wp_alu (show vd_pI 163 331 = some (.iconst 0, 1, 0, 0, 0, .null) from rfl) rfl
set_option maxRecDepth 8000 in
theorem vd_E163_332 (h : vd_k M o = 12) : vd_wp d 163 332 ls (.int x :: .ref o :: st) M Q = vd_wp d 163 335 ls (st) (vd_si M o 44 x) Q := vd_g_putI (show vd_pI 163 332 = some (.putfield 157, 3, 1, 12, 44, .null) from rfl) rfl h
set_option maxRecDepth 8000 in
theorem vd_E163_335 : vd_wp d 163 335 [.ref o, a1, a2] (st) M Q = vd_wp d 163 336 [.ref o, a1, a2] (.ref o :: st) (M) Q := vd_wp_alu (show vd_pI 163 335 = some (.aload_n 0, 1, 0, 0, 0, .null) from rfl) rfl
set_option maxRecDepth 8000 in
theorem vd_E163_335n : vd_wp d 163 335 [.null, a1, a2] (st) M Q = vd_wp d 163 336 [.null, a1, a2] (.null :: st) (M) Q := vd_wp_alu (show vd_pI 163 335 = some (.aload_n 0, 1, 0, 0, 0, .null) from rfl) rfl
set_option maxRecDepth 8000 in
theorem vd_E163_336 : vd_wp d 163 336 ls (st) M Q = vd_wp d 163 337 ls (.int (vd_I 0) :: st) (M) Q := vd_wp_alu (show vd_pI 163 336 = some (.iconst 0, 1, 0, 0, 0, .null) from rfl) rfl
set_option maxRecDepth 8000 in
theorem vd_E163_337 (h : vd_k M o = 12) : vd_wp d 163 337 ls (.int x :: .ref o :: st) M Q = vd_wp d 163 340 ls (st) (vd_si M o 45 x) Q := vd_g_putI (show vd_pI 163 337 = some (.putfield 160, 3, 1, 12, 45, .null) from rfl) rfl h
set_option maxRecDepth 8000 in
theorem vd_E163_340 : vd_wp d 163 340 [.ref o, a1, a2] (st) M Q = vd_wp d 163 341 [.ref o, a1, a2] (.ref o :: st) (M) Q := vd_wp_alu (show vd_pI 163 340 = some (.aload_n 0, 1, 0, 0, 0, .null) from rfl) rfl
set_option maxRecDepth 8000 in
theorem vd_E163_340n : vd_wp d 163 340 [.null, a1, a2] (st) M Q = vd_wp d 163 341 [.null, a1, a2] (.null :: st) (M) Q := vd_wp_alu (show vd_pI 163 340 = some (.aload_n 0, 1, 0, 0, 0, .null) from rfl) rfl
set_option maxRecDepth 8000 in
theorem vd_E163_341 : vd_wp d 163 341 ls (st) M Q = vd_wp d 163 342 ls (.int (vd_I 0) :: st) (M) Q := vd_wp_alu (show vd_pI 163 341 = some (.iconst 0, 1, 0, 0, 0, .null) from rfl) rfl
set_option maxRecDepth 8000 in
theorem vd_E163_342 (h : vd_k M o = 12) : vd_wp d 163 342 ls (.int x :: .ref o :: st) M Q = vd_wp d 163 345 ls (st) (vd_si M o 46 x) Q := vd_g_putI (show vd_pI 163 342 = some (.putfield 163, 3, 1, 12, 46, .null) from rfl) rfl h
set_option maxRecDepth 8000 in
theorem vd_E163_345 : vd_wp d 163 345 [.ref o, a1, a2] (st) M Q = vd_wp d 163 346 [.ref o, a1, a2] (.ref o :: st) (M) Q := vd_wp_alu (show vd_pI 163 345 = some (.aload_n 0, 1, 0, 0, 0, .null) from rfl) rfl
set_option maxRecDepth 8000 in
theorem vd_E163_345n : vd_wp d 163 345 [.null, a1, a2] (st) M Q = vd_wp d 163 346 [.null, a1, a2] (.null :: st) (M) Q := vd_wp_alu (show vd_pI 163 345 = some (.aload_n 0, 1, 0, 0, 0, .null) from rfl) rfl
set_option maxRecDepth 8000 in
theorem vd_E163_346 : vd_wp d 163 346 ls (st) M Q = vd_wp d 163 347 ls (.int (vd_I 0) :: st) (M) Q := vd_wp_alu (show vd_pI 163 346 = some (.iconst 0, 1, 0, 0, 0, .null) from rfl) rfl
set_option maxRecDepth 8000 in
theorem vd_E163_347 (h : vd_k M o = 12) : vd_wp d 163 347 ls (.int x :: .ref o :: st) M Q = vd_wp d 163 350 ls (st) (vd_si M o 47 x) Q := vd_g_putI (show vd_pI 163 347 = some (.putfield 166, 3, 1, 12, 47, .null) from rfl) rfl h
set_option maxRecDepth 8000 in
theorem vd_E163_350 : vd_wp d 163 350 [.ref o, a1, a2] (st) M Q = vd_wp d 163 351 [.ref o, a1, a2] (.ref o :: st) (M) Q := vd_wp_alu (show vd_pI 163 350 = some (.aload_n 0, 1, 0, 0, 0, .null) from rfl) rfl
set_option maxRecDepth 8000 in
theorem vd_E163_350n : vd_wp d 163 350 [.null, a1, a2] (st) M Q = vd_wp d 163 351 [.null, a1, a2] (.null :: st) (M) Q := vd_wp_alu (show vd_pI 163 350 = some (.aload_n 0, 1, 0, 0, 0, .null) from rfl) rfl
set_option maxRecDepth 8000 in
theorem vd_E163_351 : vd_wp d 163 351 ls (st) M Q = vd_wp d 163 352 ls (.int (vd_I 0) :: st) (M) Q := vd_wp_alu (show vd_pI 163 351 = some (.iconst 0, 1, 0, 0, 0, .null) from rfl) rfl
set_option maxRecDepth 8000 in
theorem vd_E163_352 (h0 : vd_fok .boolean x = true) (h : vd_k M o = 12) : vd_wp d 163 352 ls (.int x :: .ref o :: st) M Q = vd_wp d 163 355 ls (st) (vd_si M o 48 x) Q := vd_g_putI (show vd_pI 163 352 = some (.putfield 169, 3, 1, 12, 48, .null) from rfl) h0 h
set_option maxRecDepth 8000 in
theorem vd_E163_355 : vd_wp d 163 355 [.ref o, a1, a2] (st) M Q = vd_wp d 163 356 [.ref o, a1, a2] (.ref o :: st) (M) Q := vd_wp_alu (show vd_pI 163 355 = some (.aload_n 0, 1, 0, 0, 0, .null) from rfl) rfl
set_option maxRecDepth 8000 in
theorem vd_E163_355n : vd_wp d 163 355 [.null, a1, a2] (st) M Q = vd_wp d 163 356 [.null, a1, a2] (.null :: st) (M) Q := vd_wp_alu (show vd_pI 163 355 = some (.aload_n 0, 1, 0, 0, 0, .null) from rfl) rfl
set_option maxRecDepth 8000 in
theorem vd_E163_356 : vd_wp d 163 356 ls (st) M Q = vd_wp d 163 357 ls (.int (vd_I 3) :: st) (M) Q := vd_wp_alu (show vd_pI 163 356 = some (.iconst 3, 1, 0, 0, 0, .null) from rfl) rfl
set_option maxRecDepth 8000 in
theorem vd_E163_357 (h1 : 0 ≤ z) (h2 : z ≤ 65536) : vd_wp d 163 357 ls (.int (vd_I z) :: st) M Q = vd_wp d 163 359 ls (.ref (vd_n M) :: st) (vd_new M 32 z.toNat z.toNat) Q := vd_g_nar (show vd_pI 163 357 = some (.newarray .int, 2, 2, 0, 0, .null) from rfl) (by decide) h1 h2
set_option maxRecDepth 8000 in
theorem vd_E163_359 (h : vd_k M o = 12) : vd_wp d 163 359 ls (.ref v :: .ref o :: st) M Q = vd_wp d 163 362 ls (st) (vd_sr M o 49 (some v)) Q := vd_g_putR (show vd_pI 163 359 = some (.putfield 172, 3, 1, 12, 49, .null) from rfl) rfl h
set_option maxRecDepth 8000 in
theorem vd_E163_359n (h : vd_k M o = 12) : vd_wp d 163 359 ls (.null :: .ref o :: st) M Q = vd_wp d 163 362 ls (st) (vd_sr M o 49 none) Q := vd_g_putN (show vd_pI 163 359 = some (.putfield 172, 3, 1, 12, 49, .null) from rfl) rfl h
set_option maxRecDepth 8000 in
theorem vd_E163_362 : vd_wp d 163 362 [.ref o, a1, a2] (st) M Q = vd_wp d 163 363 [.ref o, a1, a2] (.ref o :: st) (M) Q := vd_wp_alu (show vd_pI 163 362 = some (.aload_n 0, 1, 0, 0, 0, .null) from rfl) rfl
set_option maxRecDepth 8000 in
theorem vd_E163_362n : vd_wp d 163 362 [.null, a1, a2] (st) M Q = vd_wp d 163 363 [.null, a1, a2] (.null :: st) (M) Q := vd_wp_alu (show vd_pI 163 362 = some (.aload_n 0, 1, 0, 0, 0, .null) from rfl) rfl
set_option maxRecDepth 8000 in
theorem vd_E163_363 : vd_wp d 163 363 ls (st) M Q = vd_wp d 163 365 ls (.int (vd_I 7) :: st) (M) Q := vd_g_con (show vd_pI 163 363 = some (.bipush 7, 2, 0, 0, 0, .null) from rfl) rfl (by decide)
set_option maxRecDepth 8000 in
theorem vd_E163_365 (h1 : 0 ≤ z) (h2 : z ≤ 65536) : vd_wp d 163 365 ls (.int (vd_I z) :: st) M Q = vd_wp d 163 367 ls (.ref (vd_n M) :: st) (vd_new M 32 z.toNat z.toNat) Q := vd_g_nar (show vd_pI 163 365 = some (.newarray .int, 2, 2, 0, 0, .null) from rfl) (by decide) h1 h2
set_option maxRecDepth 8000 in
theorem vd_E163_367 (h : vd_k M o = 12) : vd_wp d 163 367 ls (.ref v :: .ref o :: st) M Q = vd_wp d 163 370 ls (st) (vd_sr M o 50 (some v)) Q := vd_g_putR (show vd_pI 163 367 = some (.putfield 175, 3, 1, 12, 50, .null) from rfl) rfl h
set_option maxRecDepth 8000 in
theorem vd_E163_367n (h : vd_k M o = 12) : vd_wp d 163 367 ls (.null :: .ref o :: st) M Q = vd_wp d 163 370 ls (st) (vd_sr M o 50 none) Q := vd_g_putN (show vd_pI 163 367 = some (.putfield 175, 3, 1, 12, 50, .null) from rfl) rfl h
set_option maxRecDepth 8000 in
theorem vd_E163_370 : vd_wp d 163 370 [.ref o, a1, a2] (st) M Q = vd_wp d 163 371 [.ref o, a1, a2] (.ref o :: st) (M) Q := vd_wp_alu (show vd_pI 163 370 = some (.aload_n 0, 1, 0, 0, 0, .null) from rfl) rfl
set_option maxRecDepth 8000 in
theorem vd_E163_370n : vd_wp d 163 370 [.null, a1, a2] (st) M Q = vd_wp d 163 371 [.null, a1, a2] (.null :: st) (M) Q := vd_wp_alu (show vd_pI 163 370 = some (.aload_n 0, 1, 0, 0, 0, .null) from rfl) rfl
set_option maxRecDepth 8000 in
theorem vd_E163_371 : vd_wp d 163 371 ls (st) M Q = vd_wp d 163 372 ls (.int (vd_I 3) :: st) (M) Q := vd_wp_alu (show vd_pI 163 371 = some (.iconst 3, 1, 0, 0, 0, .null) from rfl) rfl
set_option maxRecDepth 8000 in
theorem vd_E163_372 (h1 : 0 ≤ z) (h2 : z ≤ 65536) : vd_wp d 163 372 ls (.int (vd_I z) :: st) M Q = vd_wp d 163 374 ls (.ref (vd_n M) :: st) (vd_new M 32 z.toNat z.toNat) Q := vd_g_nar (show vd_pI 163 372 = some (.newarray .int, 2, 2, 0, 0, .null) from rfl) (by decide) h1 h2
set_option maxRecDepth 8000 in
theorem vd_E163_374 (h : vd_k M o = 12) : vd_wp d 163 374 ls (.ref v :: .ref o :: st) M Q = vd_wp d 163 377 ls (st) (vd_sr M o 51 (some v)) Q := vd_g_putR (show vd_pI 163 374 = some (.putfield 178, 3, 1, 12, 51, .null) from rfl) rfl h
set_option maxRecDepth 8000 in
theorem vd_E163_374n (h : vd_k M o = 12) : vd_wp d 163 374 ls (.null :: .ref o :: st) M Q = vd_wp d 163 377 ls (st) (vd_sr M o 51 none) Q := vd_g_putN (show vd_pI 163 374 = some (.putfield 178, 3, 1, 12, 51, .null) from rfl) rfl h
set_option maxRecDepth 8000 in
theorem vd_E163_377 : vd_wp d 163 377 [.ref o, a1, a2] (st) M Q = vd_wp d 163 378 [.ref o, a1, a2] (.ref o :: st) (M) Q := vd_wp_alu (show vd_pI 163 377 = some (.aload_n 0, 1, 0, 0, 0, .null) from rfl) rfl
set_option maxRecDepth 8000 in
theorem vd_E163_377n : vd_wp d 163 377 [.null, a1, a2] (st) M Q = vd_wp d 163 378 [.null, a1, a2] (.null :: st) (M) Q := vd_wp_alu (show vd_pI 163 377 = some (.aload_n 0, 1, 0, 0, 0, .null) from rfl) rfl
set_option maxRecDepth 8000 in
theorem vd_E163_378 : vd_wp d 163 378 ls (st) M Q = vd_wp d 163 381 ls (.int (vd_I 576) :: st) (M) Q := vd_g_con (show vd_pI 163 378 = some (.sipush 576, 3, 0, 0, 0, .null) from rfl) rfl (by decide)
set_option maxRecDepth 8000 in
theorem vd_E163_381 (h1 : 0 ≤ z) (h2 : z ≤ 65536) : vd_wp d 163 381 ls (.int (vd_I z) :: st) M Q = vd_wp d 163 383 ls (.ref (vd_n M) :: st) (vd_new M 34 z.toNat z.toNat) Q := vd_g_nar (show vd_pI 163 381 = some (.newarray .boolean, 2, 2, 0, 0, .null) from rfl) (by decide) h1 h2
set_option maxRecDepth 8000 in
theorem vd_E163_383 (h : vd_k M o = 12) : vd_wp d 163 383 ls (.ref v :: .ref o :: st) M Q = vd_wp d 163 386 ls (st) (vd_sr M o 52 (some v)) Q := vd_g_putR (show vd_pI 163 383 = some (.putfield 181, 3, 1, 12, 52, .null) from rfl) rfl h
set_option maxRecDepth 8000 in
theorem vd_E163_383n (h : vd_k M o = 12) : vd_wp d 163 383 ls (.null :: .ref o :: st) M Q = vd_wp d 163 386 ls (st) (vd_sr M o 52 none) Q := vd_g_putN (show vd_pI 163 383 = some (.putfield 181, 3, 1, 12, 52, .null) from rfl) rfl h
set_option maxRecDepth 8000 in
theorem vd_E163_386 : vd_wp d 163 386 [.ref o, a1, a2] (st) M Q = vd_wp d 163 387 [.ref o, a1, a2] (.ref o :: st) (M) Q := vd_wp_alu (show vd_pI 163 386 = some (.aload_n 0, 1, 0, 0, 0, .null) from rfl) rfl
set_option maxRecDepth 8000 in
theorem vd_E163_386n : vd_wp d 163 386 [.null, a1, a2] (st) M Q = vd_wp d 163 387 [.null, a1, a2] (.null :: st) (M) Q := vd_wp_alu (show vd_pI 163 386 = some (.aload_n 0, 1, 0, 0, 0, .null) from rfl) rfl
set_option maxRecDepth 8000 in
theorem vd_E163_387 : vd_wp d 163 387 ls (st) M Q = vd_wp d 163 390 ls (.int (vd_I 576) :: st) (M) Q := vd_g_con (show vd_pI 163 387 = some (.sipush 576, 3, 0, 0, 0, .null) from rfl) rfl (by decide)
set_option maxRecDepth 8000 in
theorem vd_E163_390 (h1 : 0 ≤ z) (h2 : z ≤ 65536) : vd_wp d 163 390 ls (.int (vd_I z) :: st) M Q = vd_wp d 163 392 ls (.ref (vd_n M) :: st) (vd_new M 34 z.toNat z.toNat) Q := vd_g_nar (show vd_pI 163 390 = some (.newarray .boolean, 2, 2, 0, 0, .null) from rfl) (by decide) h1 h2
set_option maxRecDepth 8000 in
theorem vd_E163_392 (h : vd_k M o = 12) : vd_wp d 163 392 ls (.ref v :: .ref o :: st) M Q = vd_wp d 163 395 ls (st) (vd_sr M o 53 (some v)) Q := vd_g_putR (show vd_pI 163 392 = some (.putfield 184, 3, 1, 12, 53, .null) from rfl) rfl h
set_option maxRecDepth 8000 in
theorem vd_E163_392n (h : vd_k M o = 12) : vd_wp d 163 392 ls (.null :: .ref o :: st) M Q = vd_wp d 163 395 ls (st) (vd_sr M o 53 none) Q := vd_g_putN (show vd_pI 163 392 = some (.putfield 184, 3, 1, 12, 53, .null) from rfl) rfl h
set_option maxRecDepth 8000 in
theorem vd_E163_395 : vd_wp d 163 395 [.ref o, a1, a2] (st) M Q = vd_wp d 163 396 [.ref o, a1, a2] (.ref o :: st) (M) Q := vd_wp_alu (show vd_pI 163 395 = some (.aload_n 0, 1, 0, 0, 0, .null) from rfl) rfl
set_option maxRecDepth 8000 in
theorem vd_E163_395n : vd_wp d 163 395 [.null, a1, a2] (st) M Q = vd_wp d 163 396 [.null, a1, a2] (.null :: st) (M) Q := vd_wp_alu (show vd_pI 163 395 = some (.aload_n 0, 1, 0, 0, 0, .null) from rfl) rfl
set_option maxRecDepth 8000 in
theorem vd_E163_396 : vd_wp d 163 396 ls (st) M Q = vd_wp d 163 399 ls (.int (vd_I 576) :: st) (M) Q := vd_g_con (show vd_pI 163 396 = some (.sipush 576, 3, 0, 0, 0, .null) from rfl) rfl (by decide)
set_option maxRecDepth 8000 in
theorem vd_E163_399 (h1 : 0 ≤ z) (h2 : z ≤ 65536) : vd_wp d 163 399 ls (.int (vd_I z) :: st) M Q = vd_wp d 163 401 ls (.ref (vd_n M) :: st) (vd_new M 34 z.toNat z.toNat) Q := vd_g_nar (show vd_pI 163 399 = some (.newarray .boolean, 2, 2, 0, 0, .null) from rfl) (by decide) h1 h2
set_option maxRecDepth 8000 in
theorem vd_E163_401 (h : vd_k M o = 12) : vd_wp d 163 401 ls (.ref v :: .ref o :: st) M Q = vd_wp d 163 404 ls (st) (vd_sr M o 54 (some v)) Q := vd_g_putR (show vd_pI 163 401 = some (.putfield 187, 3, 1, 12, 54, .null) from rfl) rfl h
set_option maxRecDepth 8000 in
theorem vd_E163_401n (h : vd_k M o = 12) : vd_wp d 163 401 ls (.null :: .ref o :: st) M Q = vd_wp d 163 404 ls (st) (vd_sr M o 54 none) Q := vd_g_putN (show vd_pI 163 401 = some (.putfield 187, 3, 1, 12, 54, .null) from rfl) rfl h
set_option maxRecDepth 8000 in
theorem vd_E163_404 : vd_wp d 163 404 [.ref o, a1, a2] (st) M Q = vd_wp d 163 405 [.ref o, a1, a2] (.ref o :: st) (M) Q := vd_wp_alu (show vd_pI 163 404 = some (.aload_n 0, 1, 0, 0, 0, .null) from rfl) rfl
set_option maxRecDepth 8000 in
theorem vd_E163_404n : vd_wp d 163 404 [.null, a1, a2] (st) M Q = vd_wp d 163 405 [.null, a1, a2] (.null :: st) (M) Q := vd_wp_alu (show vd_pI 163 404 = some (.aload_n 0, 1, 0, 0, 0, .null) from rfl) rfl
set_option maxRecDepth 8000 in
theorem vd_E163_405 : vd_wp d 163 405 ls (st) M Q = vd_wp d 163 408 ls (.int (vd_I 576) :: st) (M) Q := vd_g_con (show vd_pI 163 405 = some (.sipush 576, 3, 0, 0, 0, .null) from rfl) rfl (by decide)
set_option maxRecDepth 8000 in
theorem vd_E163_408 (h1 : 0 ≤ z) (h2 : z ≤ 65536) : vd_wp d 163 408 ls (.int (vd_I z) :: st) M Q = vd_wp d 163 410 ls (.ref (vd_n M) :: st) (vd_new M 34 z.toNat z.toNat) Q := vd_g_nar (show vd_pI 163 408 = some (.newarray .boolean, 2, 2, 0, 0, .null) from rfl) (by decide) h1 h2
set_option maxRecDepth 8000 in
theorem vd_E163_410 (h : vd_k M o = 12) : vd_wp d 163 410 ls (.ref v :: .ref o :: st) M Q = vd_wp d 163 413 ls (st) (vd_sr M o 55 (some v)) Q := vd_g_putR (show vd_pI 163 410 = some (.putfield 190, 3, 1, 12, 55, .null) from rfl) rfl h
set_option maxRecDepth 8000 in
theorem vd_E163_410n (h : vd_k M o = 12) : vd_wp d 163 410 ls (.null :: .ref o :: st) M Q = vd_wp d 163 413 ls (st) (vd_sr M o 55 none) Q := vd_g_putN (show vd_pI 163 410 = some (.putfield 190, 3, 1, 12, 55, .null) from rfl) rfl h
set_option maxRecDepth 8000 in
theorem vd_E163_413 : vd_wp d 163 413 [.ref o, a1, a2] (st) M Q = vd_wp d 163 414 [.ref o, a1, a2] (.ref o :: st) (M) Q := vd_wp_alu (show vd_pI 163 413 = some (.aload_n 0, 1, 0, 0, 0, .null) from rfl) rfl
set_option maxRecDepth 8000 in
theorem vd_E163_413n : vd_wp d 163 413 [.null, a1, a2] (st) M Q = vd_wp d 163 414 [.null, a1, a2] (.null :: st) (M) Q := vd_wp_alu (show vd_pI 163 413 = some (.aload_n 0, 1, 0, 0, 0, .null) from rfl) rfl
set_option maxRecDepth 8000 in
theorem vd_E163_414 : vd_wp d 163 414 ls (st) M Q = vd_wp d 163 417 ls (.int (vd_I 576) :: st) (M) Q := vd_g_con (show vd_pI 163 414 = some (.sipush 576, 3, 0, 0, 0, .null) from rfl) rfl (by decide)
set_option maxRecDepth 8000 in
theorem vd_E163_417 (h1 : 0 ≤ z) (h2 : z ≤ 65536) : vd_wp d 163 417 ls (.int (vd_I z) :: st) M Q = vd_wp d 163 419 ls (.ref (vd_n M) :: st) (vd_new M 32 z.toNat z.toNat) Q := vd_g_nar (show vd_pI 163 417 = some (.newarray .int, 2, 2, 0, 0, .null) from rfl) (by decide) h1 h2
set_option maxRecDepth 8000 in
theorem vd_E163_419 (h : vd_k M o = 12) : vd_wp d 163 419 ls (.ref v :: .ref o :: st) M Q = vd_wp d 163 422 ls (st) (vd_sr M o 56 (some v)) Q := vd_g_putR (show vd_pI 163 419 = some (.putfield 193, 3, 1, 12, 56, .null) from rfl) rfl h
set_option maxRecDepth 8000 in
theorem vd_E163_419n (h : vd_k M o = 12) : vd_wp d 163 419 ls (.null :: .ref o :: st) M Q = vd_wp d 163 422 ls (st) (vd_sr M o 56 none) Q := vd_g_putN (show vd_pI 163 419 = some (.putfield 193, 3, 1, 12, 56, .null) from rfl) rfl h
set_option maxRecDepth 8000 in
theorem vd_E163_422 : vd_wp d 163 422 [.ref o, a1, a2] (st) M Q = vd_wp d 163 423 [.ref o, a1, a2] (.ref o :: st) (M) Q := vd_wp_alu (show vd_pI 163 422 = some (.aload_n 0, 1, 0, 0, 0, .null) from rfl) rfl
set_option maxRecDepth 8000 in
theorem vd_E163_422n : vd_wp d 163 422 [.null, a1, a2] (st) M Q = vd_wp d 163 423 [.null, a1, a2] (.null :: st) (M) Q := vd_wp_alu (show vd_pI 163 422 = some (.aload_n 0, 1, 0, 0, 0, .null) from rfl) rfl
set_option maxRecDepth 8000 in
theorem vd_E163_423 : vd_wp d 163 423 ls (st) M Q = vd_wp d 163 426 ls (.int (vd_I 576) :: st) (M) Q := vd_g_con (show vd_pI 163 423 = some (.sipush 576, 3, 0, 0, 0, .null) from rfl) rfl (by decide)
set_option maxRecDepth 8000 in
theorem vd_E163_426 (h1 : 0 ≤ z) (h2 : z ≤ 65536) : vd_wp d 163 426 ls (.int (vd_I z) :: st) M Q = vd_wp d 163 428 ls (.ref (vd_n M) :: st) (vd_new M 32 z.toNat z.toNat) Q := vd_g_nar (show vd_pI 163 426 = some (.newarray .int, 2, 2, 0, 0, .null) from rfl) (by decide) h1 h2
set_option maxRecDepth 8000 in
theorem vd_E163_428 (h : vd_k M o = 12) : vd_wp d 163 428 ls (.ref v :: .ref o :: st) M Q = vd_wp d 163 431 ls (st) (vd_sr M o 57 (some v)) Q := vd_g_putR (show vd_pI 163 428 = some (.putfield 196, 3, 1, 12, 57, .null) from rfl) rfl h
set_option maxRecDepth 8000 in
theorem vd_E163_428n (h : vd_k M o = 12) : vd_wp d 163 428 ls (.null :: .ref o :: st) M Q = vd_wp d 163 431 ls (st) (vd_sr M o 57 none) Q := vd_g_putN (show vd_pI 163 428 = some (.putfield 196, 3, 1, 12, 57, .null) from rfl) rfl h
set_option maxRecDepth 8000 in
theorem vd_E163_431 : vd_wp d 163 431 [.ref o, a1, a2] (st) M Q = vd_wp d 163 432 [.ref o, a1, a2] (.ref o :: st) (M) Q := vd_wp_alu (show vd_pI 163 431 = some (.aload_n 0, 1, 0, 0, 0, .null) from rfl) rfl
set_option maxRecDepth 8000 in
theorem vd_E163_431n : vd_wp d 163 431 [.null, a1, a2] (st) M Q = vd_wp d 163 432 [.null, a1, a2] (.null :: st) (M) Q := vd_wp_alu (show vd_pI 163 431 = some (.aload_n 0, 1, 0, 0, 0, .null) from rfl) rfl
set_option maxRecDepth 8000 in
theorem vd_E163_432 : vd_wp d 163 432 ls (st) M Q = vd_wp d 163 435 ls (.int (vd_I 576) :: st) (M) Q := vd_g_con (show vd_pI 163 432 = some (.sipush 576, 3, 0, 0, 0, .null) from rfl) rfl (by decide)
set_option maxRecDepth 8000 in
theorem vd_E163_435 (h1 : 0 ≤ z) (h2 : z ≤ 65536) : vd_wp d 163 435 ls (.int (vd_I z) :: st) M Q = vd_wp d 163 437 ls (.ref (vd_n M) :: st) (vd_new M 32 z.toNat z.toNat) Q := vd_g_nar (show vd_pI 163 435 = some (.newarray .int, 2, 2, 0, 0, .null) from rfl) (by decide) h1 h2
set_option maxRecDepth 8000 in
theorem vd_E163_437 (h : vd_k M o = 12) : vd_wp d 163 437 ls (.ref v :: .ref o :: st) M Q = vd_wp d 163 440 ls (st) (vd_sr M o 58 (some v)) Q := vd_g_putR (show vd_pI 163 437 = some (.putfield 199, 3, 1, 12, 58, .null) from rfl) rfl h
set_option maxRecDepth 8000 in
theorem vd_E163_437n (h : vd_k M o = 12) : vd_wp d 163 437 ls (.null :: .ref o :: st) M Q = vd_wp d 163 440 ls (st) (vd_sr M o 58 none) Q := vd_g_putN (show vd_pI 163 437 = some (.putfield 199, 3, 1, 12, 58, .null) from rfl) rfl h
set_option maxRecDepth 8000 in
theorem vd_E163_440 : vd_wp d 163 440 [.ref o, a1, a2] (st) M Q = vd_wp d 163 441 [.ref o, a1, a2] (.ref o :: st) (M) Q := vd_wp_alu (show vd_pI 163 440 = some (.aload_n 0, 1, 0, 0, 0, .null) from rfl) rfl
set_option maxRecDepth 8000 in
theorem vd_E163_440n : vd_wp d 163 440 [.null, a1, a2] (st) M Q = vd_wp d 163 441 [.null, a1, a2] (.null :: st) (M) Q := vd_wp_alu (show vd_pI 163 440 = some (.aload_n 0, 1, 0, 0, 0, .null) from rfl) rfl
set_option maxRecDepth 8000 in
theorem vd_E163_441 : vd_wp d 163 441 ls (st) M Q = vd_wp d 163 444 ls (.int (vd_I 576) :: st) (M) Q := vd_g_con (show vd_pI 163 441 = some (.sipush 576, 3, 0, 0, 0, .null) from rfl) rfl (by decide)
set_option maxRecDepth 8000 in
theorem vd_E163_444 (h1 : 0 ≤ z) (h2 : z ≤ 65536) : vd_wp d 163 444 ls (.int (vd_I z) :: st) M Q = vd_wp d 163 446 ls (.ref (vd_n M) :: st) (vd_new M 32 z.toNat z.toNat) Q := vd_g_nar (show vd_pI 163 444 = some (.newarray .int, 2, 2, 0, 0, .null) from rfl) (by decide) h1 h2
set_option maxRecDepth 8000 in
theorem vd_E163_446 (h : vd_k M o = 12) : vd_wp d 163 446 ls (.ref v :: .ref o :: st) M Q = vd_wp d 163 449 ls (st) (vd_sr M o 59 (some v)) Q := vd_g_putR (show vd_pI 163 446 = some (.putfield 202, 3, 1, 12, 59, .null) from rfl) rfl h
set_option maxRecDepth 8000 in
theorem vd_E163_446n (h : vd_k M o = 12) : vd_wp d 163 446 ls (.null :: .ref o :: st) M Q = vd_wp d 163 449 ls (st) (vd_sr M o 59 none) Q := vd_g_putN (show vd_pI 163 446 = some (.putfield 202, 3, 1, 12, 59, .null) from rfl) rfl h
set_option maxRecDepth 8000 in
theorem vd_E163_449 : vd_wp d 163 449 [.ref o, a1, a2] (st) M Q = vd_wp d 163 450 [.ref o, a1, a2] (.ref o :: st) (M) Q := vd_wp_alu (show vd_pI 163 449 = some (.aload_n 0, 1, 0, 0, 0, .null) from rfl) rfl
set_option maxRecDepth 8000 in
theorem vd_E163_449n : vd_wp d 163 449 [.null, a1, a2] (st) M Q = vd_wp d 163 450 [.null, a1, a2] (.null :: st) (M) Q := vd_wp_alu (show vd_pI 163 449 = some (.aload_n 0, 1, 0, 0, 0, .null) from rfl) rfl
set_option maxRecDepth 8000 in
theorem vd_E163_450 : vd_wp d 163 450 ls (st) M Q = vd_wp d 163 453 ls (.int (vd_I 576) :: st) (M) Q := vd_g_con (show vd_pI 163 450 = some (.sipush 576, 3, 0, 0, 0, .null) from rfl) rfl (by decide)
set_option maxRecDepth 8000 in
theorem vd_E163_453 (h1 : 0 ≤ z) (h2 : z ≤ 65536) : vd_wp d 163 453 ls (.int (vd_I z) :: st) M Q = vd_wp d 163 455 ls (.ref (vd_n M) :: st) (vd_new M 32 z.toNat z.toNat) Q := vd_g_nar (show vd_pI 163 453 = some (.newarray .int, 2, 2, 0, 0, .null) from rfl) (by decide) h1 h2
set_option maxRecDepth 8000 in
theorem vd_E163_455 (h : vd_k M o = 12) : vd_wp d 163 455 ls (.ref v :: .ref o :: st) M Q = vd_wp d 163 458 ls (st) (vd_sr M o 60 (some v)) Q := vd_g_putR (show vd_pI 163 455 = some (.putfield 205, 3, 1, 12, 60, .null) from rfl) rfl h
set_option maxRecDepth 8000 in
theorem vd_E163_455n (h : vd_k M o = 12) : vd_wp d 163 455 ls (.null :: .ref o :: st) M Q = vd_wp d 163 458 ls (st) (vd_sr M o 60 none) Q := vd_g_putN (show vd_pI 163 455 = some (.putfield 205, 3, 1, 12, 60, .null) from rfl) rfl h
set_option maxRecDepth 8000 in
theorem vd_E163_458 : vd_wp d 163 458 [.ref o, a1, a2] (st) M Q = vd_wp d 163 459 [.ref o, a1, a2] (.ref o :: st) (M) Q := vd_wp_alu (show vd_pI 163 458 = some (.aload_n 0, 1, 0, 0, 0, .null) from rfl) rfl
set_option maxRecDepth 8000 in
theorem vd_E163_458n : vd_wp d 163 458 [.null, a1, a2] (st) M Q = vd_wp d 163 459 [.null, a1, a2] (.null :: st) (M) Q := vd_wp_alu (show vd_pI 163 458 = some (.aload_n 0, 1, 0, 0, 0, .null) from rfl) rfl
set_option maxRecDepth 8000 in
theorem vd_E163_459 : vd_wp d 163 459 ls (st) M Q = vd_wp d 163 462 ls (.int (vd_I 576) :: st) (M) Q := vd_g_con (show vd_pI 163 459 = some (.sipush 576, 3, 0, 0, 0, .null) from rfl) rfl (by decide)
set_option maxRecDepth 8000 in
theorem vd_E163_462 (h1 : 0 ≤ z) (h2 : z ≤ 65536) : vd_wp d 163 462 ls (.int (vd_I z) :: st) M Q = vd_wp d 163 464 ls (.ref (vd_n M) :: st) (vd_new M 32 z.toNat z.toNat) Q := vd_g_nar (show vd_pI 163 462 = some (.newarray .int, 2, 2, 0, 0, .null) from rfl) (by decide) h1 h2
set_option maxRecDepth 8000 in
theorem vd_E163_464 (h : vd_k M o = 12) : vd_wp d 163 464 ls (.ref v :: .ref o :: st) M Q = vd_wp d 163 467 ls (st) (vd_sr M o 61 (some v)) Q := vd_g_putR (show vd_pI 163 464 = some (.putfield 208, 3, 1, 12, 61, .null) from rfl) rfl h
set_option maxRecDepth 8000 in
theorem vd_E163_464n (h : vd_k M o = 12) : vd_wp d 163 464 ls (.null :: .ref o :: st) M Q = vd_wp d 163 467 ls (st) (vd_sr M o 61 none) Q := vd_g_putN (show vd_pI 163 464 = some (.putfield 208, 3, 1, 12, 61, .null) from rfl) rfl h
set_option maxRecDepth 8000 in
theorem vd_E163_467 : vd_wp d 163 467 [.ref o, a1, a2] (st) M Q = vd_wp d 163 468 [.ref o, a1, a2] (.ref o :: st) (M) Q := vd_wp_alu (show vd_pI 163 467 = some (.aload_n 0, 1, 0, 0, 0, .null) from rfl) rfl
set_option maxRecDepth 8000 in
theorem vd_E163_467n : vd_wp d 163 467 [.null, a1, a2] (st) M Q = vd_wp d 163 468 [.null, a1, a2] (.null :: st) (M) Q := vd_wp_alu (show vd_pI 163 467 = some (.aload_n 0, 1, 0, 0, 0, .null) from rfl) rfl
set_option maxRecDepth 8000 in
theorem vd_E163_468 : vd_wp d 163 468 ls (st) M Q = vd_wp d 163 471 ls (.int (vd_I 576) :: st) (M) Q := vd_g_con (show vd_pI 163 468 = some (.sipush 576, 3, 0, 0, 0, .null) from rfl) rfl (by decide)
set_option maxRecDepth 8000 in
theorem vd_E163_471 (h1 : 0 ≤ z) (h2 : z ≤ 65536) : vd_wp d 163 471 ls (.int (vd_I z) :: st) M Q = vd_wp d 163 473 ls (.ref (vd_n M) :: st) (vd_new M 32 z.toNat z.toNat) Q := vd_g_nar (show vd_pI 163 471 = some (.newarray .int, 2, 2, 0, 0, .null) from rfl) (by decide) h1 h2
set_option maxRecDepth 8000 in
theorem vd_E163_473 (h : vd_k M o = 12) : vd_wp d 163 473 ls (.ref v :: .ref o :: st) M Q = vd_wp d 163 476 ls (st) (vd_sr M o 62 (some v)) Q := vd_g_putR (show vd_pI 163 473 = some (.putfield 211, 3, 1, 12, 62, .null) from rfl) rfl h
set_option maxRecDepth 8000 in
theorem vd_E163_473n (h : vd_k M o = 12) : vd_wp d 163 473 ls (.null :: .ref o :: st) M Q = vd_wp d 163 476 ls (st) (vd_sr M o 62 none) Q := vd_g_putN (show vd_pI 163 473 = some (.putfield 211, 3, 1, 12, 62, .null) from rfl) rfl h
set_option maxRecDepth 8000 in
theorem vd_E163_476 : vd_wp d 163 476 [.ref o, a1, a2] (st) M Q = vd_wp d 163 477 [.ref o, a1, a2] (.ref o :: st) (M) Q := vd_wp_alu (show vd_pI 163 476 = some (.aload_n 0, 1, 0, 0, 0, .null) from rfl) rfl
set_option maxRecDepth 8000 in
theorem vd_E163_476n : vd_wp d 163 476 [.null, a1, a2] (st) M Q = vd_wp d 163 477 [.null, a1, a2] (.null :: st) (M) Q := vd_wp_alu (show vd_pI 163 476 = some (.aload_n 0, 1, 0, 0, 0, .null) from rfl) rfl
set_option maxRecDepth 8000 in
theorem vd_E163_477 : vd_wp d 163 477 ls (st) M Q = vd_wp d 163 480 ls (.int (vd_I 576) :: st) (M) Q := vd_g_con (show vd_pI 163 477 = some (.sipush 576, 3, 0, 0, 0, .null) from rfl) rfl (by decide)
set_option maxRecDepth 8000 in
theorem vd_E163_480 (h1 : 0 ≤ z) (h2 : z ≤ 65536) : vd_wp d 163 480 ls (.int (vd_I z) :: st) M Q = vd_wp d 163 482 ls (.ref (vd_n M) :: st) (vd_new M 32 z.toNat z.toNat) Q := vd_g_nar (show vd_pI 163 480 = some (.newarray .int, 2, 2, 0, 0, .null) from rfl) (by decide) h1 h2
set_option maxRecDepth 8000 in
theorem vd_E163_482 (h : vd_k M o = 12) : vd_wp d 163 482 ls (.ref v :: .ref o :: st) M Q = vd_wp d 163 485 ls (st) (vd_sr M o 63 (some v)) Q := vd_g_putR (show vd_pI 163 482 = some (.putfield 214, 3, 1, 12, 63, .null) from rfl) rfl h
set_option maxRecDepth 8000 in
theorem vd_E163_482n (h : vd_k M o = 12) : vd_wp d 163 482 ls (.null :: .ref o :: st) M Q = vd_wp d 163 485 ls (st) (vd_sr M o 63 none) Q := vd_g_putN (show vd_pI 163 482 = some (.putfield 214, 3, 1, 12, 63, .null) from rfl) rfl h
set_option maxRecDepth 8000 in
theorem vd_E163_485 : vd_wp d 163 485 [.ref o, a1, a2] (st) M Q = vd_wp d 163 486 [.ref o, a1, a2] (.ref o :: st) (M) Q := vd_wp_alu (show vd_pI 163 485 = some (.aload_n 0, 1, 0, 0, 0, .null) from rfl) rfl
set_option maxRecDepth 8000 in
theorem vd_E163_485n : vd_wp d 163 485 [.null, a1, a2] (st) M Q = vd_wp d 163 486 [.null, a1, a2] (.null :: st) (M) Q := vd_wp_alu (show vd_pI 163 485 = some (.aload_n 0, 1, 0, 0, 0, .null) from rfl) rfl
set_option maxRecDepth 8000 in
theorem vd_E163_486 : vd_wp d 163 486 ls (st) M Q = vd_wp d 163 489 ls (.int (vd_I 576) :: st) (M) Q := vd_g_con (show vd_pI 163 486 = some (.sipush 576, 3, 0, 0, 0, .null) from rfl) rfl (by decide)
set_option maxRecDepth 8000 in
theorem vd_E163_489 (h1 : 0 ≤ z) (h2 : z ≤ 65536) : vd_wp d 163 489 ls (.int (vd_I z) :: st) M Q = vd_wp d 163 491 ls (.ref (vd_n M) :: st) (vd_new M 32 z.toNat z.toNat) Q := vd_g_nar (show vd_pI 163 489 = some (.newarray .int, 2, 2, 0, 0, .null) from rfl) (by decide) h1 h2
set_option maxRecDepth 8000 in
theorem vd_E163_491 (h : vd_k M o = 12) : vd_wp d 163 491 ls (.ref v :: .ref o :: st) M Q = vd_wp d 163 494 ls (st) (vd_sr M o 64 (some v)) Q := vd_g_putR (show vd_pI 163 491 = some (.putfield 217, 3, 1, 12, 64, .null) from rfl) rfl h
set_option maxRecDepth 8000 in
theorem vd_E163_491n (h : vd_k M o = 12) : vd_wp d 163 491 ls (.null :: .ref o :: st) M Q = vd_wp d 163 494 ls (st) (vd_sr M o 64 none) Q := vd_g_putN (show vd_pI 163 491 = some (.putfield 217, 3, 1, 12, 64, .null) from rfl) rfl h
set_option maxRecDepth 8000 in
theorem vd_E163_494 : vd_wp d 163 494 [.ref o, a1, a2] (st) M Q = vd_wp d 163 495 [.ref o, a1, a2] (.ref o :: st) (M) Q := vd_wp_alu (show vd_pI 163 494 = some (.aload_n 0, 1, 0, 0, 0, .null) from rfl) rfl
set_option maxRecDepth 8000 in
theorem vd_E163_494n : vd_wp d 163 494 [.null, a1, a2] (st) M Q = vd_wp d 163 495 [.null, a1, a2] (.null :: st) (M) Q := vd_wp_alu (show vd_pI 163 494 = some (.aload_n 0, 1, 0, 0, 0, .null) from rfl) rfl
set_option maxRecDepth 8000 in
theorem vd_E163_495 : vd_wp d 163 495 ls (st) M Q = vd_wp d 163 498 ls (.int (vd_I 576) :: st) (M) Q := vd_g_con (show vd_pI 163 495 = some (.sipush 576, 3, 0, 0, 0, .null) from rfl) rfl (by decide)
set_option maxRecDepth 8000 in
theorem vd_E163_498 (h1 : 0 ≤ z) (h2 : z ≤ 65536) : vd_wp d 163 498 ls (.int (vd_I z) :: st) M Q = vd_wp d 163 500 ls (.ref (vd_n M) :: st) (vd_new M 32 z.toNat z.toNat) Q := vd_g_nar (show vd_pI 163 498 = some (.newarray .int, 2, 2, 0, 0, .null) from rfl) (by decide) h1 h2
set_option maxRecDepth 8000 in
theorem vd_E163_500 (h : vd_k M o = 12) : vd_wp d 163 500 ls (.ref v :: .ref o :: st) M Q = vd_wp d 163 503 ls (st) (vd_sr M o 65 (some v)) Q := vd_g_putR (show vd_pI 163 500 = some (.putfield 220, 3, 1, 12, 65, .null) from rfl) rfl h
set_option maxRecDepth 8000 in
theorem vd_E163_500n (h : vd_k M o = 12) : vd_wp d 163 500 ls (.null :: .ref o :: st) M Q = vd_wp d 163 503 ls (st) (vd_sr M o 65 none) Q := vd_g_putN (show vd_pI 163 500 = some (.putfield 220, 3, 1, 12, 65, .null) from rfl) rfl h
set_option maxRecDepth 8000 in
theorem vd_E163_503 : vd_wp d 163 503 [.ref o, a1, a2] (st) M Q = vd_wp d 163 504 [.ref o, a1, a2] (.ref o :: st) (M) Q := vd_wp_alu (show vd_pI 163 503 = some (.aload_n 0, 1, 0, 0, 0, .null) from rfl) rfl
set_option maxRecDepth 8000 in
theorem vd_E163_503n : vd_wp d 163 503 [.null, a1, a2] (st) M Q = vd_wp d 163 504 [.null, a1, a2] (.null :: st) (M) Q := vd_wp_alu (show vd_pI 163 503 = some (.aload_n 0, 1, 0, 0, 0, .null) from rfl) rfl
set_option maxRecDepth 8000 in
theorem vd_E163_504 : vd_wp d 163 504 ls (st) M Q = vd_wp d 163 507 ls (.int (vd_I 1152) :: st) (M) Q := vd_g_con (show vd_pI 163 504 = some (.sipush 1152, 3, 0, 0, 0, .null) from rfl) rfl (by decide)
set_option maxRecDepth 8000 in
theorem vd_E163_507 (h1 : 0 ≤ z) (h2 : z ≤ 65536) : vd_wp d 163 507 ls (.int (vd_I z) :: st) M Q = vd_wp d 163 509 ls (.ref (vd_n M) :: st) (vd_new M 32 z.toNat z.toNat) Q := vd_g_nar (show vd_pI 163 507 = some (.newarray .int, 2, 2, 0, 0, .null) from rfl) (by decide) h1 h2
set_option maxRecDepth 8000 in
theorem vd_E163_509 (h : vd_k M o = 12) : vd_wp d 163 509 ls (.ref v :: .ref o :: st) M Q = vd_wp d 163 512 ls (st) (vd_sr M o 66 (some v)) Q := vd_g_putR (show vd_pI 163 509 = some (.putfield 223, 3, 1, 12, 66, .null) from rfl) rfl h
set_option maxRecDepth 8000 in
theorem vd_E163_509n (h : vd_k M o = 12) : vd_wp d 163 509 ls (.null :: .ref o :: st) M Q = vd_wp d 163 512 ls (st) (vd_sr M o 66 none) Q := vd_g_putN (show vd_pI 163 509 = some (.putfield 223, 3, 1, 12, 66, .null) from rfl) rfl h
set_option maxRecDepth 8000 in
theorem vd_E163_512 : vd_wp d 163 512 [.ref o, a1, a2] (st) M Q = vd_wp d 163 513 [.ref o, a1, a2] (.ref o :: st) (M) Q := vd_wp_alu (show vd_pI 163 512 = some (.aload_n 0, 1, 0, 0, 0, .null) from rfl) rfl
set_option maxRecDepth 8000 in
theorem vd_E163_512n : vd_wp d 163 512 [.null, a1, a2] (st) M Q = vd_wp d 163 513 [.null, a1, a2] (.null :: st) (M) Q := vd_wp_alu (show vd_pI 163 512 = some (.aload_n 0, 1, 0, 0, 0, .null) from rfl) rfl
set_option maxRecDepth 8000 in
theorem vd_E163_513 : vd_wp d 163 513 ls (st) M Q = vd_wp d 163 516 ls (.int (vd_I 1152) :: st) (M) Q := vd_g_con (show vd_pI 163 513 = some (.sipush 1152, 3, 0, 0, 0, .null) from rfl) rfl (by decide)
set_option maxRecDepth 8000 in
theorem vd_E163_516 (h1 : 0 ≤ z) (h2 : z ≤ 65536) : vd_wp d 163 516 ls (.int (vd_I z) :: st) M Q = vd_wp d 163 518 ls (.ref (vd_n M) :: st) (vd_new M 32 z.toNat z.toNat) Q := vd_g_nar (show vd_pI 163 516 = some (.newarray .int, 2, 2, 0, 0, .null) from rfl) (by decide) h1 h2
set_option maxRecDepth 8000 in
theorem vd_E163_518 (h : vd_k M o = 12) : vd_wp d 163 518 ls (.ref v :: .ref o :: st) M Q = vd_wp d 163 521 ls (st) (vd_sr M o 67 (some v)) Q := vd_g_putR (show vd_pI 163 518 = some (.putfield 226, 3, 1, 12, 67, .null) from rfl) rfl h
set_option maxRecDepth 8000 in
theorem vd_E163_518n (h : vd_k M o = 12) : vd_wp d 163 518 ls (.null :: .ref o :: st) M Q = vd_wp d 163 521 ls (st) (vd_sr M o 67 none) Q := vd_g_putN (show vd_pI 163 518 = some (.putfield 226, 3, 1, 12, 67, .null) from rfl) rfl h
set_option maxRecDepth 8000 in
theorem vd_E163_521 : vd_wp d 163 521 [.ref o, a1, a2] (st) M Q = vd_wp d 163 522 [.ref o, a1, a2] (.ref o :: st) (M) Q := vd_wp_alu (show vd_pI 163 521 = some (.aload_n 0, 1, 0, 0, 0, .null) from rfl) rfl
set_option maxRecDepth 8000 in
theorem vd_E163_521n : vd_wp d 163 521 [.null, a1, a2] (st) M Q = vd_wp d 163 522 [.null, a1, a2] (.null :: st) (M) Q := vd_wp_alu (show vd_pI 163 521 = some (.aload_n 0, 1, 0, 0, 0, .null) from rfl) rfl
set_option maxRecDepth 8000 in
theorem vd_E163_522 : vd_wp d 163 522 ls (st) M Q = vd_wp d 163 525 ls (.int (vd_I 1152) :: st) (M) Q := vd_g_con (show vd_pI 163 522 = some (.sipush 1152, 3, 0, 0, 0, .null) from rfl) rfl (by decide)
set_option maxRecDepth 8000 in
theorem vd_E163_525 (h1 : 0 ≤ z) (h2 : z ≤ 65536) : vd_wp d 163 525 ls (.int (vd_I z) :: st) M Q = vd_wp d 163 527 ls (.ref (vd_n M) :: st) (vd_new M 32 z.toNat z.toNat) Q := vd_g_nar (show vd_pI 163 525 = some (.newarray .int, 2, 2, 0, 0, .null) from rfl) (by decide) h1 h2
set_option maxRecDepth 8000 in
theorem vd_E163_527 (h : vd_k M o = 12) : vd_wp d 163 527 ls (.ref v :: .ref o :: st) M Q = vd_wp d 163 530 ls (st) (vd_sr M o 68 (some v)) Q := vd_g_putR (show vd_pI 163 527 = some (.putfield 229, 3, 1, 12, 68, .null) from rfl) rfl h
set_option maxRecDepth 8000 in
theorem vd_E163_527n (h : vd_k M o = 12) : vd_wp d 163 527 ls (.null :: .ref o :: st) M Q = vd_wp d 163 530 ls (st) (vd_sr M o 68 none) Q := vd_g_putN (show vd_pI 163 527 = some (.putfield 229, 3, 1, 12, 68, .null) from rfl) rfl h
set_option maxRecDepth 8000 in
theorem vd_E163_530 : vd_wp d 163 530 [.ref o, a1, a2] (st) M Q = vd_wp d 163 531 [.ref o, a1, a2] (.ref o :: st) (M) Q := vd_wp_alu (show vd_pI 163 530 = some (.aload_n 0, 1, 0, 0, 0, .null) from rfl) rfl
set_option maxRecDepth 8000 in
theorem vd_E163_530n : vd_wp d 163 530 [.null, a1, a2] (st) M Q = vd_wp d 163 531 [.null, a1, a2] (.null :: st) (M) Q := vd_wp_alu (show vd_pI 163 530 = some (.aload_n 0, 1, 0, 0, 0, .null) from rfl) rfl
set_option maxRecDepth 8000 in
theorem vd_E163_531 : vd_wp d 163 531 ls (st) M Q = vd_wp d 163 532 ls (.int (vd_I 0) :: st) (M) Q := vd_wp_alu (show vd_pI 163 531 = some (.iconst 0, 1, 0, 0, 0, .null) from rfl) rfl
set_option maxRecDepth 8000 in
theorem vd_E163_532 (h : vd_k M o = 12) : vd_wp d 163 532 ls (.int x :: .ref o :: st) M Q = vd_wp d 163 535 ls (st) (vd_si M o 69 x) Q := vd_g_putI (show vd_pI 163 532 = some (.putfield 232, 3, 1, 12, 69, .null) from rfl) rfl h
set_option maxRecDepth 8000 in
theorem vd_E163_535 : vd_wp d 163 535 [.ref o, a1, a2] (st) M Q = vd_wp d 163 536 [.ref o, a1, a2] (.ref o :: st) (M) Q := vd_wp_alu (show vd_pI 163 535 = some (.aload_n 0, 1, 0, 0, 0, .null) from rfl) rfl
set_option maxRecDepth 8000 in
theorem vd_E163_535n : vd_wp d 163 535 [.null, a1, a2] (st) M Q = vd_wp d 163 536 [.null, a1, a2] (.null :: st) (M) Q := vd_wp_alu (show vd_pI 163 535 = some (.aload_n 0, 1, 0, 0, 0, .null) from rfl) rfl
set_option maxRecDepth 8000 in
theorem vd_E163_536 : vd_wp d 163 536 ls (st) M Q = vd_wp d 163 537 ls (.int (vd_I 0) :: st) (M) Q := vd_wp_alu (show vd_pI 163 536 = some (.iconst 0, 1, 0, 0, 0, .null) from rfl) rfl
set_option maxRecDepth 8000 in
theorem vd_E163_537 (h : vd_k M o = 12) : vd_wp d 163 537 ls (.int x :: .ref o :: st) M Q = vd_wp d 163 540 ls (st) (vd_si M o 70 x) Q := vd_g_putI (show vd_pI 163 537 = some (.putfield 235, 3, 1, 12, 70, .null) from rfl) rfl h
set_option maxRecDepth 8000 in
theorem vd_E163_540 : vd_wp d 163 540 [.ref o, a1, a2] (st) M Q = vd_wp d 163 541 [.ref o, a1, a2] (.ref o :: st) (M) Q := vd_wp_alu (show vd_pI 163 540 = some (.aload_n 0, 1, 0, 0, 0, .null) from rfl) rfl
set_option maxRecDepth 8000 in
theorem vd_E163_540n : vd_wp d 163 540 [.null, a1, a2] (st) M Q = vd_wp d 163 541 [.null, a1, a2] (.null :: st) (M) Q := vd_wp_alu (show vd_pI 163 540 = some (.aload_n 0, 1, 0, 0, 0, .null) from rfl) rfl
set_option maxRecDepth 8000 in
theorem vd_E163_541 : vd_wp d 163 541 ls (st) M Q = vd_wp d 163 542 ls (.int (vd_I 0) :: st) (M) Q := vd_wp_alu (show vd_pI 163 541 = some (.iconst 0, 1, 0, 0, 0, .null) from rfl) rfl
set_option maxRecDepth 8000 in
theorem vd_E163_542 (h : vd_k M o = 12) : vd_wp d 163 542 ls (.int x :: .ref o :: st) M Q = vd_wp d 163 545 ls (st) (vd_si M o 71 x) Q := vd_g_putI (show vd_pI 163 542 = some (.putfield 238, 3, 1, 12, 71, .null) from rfl) rfl h
set_option maxRecDepth 8000 in
theorem vd_E163_545 : vd_wp d 163 545 [.ref o, a1, a2] (st) M Q = vd_wp d 163 546 [.ref o, a1, a2] (.ref o :: st) (M) Q := vd_wp_alu (show vd_pI 163 545 = some (.aload_n 0, 1, 0, 0, 0, .null) from rfl) rfl
set_option maxRecDepth 8000 in
theorem vd_E163_545n : vd_wp d 163 545 [.null, a1, a2] (st) M Q = vd_wp d 163 546 [.null, a1, a2] (.null :: st) (M) Q := vd_wp_alu (show vd_pI 163 545 = some (.aload_n 0, 1, 0, 0, 0, .null) from rfl) rfl
set_option maxRecDepth 8000 in
theorem vd_E163_546 : vd_wp d 163 546 ls (st) M Q = vd_wp d 163 547 ls (.int (vd_I 3) :: st) (M) Q := vd_wp_alu (show vd_pI 163 546 = some (.iconst 3, 1, 0, 0, 0, .null) from rfl) rfl
set_option maxRecDepth 8000 in
theorem vd_E163_547 (h1 : 0 ≤ z) (h2 : z ≤ 65536) : vd_wp d 163 547 ls (.int (vd_I z) :: st) M Q = vd_wp d 163 550 ls (.ref (vd_n M) :: st) (vd_new M 40 z.toNat z.toNat) Q := vd_g_anr (show vd_pI 163 547 = some (.anewarray 241, 3, 2, 40, 1871, .null) from rfl) (by decide) h1 h2
set_option maxRecDepth 8000 in
theorem vd_E163_550 (h : vd_long s0 = false) : vd_wp d 163 550 ls (s0 :: st) M Q = vd_wp d 163 551 ls (s0 :: s0 :: st) (M) Q := vd_g_dup (show vd_pI 163 550 = some (.dup, 1, 0, 0, 0, .null) from rfl) h
set_option maxRecDepth 8000 in
theorem vd_E163_551 : vd_wp d 163 551 ls (st) M Q = vd_wp d 163 552 ls (.int (vd_I 0) :: st) (M) Q := vd_wp_alu (show vd_pI 163 551 = some (.iconst 0, 1, 0, 0, 0, .null) from rfl) rfl
set_option maxRecDepth 8000 in
theorem vd_E163_552 : vd_wp d 163 552 ls (st) M Q = vd_wp d 163 554 ls (.int (vd_I 36864) :: st) (M) Q := vd_g_con (show vd_pI 163 552 = some (.ldc 242, 2, 0, 0, 0, .int 36864) from rfl) rfl (by decide)
set_option maxRecDepth 8000 in
theorem vd_E163_554 (h1 : 0 ≤ z) (h2 : z ≤ 65536) : vd_wp d 163 554 ls (.int (vd_I z) :: st) M Q = vd_wp d 163 556 ls (.ref (vd_n M) :: st) (vd_new M 34 z.toNat z.toNat) Q := vd_g_nar (show vd_pI 163 554 = some (.newarray .boolean, 2, 2, 0, 0, .null) from rfl) (by decide) h1 h2
set_option maxRecDepth 8000 in
theorem vd_E163_556 (h0 : 10 ≤ o) (h4 : 10 ≤ v) (h : vd_akk M o v) (h1 : 0 ≤ z) (h2 : z < (vd_l M o : Int)) (h3 : z < 2147483648) : vd_wp d 163 556 ls (.ref v :: .int (vd_I z) :: .ref o :: st) M Q = vd_wp d 163 557 ls (st) (vd_sr M o z.toNat (some v)) Q := vd_g_aas (show vd_pI 163 556 = some (.aastore, 1, 1, 0, 0, .null) from rfl) h0 h4 h h1 h2 h3
set_option maxRecDepth 8000 in
theorem vd_E163_557 (h : vd_long s0 = false) : vd_wp d 163 557 ls (s0 :: st) M Q = vd_wp d 163 558 ls (s0 :: s0 :: st) (M) Q := vd_g_dup (show vd_pI 163 557 = some (.dup, 1, 0, 0, 0, .null) from rfl) h
set_option maxRecDepth 8000 in
theorem vd_E163_558 : vd_wp d 163 558 ls (st) M Q = vd_wp d 163 559 ls (.int (vd_I 1) :: st) (M) Q := vd_wp_alu (show vd_pI 163 558 = some (.iconst 1, 1, 0, 0, 0, .null) from rfl) rfl
set_option maxRecDepth 8000 in
theorem vd_E163_559 : vd_wp d 163 559 ls (st) M Q = vd_wp d 163 562 ls (.int (vd_I 9216) :: st) (M) Q := vd_g_con (show vd_pI 163 559 = some (.sipush 9216, 3, 0, 0, 0, .null) from rfl) rfl (by decide)
set_option maxRecDepth 8000 in
theorem vd_E163_562 (h1 : 0 ≤ z) (h2 : z ≤ 65536) : vd_wp d 163 562 ls (.int (vd_I z) :: st) M Q = vd_wp d 163 564 ls (.ref (vd_n M) :: st) (vd_new M 34 z.toNat z.toNat) Q := vd_g_nar (show vd_pI 163 562 = some (.newarray .boolean, 2, 2, 0, 0, .null) from rfl) (by decide) h1 h2
set_option maxRecDepth 8000 in
theorem vd_E163_564 (h0 : 10 ≤ o) (h4 : 10 ≤ v) (h : vd_akk M o v) (h1 : 0 ≤ z) (h2 : z < (vd_l M o : Int)) (h3 : z < 2147483648) : vd_wp d 163 564 ls (.ref v :: .int (vd_I z) :: .ref o :: st) M Q = vd_wp d 163 565 ls (st) (vd_sr M o z.toNat (some v)) Q := vd_g_aas (show vd_pI 163 564 = some (.aastore, 1, 1, 0, 0, .null) from rfl) h0 h4 h h1 h2 h3
set_option maxRecDepth 8000 in
theorem vd_E163_565 (h : vd_long s0 = false) : vd_wp d 163 565 ls (s0 :: st) M Q = vd_wp d 163 566 ls (s0 :: s0 :: st) (M) Q := vd_g_dup (show vd_pI 163 565 = some (.dup, 1, 0, 0, 0, .null) from rfl) h
set_option maxRecDepth 8000 in
theorem vd_E163_566 : vd_wp d 163 566 ls (st) M Q = vd_wp d 163 567 ls (.int (vd_I 2) :: st) (M) Q := vd_wp_alu (show vd_pI 163 566 = some (.iconst 2, 1, 0, 0, 0, .null) from rfl) rfl
set_option maxRecDepth 8000 in
theorem vd_E163_567 : vd_wp d 163 567 ls (st) M Q = vd_wp d 163 570 ls (.int (vd_I 9216) :: st) (M) Q := vd_g_con (show vd_pI 163 567 = some (.sipush 9216, 3, 0, 0, 0, .null) from rfl) rfl (by decide)
set_option maxRecDepth 8000 in
theorem vd_E163_570 (h1 : 0 ≤ z) (h2 : z ≤ 65536) : vd_wp d 163 570 ls (.int (vd_I z) :: st) M Q = vd_wp d 163 572 ls (.ref (vd_n M) :: st) (vd_new M 34 z.toNat z.toNat) Q := vd_g_nar (show vd_pI 163 570 = some (.newarray .boolean, 2, 2, 0, 0, .null) from rfl) (by decide) h1 h2
set_option maxRecDepth 8000 in
theorem vd_E163_572 (h0 : 10 ≤ o) (h4 : 10 ≤ v) (h : vd_akk M o v) (h1 : 0 ≤ z) (h2 : z < (vd_l M o : Int)) (h3 : z < 2147483648) : vd_wp d 163 572 ls (.ref v :: .int (vd_I z) :: .ref o :: st) M Q = vd_wp d 163 573 ls (st) (vd_sr M o z.toNat (some v)) Q := vd_g_aas (show vd_pI 163 572 = some (.aastore, 1, 1, 0, 0, .null) from rfl) h0 h4 h h1 h2 h3
set_option maxRecDepth 8000 in
theorem vd_E163_573 (h : vd_k M o = 12) : vd_wp d 163 573 ls (.ref v :: .ref o :: st) M Q = vd_wp d 163 576 ls (st) (vd_sr M o 72 (some v)) Q := vd_g_putR (show vd_pI 163 573 = some (.putfield 243, 3, 1, 12, 72, .null) from rfl) rfl h
set_option maxRecDepth 8000 in
theorem vd_E163_573n (h : vd_k M o = 12) : vd_wp d 163 573 ls (.null :: .ref o :: st) M Q = vd_wp d 163 576 ls (st) (vd_sr M o 72 none) Q := vd_g_putN (show vd_pI 163 573 = some (.putfield 243, 3, 1, 12, 72, .null) from rfl) rfl h
set_option maxRecDepth 8000 in
theorem vd_E163_576 : vd_wp d 163 576 [.ref o, a1, a2] (st) M Q = vd_wp d 163 577 [.ref o, a1, a2] (.ref o :: st) (M) Q := vd_wp_alu (show vd_pI 163 576 = some (.aload_n 0, 1, 0, 0, 0, .null) from rfl) rfl
set_option maxRecDepth 8000 in
theorem vd_E163_576n : vd_wp d 163 576 [.null, a1, a2] (st) M Q = vd_wp d 163 577 [.null, a1, a2] (.null :: st) (M) Q := vd_wp_alu (show vd_pI 163 576 = some (.aload_n 0, 1, 0, 0, 0, .null) from rfl) rfl
set_option maxRecDepth 8000 in
theorem vd_E163_577 : vd_wp d 163 577 ls (st) M Q = vd_wp d 163 578 ls (.int (vd_I 3) :: st) (M) Q := vd_wp_alu (show vd_pI 163 577 = some (.iconst 3, 1, 0, 0, 0, .null) from rfl) rfl
set_option maxRecDepth 8000 in
theorem vd_E163_578 (h1 : 0 ≤ z) (h2 : z ≤ 65536) : vd_wp d 163 578 ls (.int (vd_I z) :: st) M Q = vd_wp d 163 581 ls (.ref (vd_n M) :: st) (vd_new M 40 z.toNat z.toNat) Q := vd_g_anr (show vd_pI 163 578 = some (.anewarray 241, 3, 2, 40, 1871, .null) from rfl) (by decide) h1 h2
set_option maxRecDepth 8000 in
theorem vd_E163_581 (h : vd_long s0 = false) : vd_wp d 163 581 ls (s0 :: st) M Q = vd_wp d 163 582 ls (s0 :: s0 :: st) (M) Q := vd_g_dup (show vd_pI 163 581 = some (.dup, 1, 0, 0, 0, .null) from rfl) h
set_option maxRecDepth 8000 in
theorem vd_E163_582 : vd_wp d 163 582 ls (st) M Q = vd_wp d 163 583 ls (.int (vd_I 0) :: st) (M) Q := vd_wp_alu (show vd_pI 163 582 = some (.iconst 0, 1, 0, 0, 0, .null) from rfl) rfl
set_option maxRecDepth 8000 in
theorem vd_E163_583 : vd_wp d 163 583 ls (st) M Q = vd_wp d 163 586 ls (.int (vd_I 2304) :: st) (M) Q := vd_g_con (show vd_pI 163 583 = some (.sipush 2304, 3, 0, 0, 0, .null) from rfl) rfl (by decide)
set_option maxRecDepth 8000 in
theorem vd_E163_586 (h1 : 0 ≤ z) (h2 : z ≤ 65536) : vd_wp d 163 586 ls (.int (vd_I z) :: st) M Q = vd_wp d 163 588 ls (.ref (vd_n M) :: st) (vd_new M 34 z.toNat z.toNat) Q := vd_g_nar (show vd_pI 163 586 = some (.newarray .boolean, 2, 2, 0, 0, .null) from rfl) (by decide) h1 h2
set_option maxRecDepth 8000 in
theorem vd_E163_588 (h0 : 10 ≤ o) (h4 : 10 ≤ v) (h : vd_akk M o v) (h1 : 0 ≤ z) (h2 : z < (vd_l M o : Int)) (h3 : z < 2147483648) : vd_wp d 163 588 ls (.ref v :: .int (vd_I z) :: .ref o :: st) M Q = vd_wp d 163 589 ls (st) (vd_sr M o z.toNat (some v)) Q := vd_g_aas (show vd_pI 163 588 = some (.aastore, 1, 1, 0, 0, .null) from rfl) h0 h4 h h1 h2 h3
set_option maxRecDepth 8000 in
theorem vd_E163_589 (h : vd_long s0 = false) : vd_wp d 163 589 ls (s0 :: st) M Q = vd_wp d 163 590 ls (s0 :: s0 :: st) (M) Q := vd_g_dup (show vd_pI 163 589 = some (.dup, 1, 0, 0, 0, .null) from rfl) h
set_option maxRecDepth 8000 in
theorem vd_E163_590 : vd_wp d 163 590 ls (st) M Q = vd_wp d 163 591 ls (.int (vd_I 1) :: st) (M) Q := vd_wp_alu (show vd_pI 163 590 = some (.iconst 1, 1, 0, 0, 0, .null) from rfl) rfl
set_option maxRecDepth 8000 in
theorem vd_E163_591 : vd_wp d 163 591 ls (st) M Q = vd_wp d 163 594 ls (.int (vd_I 576) :: st) (M) Q := vd_g_con (show vd_pI 163 591 = some (.sipush 576, 3, 0, 0, 0, .null) from rfl) rfl (by decide)
set_option maxRecDepth 8000 in
theorem vd_E163_594 (h1 : 0 ≤ z) (h2 : z ≤ 65536) : vd_wp d 163 594 ls (.int (vd_I z) :: st) M Q = vd_wp d 163 596 ls (.ref (vd_n M) :: st) (vd_new M 34 z.toNat z.toNat) Q := vd_g_nar (show vd_pI 163 594 = some (.newarray .boolean, 2, 2, 0, 0, .null) from rfl) (by decide) h1 h2
set_option maxRecDepth 8000 in
theorem vd_E163_596 (h0 : 10 ≤ o) (h4 : 10 ≤ v) (h : vd_akk M o v) (h1 : 0 ≤ z) (h2 : z < (vd_l M o : Int)) (h3 : z < 2147483648) : vd_wp d 163 596 ls (.ref v :: .int (vd_I z) :: .ref o :: st) M Q = vd_wp d 163 597 ls (st) (vd_sr M o z.toNat (some v)) Q := vd_g_aas (show vd_pI 163 596 = some (.aastore, 1, 1, 0, 0, .null) from rfl) h0 h4 h h1 h2 h3
set_option maxRecDepth 8000 in
theorem vd_E163_597 (h : vd_long s0 = false) : vd_wp d 163 597 ls (s0 :: st) M Q = vd_wp d 163 598 ls (s0 :: s0 :: st) (M) Q := vd_g_dup (show vd_pI 163 597 = some (.dup, 1, 0, 0, 0, .null) from rfl) h
set_option maxRecDepth 8000 in
theorem vd_E163_598 : vd_wp d 163 598 ls (st) M Q = vd_wp d 163 599 ls (.int (vd_I 2) :: st) (M) Q := vd_wp_alu (show vd_pI 163 598 = some (.iconst 2, 1, 0, 0, 0, .null) from rfl) rfl
set_option maxRecDepth 8000 in
theorem vd_E163_599 : vd_wp d 163 599 ls (st) M Q = vd_wp d 163 602 ls (.int (vd_I 576) :: st) (M) Q := vd_g_con (show vd_pI 163 599 = some (.sipush 576, 3, 0, 0, 0, .null) from rfl) rfl (by decide)
set_option maxRecDepth 8000 in
theorem vd_E163_602 (h1 : 0 ≤ z) (h2 : z ≤ 65536) : vd_wp d 163 602 ls (.int (vd_I z) :: st) M Q = vd_wp d 163 604 ls (.ref (vd_n M) :: st) (vd_new M 34 z.toNat z.toNat) Q := vd_g_nar (show vd_pI 163 602 = some (.newarray .boolean, 2, 2, 0, 0, .null) from rfl) (by decide) h1 h2
set_option maxRecDepth 8000 in
theorem vd_E163_604 (h0 : 10 ≤ o) (h4 : 10 ≤ v) (h : vd_akk M o v) (h1 : 0 ≤ z) (h2 : z < (vd_l M o : Int)) (h3 : z < 2147483648) : vd_wp d 163 604 ls (.ref v :: .int (vd_I z) :: .ref o :: st) M Q = vd_wp d 163 605 ls (st) (vd_sr M o z.toNat (some v)) Q := vd_g_aas (show vd_pI 163 604 = some (.aastore, 1, 1, 0, 0, .null) from rfl) h0 h4 h h1 h2 h3
set_option maxRecDepth 8000 in
theorem vd_E163_605 (h : vd_k M o = 12) : vd_wp d 163 605 ls (.ref v :: .ref o :: st) M Q = vd_wp d 163 608 ls (st) (vd_sr M o 73 (some v)) Q := vd_g_putR (show vd_pI 163 605 = some (.putfield 247, 3, 1, 12, 73, .null) from rfl) rfl h
set_option maxRecDepth 8000 in
theorem vd_E163_605n (h : vd_k M o = 12) : vd_wp d 163 605 ls (.null :: .ref o :: st) M Q = vd_wp d 163 608 ls (st) (vd_sr M o 73 none) Q := vd_g_putN (show vd_pI 163 605 = some (.putfield 247, 3, 1, 12, 73, .null) from rfl) rfl h
set_option maxRecDepth 8000 in
theorem vd_E163_608 : vd_wp d 163 608 [.ref o, a1, a2] (st) M Q = vd_wp d 163 609 [.ref o, a1, a2] (.ref o :: st) (M) Q := vd_wp_alu (show vd_pI 163 608 = some (.aload_n 0, 1, 0, 0, 0, .null) from rfl) rfl
set_option maxRecDepth 8000 in
theorem vd_E163_608n : vd_wp d 163 608 [.null, a1, a2] (st) M Q = vd_wp d 163 609 [.null, a1, a2] (.null :: st) (M) Q := vd_wp_alu (show vd_pI 163 608 = some (.aload_n 0, 1, 0, 0, 0, .null) from rfl) rfl
set_option maxRecDepth 8000 in
theorem vd_E163_609 : vd_wp d 163 609 ls (st) M Q = vd_wp d 163 610 ls (.int (vd_I 0) :: st) (M) Q := vd_wp_alu (show vd_pI 163 609 = some (.iconst 0, 1, 0, 0, 0, .null) from rfl) rfl
set_option maxRecDepth 8000 in
theorem vd_E163_610 (h : vd_k M o = 12) : vd_wp d 163 610 ls (.int x :: .ref o :: st) M Q = vd_wp d 163 613 ls (st) (vd_si M o 74 x) Q := vd_g_putI (show vd_pI 163 610 = some (.putfield 250, 3, 1, 12, 74, .null) from rfl) rfl h
set_option maxRecDepth 8000 in
theorem vd_E163_613 : vd_wp d 163 613 [.ref o, a1, a2] (st) M Q = vd_wp d 163 614 [.ref o, a1, a2] (.ref o :: st) (M) Q := vd_wp_alu (show vd_pI 163 613 = some (.aload_n 0, 1, 0, 0, 0, .null) from rfl) rfl
set_option maxRecDepth 8000 in
theorem vd_E163_613n : vd_wp d 163 613 [.null, a1, a2] (st) M Q = vd_wp d 163 614 [.null, a1, a2] (.null :: st) (M) Q := vd_wp_alu (show vd_pI 163 613 = some (.aload_n 0, 1, 0, 0, 0, .null) from rfl) rfl
set_option maxRecDepth 8000 in
theorem vd_E163_614 : vd_wp d 163 614 ls (st) M Q = vd_wp d 163 615 ls (.int (vd_I 0) :: st) (M) Q := vd_wp_alu (show vd_pI 163 614 = some (.iconst 0, 1, 0, 0, 0, .null) from rfl) rfl
set_option maxRecDepth 8000 in
theorem vd_E163_615 (h : vd_k M o = 12) : vd_wp d 163 615 ls (.int x :: .ref o :: st) M Q = vd_wp d 163 618 ls (st) (vd_si M o 75 x) Q := vd_g_putI (show vd_pI 163 615 = some (.putfield 253, 3, 1, 12, 75, .null) from rfl) rfl h
set_option maxRecDepth 8000 in
theorem vd_E163_618 : vd_wp d 163 618 [.ref o, a1, a2] (st) M Q = vd_wp d 163 619 [.ref o, a1, a2] (.ref o :: st) (M) Q := vd_wp_alu (show vd_pI 163 618 = some (.aload_n 0, 1, 0, 0, 0, .null) from rfl) rfl
set_option maxRecDepth 8000 in
theorem vd_E163_618n : vd_wp d 163 618 [.null, a1, a2] (st) M Q = vd_wp d 163 619 [.null, a1, a2] (.null :: st) (M) Q := vd_wp_alu (show vd_pI 163 618 = some (.aload_n 0, 1, 0, 0, 0, .null) from rfl) rfl
set_option maxRecDepth 8000 in
theorem vd_E163_619 : vd_wp d 163 619 ls (st) M Q = vd_wp d 163 620 ls (.int (vd_I 0) :: st) (M) Q := vd_wp_alu (show vd_pI 163 619 = some (.iconst 0, 1, 0, 0, 0, .null) from rfl) rfl
set_option maxRecDepth 8000 in
theorem vd_E163_620 (h : vd_k M o = 12) : vd_wp d 163 620 ls (.int x :: .ref o :: st) M Q = vd_wp d 163 623 ls (st) (vd_si M o 76 x) Q := vd_g_putI (show vd_pI 163 620 = some (.putfield 256, 3, 1, 12, 76, .null) from rfl) rfl h
set_option maxRecDepth 8000 in
theorem vd_E163_623 : vd_wp d 163 623 [.ref o, a1, a2] (st) M Q = vd_wp d 163 624 [.ref o, a1, a2] (.ref o :: st) (M) Q := vd_wp_alu (show vd_pI 163 623 = some (.aload_n 0, 1, 0, 0, 0, .null) from rfl) rfl
set_option maxRecDepth 8000 in
theorem vd_E163_623n : vd_wp d 163 623 [.null, a1, a2] (st) M Q = vd_wp d 163 624 [.null, a1, a2] (.null :: st) (M) Q := vd_wp_alu (show vd_pI 163 623 = some (.aload_n 0, 1, 0, 0, 0, .null) from rfl) rfl
set_option maxRecDepth 8000 in
theorem vd_E163_624 : vd_wp d 163 624 ls (st) M Q = vd_wp d 163 625 ls (.int (vd_I 0) :: st) (M) Q := vd_wp_alu (show vd_pI 163 624 = some (.iconst 0, 1, 0, 0, 0, .null) from rfl) rfl
set_option maxRecDepth 8000 in
theorem vd_E163_625 (h : vd_k M o = 12) : vd_wp d 163 625 ls (.int x :: .ref o :: st) M Q = vd_wp d 163 628 ls (st) (vd_si M o 77 x) Q := vd_g_putI (show vd_pI 163 625 = some (.putfield 259, 3, 1, 12, 77, .null) from rfl) rfl h
set_option maxRecDepth 8000 in
theorem vd_E163_628 : vd_wp d 163 628 [.ref o, a1, a2] (st) M Q = vd_wp d 163 629 [.ref o, a1, a2] (.ref o :: st) (M) Q := vd_wp_alu (show vd_pI 163 628 = some (.aload_n 0, 1, 0, 0, 0, .null) from rfl) rfl
set_option maxRecDepth 8000 in
theorem vd_E163_628n : vd_wp d 163 628 [.null, a1, a2] (st) M Q = vd_wp d 163 629 [.null, a1, a2] (.null :: st) (M) Q := vd_wp_alu (show vd_pI 163 628 = some (.aload_n 0, 1, 0, 0, 0, .null) from rfl) rfl
set_option maxRecDepth 8000 in
theorem vd_E163_629 : vd_wp d 163 629 ls (st) M Q = vd_wp d 163 630 ls (.int (vd_I 0) :: st) (M) Q := vd_wp_alu (show vd_pI 163 629 = some (.iconst 0, 1, 0, 0, 0, .null) from rfl) rfl
set_option maxRecDepth 8000 in
theorem vd_E163_630 (h : vd_k M o = 12) : vd_wp d 163 630 ls (.int x :: .ref o :: st) M Q = vd_wp d 163 633 ls (st) (vd_si M o 78 x) Q := vd_g_putI (show vd_pI 163 630 = some (.putfield 262, 3, 1, 12, 78, .null) from rfl) rfl h
set_option maxRecDepth 8000 in
theorem vd_E163_633 : vd_wp d 163 633 [.ref o, a1, a2] (st) M Q = vd_wp d 163 634 [.ref o, a1, a2] (.ref o :: st) (M) Q := vd_wp_alu (show vd_pI 163 633 = some (.aload_n 0, 1, 0, 0, 0, .null) from rfl) rfl
set_option maxRecDepth 8000 in
theorem vd_E163_633n : vd_wp d 163 633 [.null, a1, a2] (st) M Q = vd_wp d 163 634 [.null, a1, a2] (.null :: st) (M) Q := vd_wp_alu (show vd_pI 163 633 = some (.aload_n 0, 1, 0, 0, 0, .null) from rfl) rfl
set_option maxRecDepth 8000 in
theorem vd_E163_634 : vd_wp d 163 634 ls (st) M Q = vd_wp d 163 635 ls (.int (vd_I 0) :: st) (M) Q := vd_wp_alu (show vd_pI 163 634 = some (.iconst 0, 1, 0, 0, 0, .null) from rfl) rfl
set_option maxRecDepth 8000 in
theorem vd_E163_635 (h0 : vd_fok .boolean x = true) (h : vd_k M o = 12) : vd_wp d 163 635 ls (.int x :: .ref o :: st) M Q = vd_wp d 163 638 ls (st) (vd_si M o 79 x) Q := vd_g_putI (show vd_pI 163 635 = some (.putfield 265, 3, 1, 12, 79, .null) from rfl) h0 h
set_option maxRecDepth 8000 in
theorem vd_E163_638 : vd_wp d 163 638 [.ref o, a1, a2] (st) M Q = vd_wp d 163 639 [.ref o, a1, a2] (.ref o :: st) (M) Q := vd_wp_alu (show vd_pI 163 638 = some (.aload_n 0, 1, 0, 0, 0, .null) from rfl) rfl
set_option maxRecDepth 8000 in
theorem vd_E163_638n : vd_wp d 163 638 [.null, a1, a2] (st) M Q = vd_wp d 163 639 [.null, a1, a2] (.null :: st) (M) Q := vd_wp_alu (show vd_pI 163 638 = some (.aload_n 0, 1, 0, 0, 0, .null) from rfl) rfl
set_option maxRecDepth 8000 in
theorem vd_E163_639 : vd_wp d 163 639 ls (st) M Q = vd_wp d 163 640 ls (.int (vd_I 0) :: st) (M) Q := vd_wp_alu (show vd_pI 163 639 = some (.iconst 0, 1, 0, 0, 0, .null) from rfl) rfl
set_option maxRecDepth 8000 in
theorem vd_E163_640 (h0 : vd_fok .boolean x = true) (h : vd_k M o = 12) : vd_wp d 163 640 ls (.int x :: .ref o :: st) M Q = vd_wp d 163 643 ls (st) (vd_si M o 80 x) Q := vd_g_putI (show vd_pI 163 640 = some (.putfield 268, 3, 1, 12, 80, .null) from rfl) h0 h
set_option maxRecDepth 8000 in
theorem vd_E163_643 : vd_wp d 163 643 [.ref o, a1, a2] (st) M Q = vd_wp d 163 644 [.ref o, a1, a2] (.ref o :: st) (M) Q := vd_wp_alu (show vd_pI 163 643 = some (.aload_n 0, 1, 0, 0, 0, .null) from rfl) rfl
set_option maxRecDepth 8000 in
theorem vd_E163_643n : vd_wp d 163 643 [.null, a1, a2] (st) M Q = vd_wp d 163 644 [.null, a1, a2] (.null :: st) (M) Q := vd_wp_alu (show vd_pI 163 643 = some (.aload_n 0, 1, 0, 0, 0, .null) from rfl) rfl
set_option maxRecDepth 8000 in
theorem vd_E163_644 : vd_wp d 163 644 ls (st) M Q = vd_wp d 163 645 ls (.int (vd_I 0) :: st) (M) Q := vd_wp_alu (show vd_pI 163 644 = some (.iconst 0, 1, 0, 0, 0, .null) from rfl) rfl
set_option maxRecDepth 8000 in
theorem vd_E163_645 (h0 : vd_fok .boolean x = true) (h : vd_k M o = 12) : vd_wp d 163 645 ls (.int x :: .ref o :: st) M Q = vd_wp d 163 648 ls (st) (vd_si M o 81 x) Q := vd_g_putI (show vd_pI 163 645 = some (.putfield 271, 3, 1, 12, 81, .null) from rfl) h0 h
set_option maxRecDepth 8000 in
theorem vd_E163_648 : vd_wp d 163 648 [.ref o, a1, a2] (st) M Q = vd_wp d 163 649 [.ref o, a1, a2] (.ref o :: st) (M) Q := vd_wp_alu (show vd_pI 163 648 = some (.aload_n 0, 1, 0, 0, 0, .null) from rfl) rfl
set_option maxRecDepth 8000 in
theorem vd_E163_648n : vd_wp d 163 648 [.null, a1, a2] (st) M Q = vd_wp d 163 649 [.null, a1, a2] (.null :: st) (M) Q := vd_wp_alu (show vd_pI 163 648 = some (.aload_n 0, 1, 0, 0, 0, .null) from rfl) rfl
set_option maxRecDepth 8000 in
theorem vd_E163_649 : vd_wp d 163 649 ls (st) M Q = vd_wp d 163 650 ls (.int (vd_I 0) :: st) (M) Q := vd_wp_alu (show vd_pI 163 649 = some (.iconst 0, 1, 0, 0, 0, .null) from rfl) rfl
set_option maxRecDepth 8000 in
theorem vd_E163_650 (h0 : vd_fok .boolean x = true) (h : vd_k M o = 12) : vd_wp d 163 650 ls (.int x :: .ref o :: st) M Q = vd_wp d 163 653 ls (st) (vd_si M o 82 x) Q := vd_g_putI (show vd_pI 163 650 = some (.putfield 274, 3, 1, 12, 82, .null) from rfl) h0 h
set_option maxRecDepth 8000 in
theorem vd_E163_653 : vd_wp d 163 653 [.ref o, a1, a2] (st) M Q = vd_wp d 163 654 [.ref o, a1, a2] (.ref o :: st) (M) Q := vd_wp_alu (show vd_pI 163 653 = some (.aload_n 0, 1, 0, 0, 0, .null) from rfl) rfl
set_option maxRecDepth 8000 in
theorem vd_E163_653n : vd_wp d 163 653 [.null, a1, a2] (st) M Q = vd_wp d 163 654 [.null, a1, a2] (.null :: st) (M) Q := vd_wp_alu (show vd_pI 163 653 = some (.aload_n 0, 1, 0, 0, 0, .null) from rfl) rfl
set_option maxRecDepth 8000 in
theorem vd_E163_654 : vd_wp d 163 654 ls (st) M Q = vd_wp d 163 655 ls (.int (vd_I 0) :: st) (M) Q := vd_wp_alu (show vd_pI 163 654 = some (.iconst 0, 1, 0, 0, 0, .null) from rfl) rfl
set_option maxRecDepth 8000 in
theorem vd_E163_655 (h0 : vd_fok .boolean x = true) (h : vd_k M o = 12) : vd_wp d 163 655 ls (.int x :: .ref o :: st) M Q = vd_wp d 163 658 ls (st) (vd_si M o 83 x) Q := vd_g_putI (show vd_pI 163 655 = some (.putfield 277, 3, 1, 12, 83, .null) from rfl) h0 h
set_option maxRecDepth 8000 in
theorem vd_E163_658 : vd_wp d 163 658 [.ref o, a1, a2] (st) M Q = vd_wp d 163 659 [.ref o, a1, a2] (.ref o :: st) (M) Q := vd_wp_alu (show vd_pI 163 658 = some (.aload_n 0, 1, 0, 0, 0, .null) from rfl) rfl
set_option maxRecDepth 8000 in
theorem vd_E163_658n : vd_wp d 163 658 [.null, a1, a2] (st) M Q = vd_wp d 163 659 [.null, a1, a2] (.null :: st) (M) Q := vd_wp_alu (show vd_pI 163 658 = some (.aload_n 0, 1, 0, 0, 0, .null) from rfl) rfl
set_option maxRecDepth 8000 in
theorem vd_E163_659 : vd_wp d 163 659 ls (st) M Q = vd_wp d 163 660 ls (.int (vd_I 0) :: st) (M) Q := vd_wp_alu (show vd_pI 163 659 = some (.iconst 0, 1, 0, 0, 0, .null) from rfl) rfl
set_option maxRecDepth 8000 in
theorem vd_E163_660 (h0 : vd_fok .boolean x = true) (h : vd_k M o = 12) : vd_wp d 163 660 ls (.int x :: .ref o :: st) M Q = vd_wp d 163 663 ls (st) (vd_si M o 84 x) Q := vd_g_putI (show vd_pI 163 660 = some (.putfield 280, 3, 1, 12, 84, .null) from rfl) h0 h
set_option maxRecDepth 8000 in
theorem vd_E163_663 : vd_wp d 163 663 [.ref o, a1, a2] (st) M Q = vd_wp d 163 664 [.ref o, a1, a2] (.ref o :: st) (M) Q := vd_wp_alu (show vd_pI 163 663 = some (.aload_n 0, 1, 0, 0, 0, .null) from rfl) rfl
set_option maxRecDepth 8000 in
theorem vd_E163_663n : vd_wp d 163 663 [.null, a1, a2] (st) M Q = vd_wp d 163 664 [.null, a1, a2] (.null :: st) (M) Q := vd_wp_alu (show vd_pI 163 663 = some (.aload_n 0, 1, 0, 0, 0, .null) from rfl) rfl
set_option maxRecDepth 8000 in
theorem vd_E163_664 : vd_wp d 163 664 ls (st) M Q = vd_wp d 163 665 ls (.int (vd_I 0) :: st) (M) Q := vd_wp_alu (show vd_pI 163 664 = some (.iconst 0, 1, 0, 0, 0, .null) from rfl) rfl
set_option maxRecDepth 8000 in
theorem vd_E163_665 (h0 : vd_fok .boolean x = true) (h : vd_k M o = 12) : vd_wp d 163 665 ls (.int x :: .ref o :: st) M Q = vd_wp d 163 668 ls (st) (vd_si M o 85 x) Q := vd_g_putI (show vd_pI 163 665 = some (.putfield 283, 3, 1, 12, 85, .null) from rfl) h0 h
set_option maxRecDepth 8000 in
theorem vd_E163_668 : vd_wp d 163 668 [.ref o, a1, a2] (st) M Q = vd_wp d 163 669 [.ref o, a1, a2] (.ref o :: st) (M) Q := vd_wp_alu (show vd_pI 163 668 = some (.aload_n 0, 1, 0, 0, 0, .null) from rfl) rfl
set_option maxRecDepth 8000 in
theorem vd_E163_668n : vd_wp d 163 668 [.null, a1, a2] (st) M Q = vd_wp d 163 669 [.null, a1, a2] (.null :: st) (M) Q := vd_wp_alu (show vd_pI 163 668 = some (.aload_n 0, 1, 0, 0, 0, .null) from rfl) rfl
set_option maxRecDepth 8000 in
theorem vd_E163_669 : vd_wp d 163 669 ls (st) M Q = vd_wp d 163 670 ls (.int (vd_I 0) :: st) (M) Q := vd_wp_alu (show vd_pI 163 669 = some (.iconst 0, 1, 0, 0, 0, .null) from rfl) rfl
set_option maxRecDepth 8000 in
theorem vd_E163_670 (h0 : vd_fok .boolean x = true) (h : vd_k M o = 12) : vd_wp d 163 670 ls (.int x :: .ref o :: st) M Q = vd_wp d 163 673 ls (st) (vd_si M o 86 x) Q := vd_g_putI (show vd_pI 163 670 = some (.putfield 286, 3, 1, 12, 86, .null) from rfl) h0 h
set_option maxRecDepth 8000 in
theorem vd_E163_673 : vd_wp d 163 673 [.ref o, a1, a2] (st) M Q = vd_wp d 163 674 [.ref o, a1, a2] (.ref o :: st) (M) Q := vd_wp_alu (show vd_pI 163 673 = some (.aload_n 0, 1, 0, 0, 0, .null) from rfl) rfl
set_option maxRecDepth 8000 in
theorem vd_E163_673n : vd_wp d 163 673 [.null, a1, a2] (st) M Q = vd_wp d 163 674 [.null, a1, a2] (.null :: st) (M) Q := vd_wp_alu (show vd_pI 163 673 = some (.aload_n 0, 1, 0, 0, 0, .null) from rfl) rfl
set_option maxRecDepth 8000 in
theorem vd_E163_674 : vd_wp d 163 674 ls (st) M Q = vd_wp d 163 676 ls (.int (vd_I 6) :: st) (M) Q := vd_g_con (show vd_pI 163 674 = some (.bipush 6, 2, 0, 0, 0, .null) from rfl) rfl (by decide)
set_option maxRecDepth 8000 in
theorem vd_E163_676 (h1 : 0 ≤ z) (h2 : z ≤ 65536) : vd_wp d 163 676 ls (.int (vd_I z) :: st) M Q = vd_wp d 163 678 ls (.ref (vd_n M) :: st) (vd_new M 34 z.toNat z.toNat) Q := vd_g_nar (show vd_pI 163 676 = some (.newarray .boolean, 2, 2, 0, 0, .null) from rfl) (by decide) h1 h2
set_option maxRecDepth 8000 in
theorem vd_E163_678 (h : vd_k M o = 12) : vd_wp d 163 678 ls (.ref v :: .ref o :: st) M Q = vd_wp d 163 681 ls (st) (vd_sr M o 87 (some v)) Q := vd_g_putR (show vd_pI 163 678 = some (.putfield 289, 3, 1, 12, 87, .null) from rfl) rfl h
set_option maxRecDepth 8000 in
theorem vd_E163_678n (h : vd_k M o = 12) : vd_wp d 163 678 ls (.null :: .ref o :: st) M Q = vd_wp d 163 681 ls (st) (vd_sr M o 87 none) Q := vd_g_putN (show vd_pI 163 678 = some (.putfield 289, 3, 1, 12, 87, .null) from rfl) rfl h
set_option maxRecDepth 8000 in
theorem vd_E163_681 : vd_wp d 163 681 [.ref o, a1, a2] (st) M Q = vd_wp d 163 682 [.ref o, a1, a2] (.ref o :: st) (M) Q := vd_wp_alu (show vd_pI 163 681 = some (.aload_n 0, 1, 0, 0, 0, .null) from rfl) rfl
set_option maxRecDepth 8000 in
theorem vd_E163_681n : vd_wp d 163 681 [.null, a1, a2] (st) M Q = vd_wp d 163 682 [.null, a1, a2] (.null :: st) (M) Q := vd_wp_alu (show vd_pI 163 681 = some (.aload_n 0, 1, 0, 0, 0, .null) from rfl) rfl
set_option maxRecDepth 8000 in
theorem vd_E163_682 : vd_wp d 163 682 ls (st) M Q = vd_wp d 163 684 ls (.int (vd_I 32) :: st) (M) Q := vd_g_con (show vd_pI 163 682 = some (.bipush 32, 2, 0, 0, 0, .null) from rfl) rfl (by decide)
set_option maxRecDepth 8000 in
theorem vd_E163_684 (h1 : 0 ≤ z) (h2 : z ≤ 65536) : vd_wp d 163 684 ls (.int (vd_I z) :: st) M Q = vd_wp d 163 686 ls (.ref (vd_n M) :: st) (vd_new M 34 z.toNat z.toNat) Q := vd_g_nar (show vd_pI 163 684 = some (.newarray .boolean, 2, 2, 0, 0, .null) from rfl) (by decide) h1 h2
set_option maxRecDepth 8000 in
theorem vd_E163_686 (h : vd_k M o = 12) : vd_wp d 163 686 ls (.ref v :: .ref o :: st) M Q = vd_wp d 163 689 ls (st) (vd_sr M o 88 (some v)) Q := vd_g_putR (show vd_pI 163 686 = some (.putfield 292, 3, 1, 12, 88, .null) from rfl) rfl h
set_option maxRecDepth 8000 in
theorem vd_E163_686n (h : vd_k M o = 12) : vd_wp d 163 686 ls (.null :: .ref o :: st) M Q = vd_wp d 163 689 ls (st) (vd_sr M o 88 none) Q := vd_g_putN (show vd_pI 163 686 = some (.putfield 292, 3, 1, 12, 88, .null) from rfl) rfl h
set_option maxRecDepth 8000 in
theorem vd_E163_689 : vd_wp d 163 689 [.ref o, a1, a2] (st) M Q = vd_wp d 163 690 [.ref o, a1, a2] (.ref o :: st) (M) Q := vd_wp_alu (show vd_pI 163 689 = some (.aload_n 0, 1, 0, 0, 0, .null) from rfl) rfl
set_option maxRecDepth 8000 in
theorem vd_E163_689n : vd_wp d 163 689 [.null, a1, a2] (st) M Q = vd_wp d 163 690 [.null, a1, a2] (.null :: st) (M) Q := vd_wp_alu (show vd_pI 163 689 = some (.aload_n 0, 1, 0, 0, 0, .null) from rfl) rfl
set_option maxRecDepth 8000 in
theorem vd_E163_690 : vd_wp d 163 690 ls (st) M Q = vd_wp d 163 692 ls (.int (vd_I 6) :: st) (M) Q := vd_g_con (show vd_pI 163 690 = some (.bipush 6, 2, 0, 0, 0, .null) from rfl) rfl (by decide)
set_option maxRecDepth 8000 in
theorem vd_E163_692 (h1 : 0 ≤ z) (h2 : z ≤ 65536) : vd_wp d 163 692 ls (.int (vd_I z) :: st) M Q = vd_wp d 163 694 ls (.ref (vd_n M) :: st) (vd_new M 32 z.toNat z.toNat) Q := vd_g_nar (show vd_pI 163 692 = some (.newarray .int, 2, 2, 0, 0, .null) from rfl) (by decide) h1 h2
set_option maxRecDepth 8000 in
theorem vd_E163_694 (h : vd_k M o = 12) : vd_wp d 163 694 ls (.ref v :: .ref o :: st) M Q = vd_wp d 163 697 ls (st) (vd_sr M o 89 (some v)) Q := vd_g_putR (show vd_pI 163 694 = some (.putfield 295, 3, 1, 12, 89, .null) from rfl) rfl h
set_option maxRecDepth 8000 in
theorem vd_E163_694n (h : vd_k M o = 12) : vd_wp d 163 694 ls (.null :: .ref o :: st) M Q = vd_wp d 163 697 ls (st) (vd_sr M o 89 none) Q := vd_g_putN (show vd_pI 163 694 = some (.putfield 295, 3, 1, 12, 89, .null) from rfl) rfl h
set_option maxRecDepth 8000 in
theorem vd_E163_697 : vd_wp d 163 697 [.ref o, a1, a2] (st) M Q = vd_wp d 163 698 [.ref o, a1, a2] (.ref o :: st) (M) Q := vd_wp_alu (show vd_pI 163 697 = some (.aload_n 0, 1, 0, 0, 0, .null) from rfl) rfl
set_option maxRecDepth 8000 in
theorem vd_E163_697n : vd_wp d 163 697 [.null, a1, a2] (st) M Q = vd_wp d 163 698 [.null, a1, a2] (.null :: st) (M) Q := vd_wp_alu (show vd_pI 163 697 = some (.aload_n 0, 1, 0, 0, 0, .null) from rfl) rfl
set_option maxRecDepth 8000 in
theorem vd_E163_698 : vd_wp d 163 698 ls (st) M Q = vd_wp d 163 700 ls (.int (vd_I 32) :: st) (M) Q := vd_g_con (show vd_pI 163 698 = some (.bipush 32, 2, 0, 0, 0, .null) from rfl) rfl (by decide)
set_option maxRecDepth 8000 in
theorem vd_E163_700 (h1 : 0 ≤ z) (h2 : z ≤ 65536) : vd_wp d 163 700 ls (.int (vd_I z) :: st) M Q = vd_wp d 163 702 ls (.ref (vd_n M) :: st) (vd_new M 32 z.toNat z.toNat) Q := vd_g_nar (show vd_pI 163 700 = some (.newarray .int, 2, 2, 0, 0, .null) from rfl) (by decide) h1 h2
set_option maxRecDepth 8000 in
theorem vd_E163_702 (h : vd_k M o = 12) : vd_wp d 163 702 ls (.ref v :: .ref o :: st) M Q = vd_wp d 163 705 ls (st) (vd_sr M o 90 (some v)) Q := vd_g_putR (show vd_pI 163 702 = some (.putfield 298, 3, 1, 12, 90, .null) from rfl) rfl h
set_option maxRecDepth 8000 in
theorem vd_E163_702n (h : vd_k M o = 12) : vd_wp d 163 702 ls (.null :: .ref o :: st) M Q = vd_wp d 163 705 ls (st) (vd_sr M o 90 none) Q := vd_g_putN (show vd_pI 163 702 = some (.putfield 298, 3, 1, 12, 90, .null) from rfl) rfl h
set_option maxRecDepth 8000 in
theorem vd_E163_705 : vd_wp d 163 705 [.ref o, a1, a2] (st) M Q = vd_wp d 163 706 [.ref o, a1, a2] (.ref o :: st) (M) Q := vd_wp_alu (show vd_pI 163 705 = some (.aload_n 0, 1, 0, 0, 0, .null) from rfl) rfl
set_option maxRecDepth 8000 in
theorem vd_E163_705n : vd_wp d 163 705 [.null, a1, a2] (st) M Q = vd_wp d 163 706 [.null, a1, a2] (.null :: st) (M) Q := vd_wp_alu (show vd_pI 163 705 = some (.aload_n 0, 1, 0, 0, 0, .null) from rfl) rfl
set_option maxRecDepth 8000 in
theorem vd_E163_706 : vd_wp d 163 706 ls (st) M Q = vd_wp d 163 707 ls (.int (vd_I 0) :: st) (M) Q := vd_wp_alu (show vd_pI 163 706 = some (.iconst 0, 1, 0, 0, 0, .null) from rfl) rfl
set_option maxRecDepth 8000 in
theorem vd_E163_707 (h : vd_k M o = 12) : vd_wp d 163 707 ls (.int x :: .ref o :: st) M Q = vd_wp d 163 710 ls (st) (vd_si M o 91 x) Q := vd_g_putI (show vd_pI 163 707 = some (.putfield 301, 3, 1, 12, 91, .null) from rfl) rfl h
set_option maxRecDepth 8000 in
theorem vd_E163_710 : vd_wp d 163 710 [.ref o, a1, a2] (st) M Q = vd_wp d 163 711 [.ref o, a1, a2] (.ref o :: st) (M) Q := vd_wp_alu (show vd_pI 163 710 = some (.aload_n 0, 1, 0, 0, 0, .null) from rfl) rfl
set_option maxRecDepth 8000 in
theorem vd_E163_710n : vd_wp d 163 710 [.null, a1, a2] (st) M Q = vd_wp d 163 711 [.null, a1, a2] (.null :: st) (M) Q := vd_wp_alu (show vd_pI 163 710 = some (.aload_n 0, 1, 0, 0, 0, .null) from rfl) rfl
set_option maxRecDepth 8000 in
theorem vd_E163_711 : vd_wp d 163 711 ls (st) M Q = vd_wp d 163 712 ls (.int (vd_I 0) :: st) (M) Q := vd_wp_alu (show vd_pI 163 711 = some (.iconst 0, 1, 0, 0, 0, .null) from rfl) rfl
set_option maxRecDepth 8000 in
theorem vd_E163_712 (h : vd_k M o = 12) : vd_wp d 163 712 ls (.int x :: .ref o :: st) M Q = vd_wp d 163 715 ls (st) (vd_si M o 92 x) Q := vd_g_putI (show vd_pI 163 712 = some (.putfield 304, 3, 1, 12, 92, .null) from rfl) rfl h
set_option maxRecDepth 8000 in
theorem vd_E163_715 : vd_wp d 163 715 [.ref o, a1, a2] (st) M Q = vd_wp d 163 716 [.ref o, a1, a2] (.ref o :: st) (M) Q := vd_wp_alu (show vd_pI 163 715 = some (.aload_n 0, 1, 0, 0, 0, .null) from rfl) rfl
set_option maxRecDepth 8000 in
theorem vd_E163_715n : vd_wp d 163 715 [.null, a1, a2] (st) M Q = vd_wp d 163 716 [.null, a1, a2] (.null :: st) (M) Q := vd_wp_alu (show vd_pI 163 715 = some (.aload_n 0, 1, 0, 0, 0, .null) from rfl) rfl
set_option maxRecDepth 8000 in
theorem vd_E163_716 : vd_wp d 163 716 ls (st) M Q = vd_wp d 163 717 ls (.int (vd_I 0) :: st) (M) Q := vd_wp_alu (show vd_pI 163 716 = some (.iconst 0, 1, 0, 0, 0, .null) from rfl) rfl
set_option maxRecDepth 8000 in
theorem vd_E163_717 (h : vd_k M o = 12) : vd_wp d 163 717 ls (.int x :: .ref o :: st) M Q = vd_wp d 163 720 ls (st) (vd_si M o 93 x) Q := vd_g_putI (show vd_pI 163 717 = some (.putfield 307, 3, 1, 12, 93, .null) from rfl) rfl h
set_option maxRecDepth 8000 in
theorem vd_E163_720 : vd_wp d 163 720 [.ref o, a1, a2] (st) M Q = vd_wp d 163 721 [.ref o, a1, a2] (.ref o :: st) (M) Q := vd_wp_alu (show vd_pI 163 720 = some (.aload_n 0, 1, 0, 0, 0, .null) from rfl) rfl
set_option maxRecDepth 8000 in
theorem vd_E163_720n : vd_wp d 163 720 [.null, a1, a2] (st) M Q = vd_wp d 163 721 [.null, a1, a2] (.null :: st) (M) Q := vd_wp_alu (show vd_pI 163 720 = some (.aload_n 0, 1, 0, 0, 0, .null) from rfl) rfl
set_option maxRecDepth 8000 in
theorem vd_E163_721 : vd_wp d 163 721 ls (st) M Q = vd_wp d 163 722 ls (.int (vd_I 0) :: st) (M) Q := vd_wp_alu (show vd_pI 163 721 = some (.iconst 0, 1, 0, 0, 0, .null) from rfl) rfl
set_option maxRecDepth 8000 in
theorem vd_E163_722 (h : vd_k M o = 12) : vd_wp d 163 722 ls (.int x :: .ref o :: st) M Q = vd_wp d 163 725 ls (st) (vd_si M o 94 x) Q := vd_g_putI (show vd_pI 163 722 = some (.putfield 310, 3, 1, 12, 94, .null) from rfl) rfl h
set_option maxRecDepth 8000 in
theorem vd_E163_725 : vd_wp d 163 725 [.ref o, a1, a2] (st) M Q = vd_wp d 163 726 [.ref o, a1, a2] (.ref o :: st) (M) Q := vd_wp_alu (show vd_pI 163 725 = some (.aload_n 0, 1, 0, 0, 0, .null) from rfl) rfl
set_option maxRecDepth 8000 in
theorem vd_E163_725n : vd_wp d 163 725 [.null, a1, a2] (st) M Q = vd_wp d 163 726 [.null, a1, a2] (.null :: st) (M) Q := vd_wp_alu (show vd_pI 163 725 = some (.aload_n 0, 1, 0, 0, 0, .null) from rfl) rfl
set_option maxRecDepth 8000 in
theorem vd_E163_726 : vd_wp d 163 726 ls (st) M Q = vd_wp d 163 727 ls (.int (vd_I 0) :: st) (M) Q := vd_wp_alu (show vd_pI 163 726 = some (.iconst 0, 1, 0, 0, 0, .null) from rfl) rfl
set_option maxRecDepth 8000 in
theorem vd_E163_727 (h : vd_k M o = 12) : vd_wp d 163 727 ls (.int x :: .ref o :: st) M Q = vd_wp d 163 730 ls (st) (vd_si M o 95 x) Q := vd_g_putI (show vd_pI 163 727 = some (.putfield 313, 3, 1, 12, 95, .null) from rfl) rfl h
set_option maxRecDepth 8000 in
theorem vd_E163_730 : vd_wp d 163 730 [.ref o, a1, a2] (st) M Q = vd_wp d 163 731 [.ref o, a1, a2] (.ref o :: st) (M) Q := vd_wp_alu (show vd_pI 163 730 = some (.aload_n 0, 1, 0, 0, 0, .null) from rfl) rfl
set_option maxRecDepth 8000 in
theorem vd_E163_730n : vd_wp d 163 730 [.null, a1, a2] (st) M Q = vd_wp d 163 731 [.null, a1, a2] (.null :: st) (M) Q := vd_wp_alu (show vd_pI 163 730 = some (.aload_n 0, 1, 0, 0, 0, .null) from rfl) rfl
set_option maxRecDepth 8000 in
theorem vd_E163_731 : vd_wp d 163 731 ls (st) M Q = vd_wp d 163 732 ls (.int (vd_I 0) :: st) (M) Q := vd_wp_alu (show vd_pI 163 731 = some (.iconst 0, 1, 0, 0, 0, .null) from rfl) rfl
set_option maxRecDepth 8000 in
theorem vd_E163_732 (h : vd_k M o = 12) : vd_wp d 163 732 ls (.int x :: .ref o :: st) M Q = vd_wp d 163 735 ls (st) (vd_si M o 96 x) Q := vd_g_putI (show vd_pI 163 732 = some (.putfield 316, 3, 1, 12, 96, .null) from rfl) rfl h
set_option maxRecDepth 8000 in
theorem vd_E163_735 : vd_wp d 163 735 [.ref o, a1, a2] (st) M Q = vd_wp d 163 736 [.ref o, a1, a2] (.ref o :: st) (M) Q := vd_wp_alu (show vd_pI 163 735 = some (.aload_n 0, 1, 0, 0, 0, .null) from rfl) rfl
set_option maxRecDepth 8000 in
theorem vd_E163_735n : vd_wp d 163 735 [.null, a1, a2] (st) M Q = vd_wp d 163 736 [.null, a1, a2] (.null :: st) (M) Q := vd_wp_alu (show vd_pI 163 735 = some (.aload_n 0, 1, 0, 0, 0, .null) from rfl) rfl
set_option maxRecDepth 8000 in
theorem vd_E163_736 : vd_wp d 163 736 ls (st) M Q = vd_wp d 163 737 ls (.int (vd_I 0) :: st) (M) Q := vd_wp_alu (show vd_pI 163 736 = some (.iconst 0, 1, 0, 0, 0, .null) from rfl) rfl
set_option maxRecDepth 8000 in
theorem vd_E163_737 (h : vd_k M o = 12) : vd_wp d 163 737 ls (.int x :: .ref o :: st) M Q = vd_wp d 163 740 ls (st) (vd_si M o 97 x) Q := vd_g_putI (show vd_pI 163 737 = some (.putfield 319, 3, 1, 12, 97, .null) from rfl) rfl h
set_option maxRecDepth 8000 in
theorem vd_E163_740 : vd_wp d 163 740 [.ref o, a1, a2] (st) M Q = vd_wp d 163 741 [.ref o, a1, a2] (.ref o :: st) (M) Q := vd_wp_alu (show vd_pI 163 740 = some (.aload_n 0, 1, 0, 0, 0, .null) from rfl) rfl
set_option maxRecDepth 8000 in
theorem vd_E163_740n : vd_wp d 163 740 [.null, a1, a2] (st) M Q = vd_wp d 163 741 [.null, a1, a2] (.null :: st) (M) Q := vd_wp_alu (show vd_pI 163 740 = some (.aload_n 0, 1, 0, 0, 0, .null) from rfl) rfl
set_option maxRecDepth 8000 in
theorem vd_E163_741 : vd_wp d 163 741 ls (st) M Q = vd_wp d 163 742 ls (.int (vd_I 0) :: st) (M) Q := vd_wp_alu (show vd_pI 163 741 = some (.iconst 0, 1, 0, 0, 0, .null) from rfl) rfl
set_option maxRecDepth 8000 in
theorem vd_E163_742 (h : vd_k M o = 12) : vd_wp d 163 742 ls (.int x :: .ref o :: st) M Q = vd_wp d 163 745 ls (st) (vd_si M o 98 x) Q := vd_g_putI (show vd_pI 163 742 = some (.putfield 322, 3, 1, 12, 98, .null) from rfl) rfl h
set_option maxRecDepth 8000 in
theorem vd_E163_745 : vd_wp d 163 745 [.ref o, a1, a2] (st) M Q = vd_wp d 163 746 [.ref o, a1, a2] (.ref o :: st) (M) Q := vd_wp_alu (show vd_pI 163 745 = some (.aload_n 0, 1, 0, 0, 0, .null) from rfl) rfl
set_option maxRecDepth 8000 in
theorem vd_E163_745n : vd_wp d 163 745 [.null, a1, a2] (st) M Q = vd_wp d 163 746 [.null, a1, a2] (.null :: st) (M) Q := vd_wp_alu (show vd_pI 163 745 = some (.aload_n 0, 1, 0, 0, 0, .null) from rfl) rfl
set_option maxRecDepth 8000 in
theorem vd_E163_746 : vd_wp d 163 746 ls (st) M Q = vd_wp d 163 747 ls (.int (vd_I 0) :: st) (M) Q := vd_wp_alu (show vd_pI 163 746 = some (.iconst 0, 1, 0, 0, 0, .null) from rfl) rfl
set_option maxRecDepth 8000 in
theorem vd_E163_747 (h : vd_k M o = 12) : vd_wp d 163 747 ls (.int x :: .ref o :: st) M Q = vd_wp d 163 750 ls (st) (vd_si M o 99 x) Q := vd_g_putI (show vd_pI 163 747 = some (.putfield 325, 3, 1, 12, 99, .null) from rfl) rfl h
set_option maxRecDepth 8000 in
theorem vd_E163_750 : vd_wp d 163 750 [.ref o, a1, a2] (st) M Q = vd_wp d 163 751 [.ref o, a1, a2] (.ref o :: st) (M) Q := vd_wp_alu (show vd_pI 163 750 = some (.aload_n 0, 1, 0, 0, 0, .null) from rfl) rfl
set_option maxRecDepth 8000 in
theorem vd_E163_750n : vd_wp d 163 750 [.null, a1, a2] (st) M Q = vd_wp d 163 751 [.null, a1, a2] (.null :: st) (M) Q := vd_wp_alu (show vd_pI 163 750 = some (.aload_n 0, 1, 0, 0, 0, .null) from rfl) rfl
set_option maxRecDepth 8000 in
theorem vd_E163_751 : vd_wp d 163 751 ls (st) M Q = vd_wp d 163 752 ls (.int (vd_I 0) :: st) (M) Q := vd_wp_alu (show vd_pI 163 751 = some (.iconst 0, 1, 0, 0, 0, .null) from rfl) rfl
set_option maxRecDepth 8000 in
theorem vd_E163_752 (h : vd_k M o = 12) : vd_wp d 163 752 ls (.int x :: .ref o :: st) M Q = vd_wp d 163 755 ls (st) (vd_si M o 100 x) Q := vd_g_putI (show vd_pI 163 752 = some (.putfield 328, 3, 1, 12, 100, .null) from rfl) rfl h
set_option maxRecDepth 8000 in
theorem vd_E163_755 : vd_wp d 163 755 [.ref o, a1, a2] (st) M Q = vd_wp d 163 756 [.ref o, a1, a2] (.ref o :: st) (M) Q := vd_wp_alu (show vd_pI 163 755 = some (.aload_n 0, 1, 0, 0, 0, .null) from rfl) rfl
set_option maxRecDepth 8000 in
theorem vd_E163_755n : vd_wp d 163 755 [.null, a1, a2] (st) M Q = vd_wp d 163 756 [.null, a1, a2] (.null :: st) (M) Q := vd_wp_alu (show vd_pI 163 755 = some (.aload_n 0, 1, 0, 0, 0, .null) from rfl) rfl
set_option maxRecDepth 8000 in
theorem vd_E163_756 : vd_wp d 163 756 ls (st) M Q = vd_wp d 163 757 ls (.int (vd_I 0) :: st) (M) Q := vd_wp_alu (show vd_pI 163 756 = some (.iconst 0, 1, 0, 0, 0, .null) from rfl) rfl
set_option maxRecDepth 8000 in
theorem vd_E163_757 (h : vd_k M o = 12) : vd_wp d 163 757 ls (.int x :: .ref o :: st) M Q = vd_wp d 163 760 ls (st) (vd_si M o 101 x) Q := vd_g_putI (show vd_pI 163 757 = some (.putfield 331, 3, 1, 12, 101, .null) from rfl) rfl h
set_option maxRecDepth 8000 in
theorem vd_E163_760 : vd_wp d 163 760 [.ref o, a1, a2] (st) M Q = vd_wp d 163 761 [.ref o, a1, a2] (.ref o :: st) (M) Q := vd_wp_alu (show vd_pI 163 760 = some (.aload_n 0, 1, 0, 0, 0, .null) from rfl) rfl
set_option maxRecDepth 8000 in
theorem vd_E163_760n : vd_wp d 163 760 [.null, a1, a2] (st) M Q = vd_wp d 163 761 [.null, a1, a2] (.null :: st) (M) Q := vd_wp_alu (show vd_pI 163 760 = some (.aload_n 0, 1, 0, 0, 0, .null) from rfl) rfl
set_option maxRecDepth 8000 in
theorem vd_E163_761 : vd_wp d 163 761 ls (st) M Q = vd_wp d 163 762 ls (.int (vd_I 0) :: st) (M) Q := vd_wp_alu (show vd_pI 163 761 = some (.iconst 0, 1, 0, 0, 0, .null) from rfl) rfl
set_option maxRecDepth 8000 in
theorem vd_E163_762 (h : vd_k M o = 12) : vd_wp d 163 762 ls (.int x :: .ref o :: st) M Q = vd_wp d 163 765 ls (st) (vd_si M o 102 x) Q := vd_g_putI (show vd_pI 163 762 = some (.putfield 334, 3, 1, 12, 102, .null) from rfl) rfl h
set_option maxRecDepth 8000 in
theorem vd_E163_765 : vd_wp d 163 765 [.ref o, a1, a2] (st) M Q = vd_wp d 163 766 [.ref o, a1, a2] (.ref o :: st) (M) Q := vd_wp_alu (show vd_pI 163 765 = some (.aload_n 0, 1, 0, 0, 0, .null) from rfl) rfl
set_option maxRecDepth 8000 in
theorem vd_E163_765n : vd_wp d 163 765 [.null, a1, a2] (st) M Q = vd_wp d 163 766 [.null, a1, a2] (.null :: st) (M) Q := vd_wp_alu (show vd_pI 163 765 = some (.aload_n 0, 1, 0, 0, 0, .null) from rfl) rfl
set_option maxRecDepth 8000 in
theorem vd_E163_766 : vd_wp d 163 766 ls (st) M Q = vd_wp d 163 767 ls (.int (vd_I 0) :: st) (M) Q := vd_wp_alu (show vd_pI 163 766 = some (.iconst 0, 1, 0, 0, 0, .null) from rfl) rfl
set_option maxRecDepth 8000 in
theorem vd_E163_767 (h : vd_k M o = 12) : vd_wp d 163 767 ls (.int x :: .ref o :: st) M Q = vd_wp d 163 770 ls (st) (vd_si M o 103 x) Q := vd_g_putI (show vd_pI 163 767 = some (.putfield 337, 3, 1, 12, 103, .null) from rfl) rfl h
set_option maxRecDepth 8000 in
theorem vd_E163_770 : vd_wp d 163 770 [.ref o, a1, a2] (st) M Q = vd_wp d 163 771 [.ref o, a1, a2] (.ref o :: st) (M) Q := vd_wp_alu (show vd_pI 163 770 = some (.aload_n 0, 1, 0, 0, 0, .null) from rfl) rfl
set_option maxRecDepth 8000 in
theorem vd_E163_770n : vd_wp d 163 770 [.null, a1, a2] (st) M Q = vd_wp d 163 771 [.null, a1, a2] (.null :: st) (M) Q := vd_wp_alu (show vd_pI 163 770 = some (.aload_n 0, 1, 0, 0, 0, .null) from rfl) rfl
set_option maxRecDepth 8000 in
theorem vd_E163_771 : vd_wp d 163 771 ls (st) M Q = vd_wp d 163 772 ls (.int (vd_I 0) :: st) (M) Q := vd_wp_alu (show vd_pI 163 771 = some (.iconst 0, 1, 0, 0, 0, .null) from rfl) rfl
set_option maxRecDepth 8000 in
theorem vd_E163_772 (h : vd_k M o = 12) : vd_wp d 163 772 ls (.int x :: .ref o :: st) M Q = vd_wp d 163 775 ls (st) (vd_si M o 104 x) Q := vd_g_putI (show vd_pI 163 772 = some (.putfield 340, 3, 1, 12, 104, .null) from rfl) rfl h
set_option maxRecDepth 8000 in
theorem vd_E163_775 : vd_wp d 163 775 [.ref o, a1, a2] (st) M Q = vd_wp d 163 776 [.ref o, a1, a2] (.ref o :: st) (M) Q := vd_wp_alu (show vd_pI 163 775 = some (.aload_n 0, 1, 0, 0, 0, .null) from rfl) rfl
set_option maxRecDepth 8000 in
theorem vd_E163_775n : vd_wp d 163 775 [.null, a1, a2] (st) M Q = vd_wp d 163 776 [.null, a1, a2] (.null :: st) (M) Q := vd_wp_alu (show vd_pI 163 775 = some (.aload_n 0, 1, 0, 0, 0, .null) from rfl) rfl
set_option maxRecDepth 8000 in
theorem vd_E163_776 : vd_wp d 163 776 ls (st) M Q = vd_wp d 163 777 ls (.int (vd_I 0) :: st) (M) Q := vd_wp_alu (show vd_pI 163 776 = some (.iconst 0, 1, 0, 0, 0, .null) from rfl) rfl
set_option maxRecDepth 8000 in
theorem vd_E163_777 (h : vd_k M o = 12) : vd_wp d 163 777 ls (.int x :: .ref o :: st) M Q = vd_wp d 163 780 ls (st) (vd_si M o 105 x) Q := vd_g_putI (show vd_pI 163 777 = some (.putfield 343, 3, 1, 12, 105, .null) from rfl) rfl h
set_option maxRecDepth 8000 in
theorem vd_E163_780 : vd_wp d 163 780 [.ref o, a1, a2] (st) M Q = vd_wp d 163 781 [.ref o, a1, a2] (.ref o :: st) (M) Q := vd_wp_alu (show vd_pI 163 780 = some (.aload_n 0, 1, 0, 0, 0, .null) from rfl) rfl
set_option maxRecDepth 8000 in
theorem vd_E163_780n : vd_wp d 163 780 [.null, a1, a2] (st) M Q = vd_wp d 163 781 [.null, a1, a2] (.null :: st) (M) Q := vd_wp_alu (show vd_pI 163 780 = some (.aload_n 0, 1, 0, 0, 0, .null) from rfl) rfl
set_option maxRecDepth 8000 in
theorem vd_E163_781 : vd_wp d 163 781 ls (st) M Q = vd_wp d 163 782 ls (.int (vd_I 0) :: st) (M) Q := vd_wp_alu (show vd_pI 163 781 = some (.iconst 0, 1, 0, 0, 0, .null) from rfl) rfl
set_option maxRecDepth 8000 in
theorem vd_E163_782 (h : vd_k M o = 12) : vd_wp d 163 782 ls (.int x :: .ref o :: st) M Q = vd_wp d 163 785 ls (st) (vd_si M o 106 x) Q := vd_g_putI (show vd_pI 163 782 = some (.putfield 346, 3, 1, 12, 106, .null) from rfl) rfl h
set_option maxRecDepth 8000 in
theorem vd_E163_785 : vd_wp d 163 785 [.ref o, a1, a2] (st) M Q = vd_wp d 163 786 [.ref o, a1, a2] (.ref o :: st) (M) Q := vd_wp_alu (show vd_pI 163 785 = some (.aload_n 0, 1, 0, 0, 0, .null) from rfl) rfl
set_option maxRecDepth 8000 in
theorem vd_E163_785n : vd_wp d 163 785 [.null, a1, a2] (st) M Q = vd_wp d 163 786 [.null, a1, a2] (.null :: st) (M) Q := vd_wp_alu (show vd_pI 163 785 = some (.aload_n 0, 1, 0, 0, 0, .null) from rfl) rfl
set_option maxRecDepth 8000 in
theorem vd_E163_786 : vd_wp d 163 786 ls (st) M Q = vd_wp d 163 787 ls (.int (vd_I 0) :: st) (M) Q := vd_wp_alu (show vd_pI 163 786 = some (.iconst 0, 1, 0, 0, 0, .null) from rfl) rfl
set_option maxRecDepth 8000 in
theorem vd_E163_787 (h : vd_k M o = 12) : vd_wp d 163 787 ls (.int x :: .ref o :: st) M Q = vd_wp d 163 790 ls (st) (vd_si M o 107 x) Q := vd_g_putI (show vd_pI 163 787 = some (.putfield 349, 3, 1, 12, 107, .null) from rfl) rfl h
set_option maxRecDepth 8000 in
theorem vd_E163_790 : vd_wp d 163 790 [.ref o, a1, a2] (st) M Q = vd_wp d 163 791 [.ref o, a1, a2] (.ref o :: st) (M) Q := vd_wp_alu (show vd_pI 163 790 = some (.aload_n 0, 1, 0, 0, 0, .null) from rfl) rfl
set_option maxRecDepth 8000 in
theorem vd_E163_790n : vd_wp d 163 790 [.null, a1, a2] (st) M Q = vd_wp d 163 791 [.null, a1, a2] (.null :: st) (M) Q := vd_wp_alu (show vd_pI 163 790 = some (.aload_n 0, 1, 0, 0, 0, .null) from rfl) rfl
set_option maxRecDepth 8000 in
theorem vd_E163_791 : vd_wp d 163 791 ls (st) M Q = vd_wp d 163 792 ls (.int (vd_I 0) :: st) (M) Q := vd_wp_alu (show vd_pI 163 791 = some (.iconst 0, 1, 0, 0, 0, .null) from rfl) rfl
set_option maxRecDepth 8000 in
theorem vd_E163_792 (h : vd_k M o = 12) : vd_wp d 163 792 ls (.int x :: .ref o :: st) M Q = vd_wp d 163 795 ls (st) (vd_si M o 108 x) Q := vd_g_putI (show vd_pI 163 792 = some (.putfield 352, 3, 1, 12, 108, .null) from rfl) rfl h
set_option maxRecDepth 8000 in
theorem vd_E163_795 : vd_wp d 163 795 [.ref o, a1, a2] (st) M Q = vd_wp d 163 796 [.ref o, a1, a2] (.ref o :: st) (M) Q := vd_wp_alu (show vd_pI 163 795 = some (.aload_n 0, 1, 0, 0, 0, .null) from rfl) rfl
set_option maxRecDepth 8000 in
theorem vd_E163_795n : vd_wp d 163 795 [.null, a1, a2] (st) M Q = vd_wp d 163 796 [.null, a1, a2] (.null :: st) (M) Q := vd_wp_alu (show vd_pI 163 795 = some (.aload_n 0, 1, 0, 0, 0, .null) from rfl) rfl
set_option maxRecDepth 8000 in
theorem vd_E163_796 : vd_wp d 163 796 ls (st) M Q = vd_wp d 163 797 ls (.int (vd_I 0) :: st) (M) Q := vd_wp_alu (show vd_pI 163 796 = some (.iconst 0, 1, 0, 0, 0, .null) from rfl) rfl
set_option maxRecDepth 8000 in
theorem vd_E163_797 (h : vd_k M o = 12) : vd_wp d 163 797 ls (.int x :: .ref o :: st) M Q = vd_wp d 163 800 ls (st) (vd_si M o 109 x) Q := vd_g_putI (show vd_pI 163 797 = some (.putfield 355, 3, 1, 12, 109, .null) from rfl) rfl h
set_option maxRecDepth 8000 in
theorem vd_E163_800 : vd_wp d 163 800 [.ref o, a1, a2] (st) M Q = vd_wp d 163 801 [.ref o, a1, a2] (.ref o :: st) (M) Q := vd_wp_alu (show vd_pI 163 800 = some (.aload_n 0, 1, 0, 0, 0, .null) from rfl) rfl
set_option maxRecDepth 8000 in
theorem vd_E163_800n : vd_wp d 163 800 [.null, a1, a2] (st) M Q = vd_wp d 163 801 [.null, a1, a2] (.null :: st) (M) Q := vd_wp_alu (show vd_pI 163 800 = some (.aload_n 0, 1, 0, 0, 0, .null) from rfl) rfl
set_option maxRecDepth 8000 in
theorem vd_E163_801 : vd_wp d 163 801 ls (st) M Q = vd_wp d 163 802 ls (.int (vd_I 0) :: st) (M) Q := vd_wp_alu (show vd_pI 163 801 = some (.iconst 0, 1, 0, 0, 0, .null) from rfl) rfl
set_option maxRecDepth 8000 in
theorem vd_E163_802 (h0 : vd_fok .boolean x = true) (h : vd_k M o = 12) : vd_wp d 163 802 ls (.int x :: .ref o :: st) M Q = vd_wp d 163 805 ls (st) (vd_si M o 110 x) Q := vd_g_putI (show vd_pI 163 802 = some (.putfield 358, 3, 1, 12, 110, .null) from rfl) h0 h
set_option maxRecDepth 8000 in
theorem vd_E163_805 : vd_wp d 163 805 [.ref o, a1, a2] (st) M Q = vd_wp d 163 806 [.ref o, a1, a2] (.ref o :: st) (M) Q := vd_wp_alu (show vd_pI 163 805 = some (.aload_n 0, 1, 0, 0, 0, .null) from rfl) rfl
set_option maxRecDepth 8000 in
theorem vd_E163_805n : vd_wp d 163 805 [.null, a1, a2] (st) M Q = vd_wp d 163 806 [.null, a1, a2] (.null :: st) (M) Q := vd_wp_alu (show vd_pI 163 805 = some (.aload_n 0, 1, 0, 0, 0, .null) from rfl) rfl
set_option maxRecDepth 8000 in
theorem vd_E163_806 : vd_wp d 163 806 ls (st) M Q = vd_wp d 163 807 ls (.int (vd_I 0) :: st) (M) Q := vd_wp_alu (show vd_pI 163 806 = some (.iconst 0, 1, 0, 0, 0, .null) from rfl) rfl
set_option maxRecDepth 8000 in
theorem vd_E163_807 (h0 : vd_fok .boolean x = true) (h : vd_k M o = 12) : vd_wp d 163 807 ls (.int x :: .ref o :: st) M Q = vd_wp d 163 810 ls (st) (vd_si M o 111 x) Q := vd_g_putI (show vd_pI 163 807 = some (.putfield 361, 3, 1, 12, 111, .null) from rfl) h0 h
set_option maxRecDepth 8000 in
theorem vd_E163_810 : vd_wp d 163 810 [.ref o, a1, a2] (st) M Q = vd_wp d 163 811 [.ref o, a1, a2] (.ref o :: st) (M) Q := vd_wp_alu (show vd_pI 163 810 = some (.aload_n 0, 1, 0, 0, 0, .null) from rfl) rfl
set_option maxRecDepth 8000 in
theorem vd_E163_810n : vd_wp d 163 810 [.null, a1, a2] (st) M Q = vd_wp d 163 811 [.null, a1, a2] (.null :: st) (M) Q := vd_wp_alu (show vd_pI 163 810 = some (.aload_n 0, 1, 0, 0, 0, .null) from rfl) rfl
set_option maxRecDepth 8000 in
theorem vd_E163_811 : vd_wp d 163 811 ls (st) M Q = vd_wp d 163 812 ls (.int (vd_I 0) :: st) (M) Q := vd_wp_alu (show vd_pI 163 811 = some (.iconst 0, 1, 0, 0, 0, .null) from rfl) rfl
set_option maxRecDepth 8000 in
theorem vd_E163_812 (h0 : vd_fok .boolean x = true) (h : vd_k M o = 12) : vd_wp d 163 812 ls (.int x :: .ref o :: st) M Q = vd_wp d 163 815 ls (st) (vd_si M o 112 x) Q := vd_g_putI (show vd_pI 163 812 = some (.putfield 364, 3, 1, 12, 112, .null) from rfl) h0 h
set_option maxRecDepth 8000 in
theorem vd_E163_815 : vd_wp d 163 815 [.ref o, a1, a2] (st) M Q = vd_wp d 163 816 [.ref o, a1, a2] (.ref o :: st) (M) Q := vd_wp_alu (show vd_pI 163 815 = some (.aload_n 0, 1, 0, 0, 0, .null) from rfl) rfl
set_option maxRecDepth 8000 in
theorem vd_E163_815n : vd_wp d 163 815 [.null, a1, a2] (st) M Q = vd_wp d 163 816 [.null, a1, a2] (.null :: st) (M) Q := vd_wp_alu (show vd_pI 163 815 = some (.aload_n 0, 1, 0, 0, 0, .null) from rfl) rfl
set_option maxRecDepth 8000 in
theorem vd_E163_816 : vd_wp d 163 816 ls (st) M Q = vd_wp d 163 817 ls (.int (vd_I 2) :: st) (M) Q := vd_wp_alu (show vd_pI 163 816 = some (.iconst 2, 1, 0, 0, 0, .null) from rfl) rfl
set_option maxRecDepth 8000 in
theorem vd_E163_817 (h1 : 0 ≤ z) (h2 : z ≤ 65536) : vd_wp d 163 817 ls (.int (vd_I z) :: st) M Q = vd_wp d 163 819 ls (.ref (vd_n M) :: st) (vd_new M 32 z.toNat z.toNat) Q := vd_g_nar (show vd_pI 163 817 = some (.newarray .int, 2, 2, 0, 0, .null) from rfl) (by decide) h1 h2
set_option maxRecDepth 8000 in
theorem vd_E163_819 (h : vd_k M o = 12) : vd_wp d 163 819 ls (.ref v :: .ref o :: st) M Q = vd_wp d 163 822 ls (st) (vd_sr M o 113 (some v)) Q := vd_g_putR (show vd_pI 163 819 = some (.putfield 367, 3, 1, 12, 113, .null) from rfl) rfl h
set_option maxRecDepth 8000 in
theorem vd_E163_819n (h : vd_k M o = 12) : vd_wp d 163 819 ls (.null :: .ref o :: st) M Q = vd_wp d 163 822 ls (st) (vd_sr M o 113 none) Q := vd_g_putN (show vd_pI 163 819 = some (.putfield 367, 3, 1, 12, 113, .null) from rfl) rfl h
set_option maxRecDepth 8000 in
theorem vd_E163_822 : vd_wp d 163 822 [.ref o, a1, a2] (st) M Q = vd_wp d 163 823 [.ref o, a1, a2] (.ref o :: st) (M) Q := vd_wp_alu (show vd_pI 163 822 = some (.aload_n 0, 1, 0, 0, 0, .null) from rfl) rfl
set_option maxRecDepth 8000 in
theorem vd_E163_822n : vd_wp d 163 822 [.null, a1, a2] (st) M Q = vd_wp d 163 823 [.null, a1, a2] (.null :: st) (M) Q := vd_wp_alu (show vd_pI 163 822 = some (.aload_n 0, 1, 0, 0, 0, .null) from rfl) rfl
set_option maxRecDepth 8000 in
theorem vd_E163_823 : vd_wp d 163 823 ls (st) M Q = vd_wp d 163 824 ls (.int (vd_I 2) :: st) (M) Q := vd_wp_alu (show vd_pI 163 823 = some (.iconst 2, 1, 0, 0, 0, .null) from rfl) rfl
set_option maxRecDepth 8000 in
theorem vd_E163_824 (h1 : 0 ≤ z) (h2 : z ≤ 65536) : vd_wp d 163 824 ls (.int (vd_I z) :: st) M Q = vd_wp d 163 826 ls (.ref (vd_n M) :: st) (vd_new M 32 z.toNat z.toNat) Q := vd_g_nar (show vd_pI 163 824 = some (.newarray .int, 2, 2, 0, 0, .null) from rfl) (by decide) h1 h2
set_option maxRecDepth 8000 in
theorem vd_E163_826 (h : vd_k M o = 12) : vd_wp d 163 826 ls (.ref v :: .ref o :: st) M Q = vd_wp d 163 829 ls (st) (vd_sr M o 114 (some v)) Q := vd_g_putR (show vd_pI 163 826 = some (.putfield 370, 3, 1, 12, 114, .null) from rfl) rfl h
set_option maxRecDepth 8000 in
theorem vd_E163_826n (h : vd_k M o = 12) : vd_wp d 163 826 ls (.null :: .ref o :: st) M Q = vd_wp d 163 829 ls (st) (vd_sr M o 114 none) Q := vd_g_putN (show vd_pI 163 826 = some (.putfield 370, 3, 1, 12, 114, .null) from rfl) rfl h
set_option maxRecDepth 8000 in
theorem vd_E163_829 : vd_wp d 163 829 [.ref o, a1, a2] (st) M Q = vd_wp d 163 830 [.ref o, a1, a2] (.ref o :: st) (M) Q := vd_wp_alu (show vd_pI 163 829 = some (.aload_n 0, 1, 0, 0, 0, .null) from rfl) rfl
set_option maxRecDepth 8000 in
theorem vd_E163_829n : vd_wp d 163 829 [.null, a1, a2] (st) M Q = vd_wp d 163 830 [.null, a1, a2] (.null :: st) (M) Q := vd_wp_alu (show vd_pI 163 829 = some (.aload_n 0, 1, 0, 0, 0, .null) from rfl) rfl
set_option maxRecDepth 8000 in
theorem vd_E163_830 : vd_wp d 163 830 ls (st) M Q = vd_wp d 163 831 ls (.int (vd_I 2) :: st) (M) Q := vd_wp_alu (show vd_pI 163 830 = some (.iconst 2, 1, 0, 0, 0, .null) from rfl) rfl
set_option maxRecDepth 8000 in
theorem vd_E163_831 (h1 : 0 ≤ z) (h2 : z ≤ 65536) : vd_wp d 163 831 ls (.int (vd_I z) :: st) M Q = vd_wp d 163 833 ls (.ref (vd_n M) :: st) (vd_new M 32 z.toNat z.toNat) Q := vd_g_nar (show vd_pI 163 831 = some (.newarray .int, 2, 2, 0, 0, .null) from rfl) (by decide) h1 h2
set_option maxRecDepth 8000 in
theorem vd_E163_833 (h : vd_k M o = 12) : vd_wp d 163 833 ls (.ref v :: .ref o :: st) M Q = vd_wp d 163 836 ls (st) (vd_sr M o 115 (some v)) Q := vd_g_putR (show vd_pI 163 833 = some (.putfield 373, 3, 1, 12, 115, .null) from rfl) rfl h
set_option maxRecDepth 8000 in
theorem vd_E163_833n (h : vd_k M o = 12) : vd_wp d 163 833 ls (.null :: .ref o :: st) M Q = vd_wp d 163 836 ls (st) (vd_sr M o 115 none) Q := vd_g_putN (show vd_pI 163 833 = some (.putfield 373, 3, 1, 12, 115, .null) from rfl) rfl h
set_option maxRecDepth 8000 in
theorem vd_E163_836 : vd_wp d 163 836 [.ref o, a1, a2] (st) M Q = vd_wp d 163 837 [.ref o, a1, a2] (.ref o :: st) (M) Q := vd_wp_alu (show vd_pI 163 836 = some (.aload_n 0, 1, 0, 0, 0, .null) from rfl) rfl
set_option maxRecDepth 8000 in
theorem vd_E163_836n : vd_wp d 163 836 [.null, a1, a2] (st) M Q = vd_wp d 163 837 [.null, a1, a2] (.null :: st) (M) Q := vd_wp_alu (show vd_pI 163 836 = some (.aload_n 0, 1, 0, 0, 0, .null) from rfl) rfl
set_option maxRecDepth 8000 in
theorem vd_E163_837 : vd_wp d 163 837 ls (st) M Q = vd_wp d 163 838 ls (.int (vd_I 0) :: st) (M) Q := vd_wp_alu (show vd_pI 163 837 = some (.iconst 0, 1, 0, 0, 0, .null) from rfl) rfl
set_option maxRecDepth 8000 in
theorem vd_E163_838 (h : vd_k M o = 12) : vd_wp d 163 838 ls (.int x :: .ref o :: st) M Q = vd_wp d 163 841 ls (st) (vd_si M o 116 x) Q := vd_g_putI (show vd_pI 163 838 = some (.putfield 376, 3, 1, 12, 116, .null) from rfl) rfl h
set_option maxRecDepth 8000 in
theorem vd_E163_841 : vd_wp d 163 841 [.ref o, a1, a2] (st) M Q = vd_wp d 163 842 [.ref o, a1, a2] (.ref o :: st) (M) Q := vd_wp_alu (show vd_pI 163 841 = some (.aload_n 0, 1, 0, 0, 0, .null) from rfl) rfl
set_option maxRecDepth 8000 in
theorem vd_E163_841n : vd_wp d 163 841 [.null, a1, a2] (st) M Q = vd_wp d 163 842 [.null, a1, a2] (.null :: st) (M) Q := vd_wp_alu (show vd_pI 163 841 = some (.aload_n 0, 1, 0, 0, 0, .null) from rfl) rfl
set_option maxRecDepth 8000 in
theorem vd_E163_842 : vd_wp d 163 842 ls (st) M Q = vd_wp d 163 843 ls (.int (vd_I 2) :: st) (M) Q := vd_wp_alu (show vd_pI 163 842 = some (.iconst 2, 1, 0, 0, 0, .null) from rfl) rfl
set_option maxRecDepth 8000 in
theorem vd_E163_843 (h1 : 0 ≤ z) (h2 : z ≤ 65536) : vd_wp d 163 843 ls (.int (vd_I z) :: st) M Q = vd_wp d 163 845 ls (.ref (vd_n M) :: st) (vd_new M 32 z.toNat z.toNat) Q := vd_g_nar (show vd_pI 163 843 = some (.newarray .int, 2, 2, 0, 0, .null) from rfl) (by decide) h1 h2
set_option maxRecDepth 8000 in
theorem vd_E163_845 (h : vd_k M o = 12) : vd_wp d 163 845 ls (.ref v :: .ref o :: st) M Q = vd_wp d 163 848 ls (st) (vd_sr M o 117 (some v)) Q := vd_g_putR (show vd_pI 163 845 = some (.putfield 379, 3, 1, 12, 117, .null) from rfl) rfl h
set_option maxRecDepth 8000 in
theorem vd_E163_845n (h : vd_k M o = 12) : vd_wp d 163 845 ls (.null :: .ref o :: st) M Q = vd_wp d 163 848 ls (st) (vd_sr M o 117 none) Q := vd_g_putN (show vd_pI 163 845 = some (.putfield 379, 3, 1, 12, 117, .null) from rfl) rfl h
set_option maxRecDepth 8000 in
theorem vd_E163_848 : vd_wp d 163 848 [.ref o, a1, a2] (st) M Q = vd_wp d 163 849 [.ref o, a1, a2] (.ref o :: st) (M) Q := vd_wp_alu (show vd_pI 163 848 = some (.aload_n 0, 1, 0, 0, 0, .null) from rfl) rfl
set_option maxRecDepth 8000 in
theorem vd_E163_848n : vd_wp d 163 848 [.null, a1, a2] (st) M Q = vd_wp d 163 849 [.null, a1, a2] (.null :: st) (M) Q := vd_wp_alu (show vd_pI 163 848 = some (.aload_n 0, 1, 0, 0, 0, .null) from rfl) rfl
set_option maxRecDepth 8000 in
theorem vd_E163_849 : vd_wp d 163 849 ls (st) M Q = vd_wp d 163 850 ls (.int (vd_I 2) :: st) (M) Q := vd_wp_alu (show vd_pI 163 849 = some (.iconst 2, 1, 0, 0, 0, .null) from rfl) rfl
set_option maxRecDepth 8000 in
theorem vd_E163_850 (h1 : 0 ≤ z) (h2 : z ≤ 65536) : vd_wp d 163 850 ls (.int (vd_I z) :: st) M Q = vd_wp d 163 852 ls (.ref (vd_n M) :: st) (vd_new M 32 z.toNat z.toNat) Q := vd_g_nar (show vd_pI 163 850 = some (.newarray .int, 2, 2, 0, 0, .null) from rfl) (by decide) h1 h2
set_option maxRecDepth 8000 in
theorem vd_E163_852 (h : vd_k M o = 12) : vd_wp d 163 852 ls (.ref v :: .ref o :: st) M Q = vd_wp d 163 855 ls (st) (vd_sr M o 118 (some v)) Q := vd_g_putR (show vd_pI 163 852 = some (.putfield 382, 3, 1, 12, 118, .null) from rfl) rfl h
set_option maxRecDepth 8000 in
theorem vd_E163_852n (h : vd_k M o = 12) : vd_wp d 163 852 ls (.null :: .ref o :: st) M Q = vd_wp d 163 855 ls (st) (vd_sr M o 118 none) Q := vd_g_putN (show vd_pI 163 852 = some (.putfield 382, 3, 1, 12, 118, .null) from rfl) rfl h
set_option maxRecDepth 8000 in
theorem vd_E163_855 : vd_wp d 163 855 [.ref o, a1, a2] (st) M Q = vd_wp d 163 856 [.ref o, a1, a2] (.ref o :: st) (M) Q := vd_wp_alu (show vd_pI 163 855 = some (.aload_n 0, 1, 0, 0, 0, .null) from rfl) rfl
set_option maxRecDepth 8000 in
theorem vd_E163_855n : vd_wp d 163 855 [.null, a1, a2] (st) M Q = vd_wp d 163 856 [.null, a1, a2] (.null :: st) (M) Q := vd_wp_alu (show vd_pI 163 855 = some (.aload_n 0, 1, 0, 0, 0, .null) from rfl) rfl
set_option maxRecDepth 8000 in
theorem vd_E163_856 : vd_wp d 163 856 ls (st) M Q = vd_wp d 163 858 ls (.int (vd_I 12) :: st) (M) Q := vd_g_con (show vd_pI 163 856 = some (.bipush 12, 2, 0, 0, 0, .null) from rfl) rfl (by decide)
set_option maxRecDepth 8000 in
theorem vd_E163_858 (h1 : 0 ≤ z) (h2 : z ≤ 65536) : vd_wp d 163 858 ls (.int (vd_I z) :: st) M Q = vd_wp d 163 861 ls (.ref (vd_n M) :: st) (vd_new M 38 z.toNat z.toNat) Q := vd_g_anr (show vd_pI 163 858 = some (.anewarray 385, 3, 2, 38, 1869, .null) from rfl) (by decide) h1 h2
set_option maxRecDepth 8000 in
theorem vd_E163_861 (h : vd_k M o = 12) : vd_wp d 163 861 ls (.ref v :: .ref o :: st) M Q = vd_wp d 163 864 ls (st) (vd_sr M o 119 (some v)) Q := vd_g_putR (show vd_pI 163 861 = some (.putfield 386, 3, 1, 12, 119, .null) from rfl) rfl h
set_option maxRecDepth 8000 in
theorem vd_E163_861n (h : vd_k M o = 12) : vd_wp d 163 861 ls (.null :: .ref o :: st) M Q = vd_wp d 163 864 ls (st) (vd_sr M o 119 none) Q := vd_g_putN (show vd_pI 163 861 = some (.putfield 386, 3, 1, 12, 119, .null) from rfl) rfl h
set_option maxRecDepth 8000 in
theorem vd_E163_864 : vd_wp d 163 864 [.ref o, a1, a2] (st) M Q = vd_wp d 163 865 [.ref o, a1, a2] (.ref o :: st) (M) Q := vd_wp_alu (show vd_pI 163 864 = some (.aload_n 0, 1, 0, 0, 0, .null) from rfl) rfl
set_option maxRecDepth 8000 in
theorem vd_E163_864n : vd_wp d 163 864 [.null, a1, a2] (st) M Q = vd_wp d 163 865 [.null, a1, a2] (.null :: st) (M) Q := vd_wp_alu (show vd_pI 163 864 = some (.aload_n 0, 1, 0, 0, 0, .null) from rfl) rfl
set_option maxRecDepth 8000 in
theorem vd_E163_865 : vd_wp d 163 865 ls (st) M Q = vd_wp d 163 868 ls (.int (vd_I 1024) :: st) (M) Q := vd_g_con (show vd_pI 163 865 = some (.sipush 1024, 3, 0, 0, 0, .null) from rfl) rfl (by decide)
set_option maxRecDepth 8000 in
theorem vd_E163_868 (h1 : 0 ≤ z) (h2 : z ≤ 65536) : vd_wp d 163 868 ls (.int (vd_I z) :: st) M Q = vd_wp d 163 870 ls (.ref (vd_n M) :: st) (vd_new M 32 z.toNat z.toNat) Q := vd_g_nar (show vd_pI 163 868 = some (.newarray .int, 2, 2, 0, 0, .null) from rfl) (by decide) h1 h2
set_option maxRecDepth 8000 in
theorem vd_E163_870 (h : vd_k M o = 12) : vd_wp d 163 870 ls (.ref v :: .ref o :: st) M Q = vd_wp d 163 873 ls (st) (vd_sr M o 120 (some v)) Q := vd_g_putR (show vd_pI 163 870 = some (.putfield 389, 3, 1, 12, 120, .null) from rfl) rfl h
set_option maxRecDepth 8000 in
theorem vd_E163_870n (h : vd_k M o = 12) : vd_wp d 163 870 ls (.null :: .ref o :: st) M Q = vd_wp d 163 873 ls (st) (vd_sr M o 120 none) Q := vd_g_putN (show vd_pI 163 870 = some (.putfield 389, 3, 1, 12, 120, .null) from rfl) rfl h
set_option maxRecDepth 8000 in
theorem vd_E163_873 : vd_wp d 163 873 [.ref o, a1, a2] (st) M Q = vd_wp d 163 874 [.ref o, a1, a2] (.ref o :: st) (M) Q := vd_wp_alu (show vd_pI 163 873 = some (.aload_n 0, 1, 0, 0, 0, .null) from rfl) rfl
set_option maxRecDepth 8000 in
theorem vd_E163_873n : vd_wp d 163 873 [.null, a1, a2] (st) M Q = vd_wp d 163 874 [.null, a1, a2] (.null :: st) (M) Q := vd_wp_alu (show vd_pI 163 873 = some (.aload_n 0, 1, 0, 0, 0, .null) from rfl) rfl
set_option maxRecDepth 8000 in
theorem vd_E163_874 : vd_wp d 163 874 ls (st) M Q = vd_wp d 163 877 ls (.int (vd_I 1024) :: st) (M) Q := vd_g_con (show vd_pI 163 874 = some (.sipush 1024, 3, 0, 0, 0, .null) from rfl) rfl (by decide)
set_option maxRecDepth 8000 in
theorem vd_E163_877 (h1 : 0 ≤ z) (h2 : z ≤ 65536) : vd_wp d 163 877 ls (.int (vd_I z) :: st) M Q = vd_wp d 163 879 ls (.ref (vd_n M) :: st) (vd_new M 32 z.toNat z.toNat) Q := vd_g_nar (show vd_pI 163 877 = some (.newarray .int, 2, 2, 0, 0, .null) from rfl) (by decide) h1 h2
set_option maxRecDepth 8000 in
theorem vd_E163_879 (h : vd_k M o = 12) : vd_wp d 163 879 ls (.ref v :: .ref o :: st) M Q = vd_wp d 163 882 ls (st) (vd_sr M o 121 (some v)) Q := vd_g_putR (show vd_pI 163 879 = some (.putfield 392, 3, 1, 12, 121, .null) from rfl) rfl h
set_option maxRecDepth 8000 in
theorem vd_E163_879n (h : vd_k M o = 12) : vd_wp d 163 879 ls (.null :: .ref o :: st) M Q = vd_wp d 163 882 ls (st) (vd_sr M o 121 none) Q := vd_g_putN (show vd_pI 163 879 = some (.putfield 392, 3, 1, 12, 121, .null) from rfl) rfl h
set_option maxRecDepth 8000 in
theorem vd_E163_882 : vd_wp d 163 882 [.ref o, a1, a2] (st) M Q = vd_wp d 163 883 [.ref o, a1, a2] (.ref o :: st) (M) Q := vd_wp_alu (show vd_pI 163 882 = some (.aload_n 0, 1, 0, 0, 0, .null) from rfl) rfl
set_option maxRecDepth 8000 in
theorem vd_E163_882n : vd_wp d 163 882 [.null, a1, a2] (st) M Q = vd_wp d 163 883 [.null, a1, a2] (.null :: st) (M) Q := vd_wp_alu (show vd_pI 163 882 = some (.aload_n 0, 1, 0, 0, 0, .null) from rfl) rfl
set_option maxRecDepth 8000 in
theorem vd_E163_883 : vd_wp d 163 883 ls (st) M Q = vd_wp d 163 886 ls (.int (vd_I 1024) :: st) (M) Q := vd_g_con (show vd_pI 163 883 = some (.sipush 1024, 3, 0, 0, 0, .null) from rfl) rfl (by decide)
set_option maxRecDepth 8000 in
theorem vd_E163_886 (h1 : 0 ≤ z) (h2 : z ≤ 65536) : vd_wp d 163 886 ls (.int (vd_I z) :: st) M Q = vd_wp d 163 888 ls (.ref (vd_n M) :: st) (vd_new M 32 z.toNat z.toNat) Q := vd_g_nar (show vd_pI 163 886 = some (.newarray .int, 2, 2, 0, 0, .null) from rfl) (by decide) h1 h2
set_option maxRecDepth 8000 in
theorem vd_E163_888 (h : vd_k M o = 12) : vd_wp d 163 888 ls (.ref v :: .ref o :: st) M Q = vd_wp d 163 891 ls (st) (vd_sr M o 122 (some v)) Q := vd_g_putR (show vd_pI 163 888 = some (.putfield 395, 3, 1, 12, 122, .null) from rfl) rfl h
set_option maxRecDepth 8000 in
theorem vd_E163_888n (h : vd_k M o = 12) : vd_wp d 163 888 ls (.null :: .ref o :: st) M Q = vd_wp d 163 891 ls (st) (vd_sr M o 122 none) Q := vd_g_putN (show vd_pI 163 888 = some (.putfield 395, 3, 1, 12, 122, .null) from rfl) rfl h
set_option maxRecDepth 8000 in
theorem vd_E163_891 : vd_wp d 163 891 [.ref o, a1, a2] (st) M Q = vd_wp d 163 892 [.ref o, a1, a2] (.ref o :: st) (M) Q := vd_wp_alu (show vd_pI 163 891 = some (.aload_n 0, 1, 0, 0, 0, .null) from rfl) rfl
set_option maxRecDepth 8000 in
theorem vd_E163_891n : vd_wp d 163 891 [.null, a1, a2] (st) M Q = vd_wp d 163 892 [.null, a1, a2] (.null :: st) (M) Q := vd_wp_alu (show vd_pI 163 891 = some (.aload_n 0, 1, 0, 0, 0, .null) from rfl) rfl
set_option maxRecDepth 8000 in
theorem vd_E163_892 : vd_wp d 163 892 ls (st) M Q = vd_wp d 163 893 ls (.int (vd_I 0) :: st) (M) Q := vd_wp_alu (show vd_pI 163 892 = some (.iconst 0, 1, 0, 0, 0, .null) from rfl) rfl
set_option maxRecDepth 8000 in
theorem vd_E163_893 (h0 : vd_fok .boolean x = true) (h : vd_k M o = 12) : vd_wp d 163 893 ls (.int x :: .ref o :: st) M Q = vd_wp d 163 896 ls (st) (vd_si M o 123 x) Q := vd_g_putI (show vd_pI 163 893 = some (.putfield 398, 3, 1, 12, 123, .null) from rfl) h0 h
set_option maxRecDepth 8000 in
theorem vd_E163_896 : vd_wp d 163 896 [.ref o, a1, a2] (st) M Q = vd_wp d 163 897 [.ref o, a1, a2] (.ref o :: st) (M) Q := vd_wp_alu (show vd_pI 163 896 = some (.aload_n 0, 1, 0, 0, 0, .null) from rfl) rfl
set_option maxRecDepth 8000 in
theorem vd_E163_896n : vd_wp d 163 896 [.null, a1, a2] (st) M Q = vd_wp d 163 897 [.null, a1, a2] (.null :: st) (M) Q := vd_wp_alu (show vd_pI 163 896 = some (.aload_n 0, 1, 0, 0, 0, .null) from rfl) rfl
set_option maxRecDepth 8000 in
theorem vd_E163_897 : vd_wp d 163 897 ls (st) M Q = vd_wp d 163 899 ls (.int (vd_I 64) :: st) (M) Q := vd_g_con (show vd_pI 163 897 = some (.bipush 64, 2, 0, 0, 0, .null) from rfl) rfl (by decide)
set_option maxRecDepth 8000 in
theorem vd_E163_899 (h1 : 0 ≤ z) (h2 : z ≤ 65536) : vd_wp d 163 899 ls (.int (vd_I z) :: st) M Q = vd_wp d 163 901 ls (.ref (vd_n M) :: st) (vd_new M 32 z.toNat z.toNat) Q := vd_g_nar (show vd_pI 163 899 = some (.newarray .int, 2, 2, 0, 0, .null) from rfl) (by decide) h1 h2
set_option maxRecDepth 8000 in
theorem vd_E163_901 (h : vd_k M o = 12) : vd_wp d 163 901 ls (.ref v :: .ref o :: st) M Q = vd_wp d 163 904 ls (st) (vd_sr M o 124 (some v)) Q := vd_g_putR (show vd_pI 163 901 = some (.putfield 401, 3, 1, 12, 124, .null) from rfl) rfl h
set_option maxRecDepth 8000 in
theorem vd_E163_901n (h : vd_k M o = 12) : vd_wp d 163 901 ls (.null :: .ref o :: st) M Q = vd_wp d 163 904 ls (st) (vd_sr M o 124 none) Q := vd_g_putN (show vd_pI 163 901 = some (.putfield 401, 3, 1, 12, 124, .null) from rfl) rfl h
set_option maxRecDepth 8000 in
theorem vd_E163_904 : vd_wp d 163 904 [.ref o, a1, a2] (st) M Q = vd_wp d 163 905 [.ref o, a1, a2] (.ref o :: st) (M) Q := vd_wp_alu (show vd_pI 163 904 = some (.aload_n 0, 1, 0, 0, 0, .null) from rfl) rfl
set_option maxRecDepth 8000 in
theorem vd_E163_904n : vd_wp d 163 904 [.null, a1, a2] (st) M Q = vd_wp d 163 905 [.null, a1, a2] (.null :: st) (M) Q := vd_wp_alu (show vd_pI 163 904 = some (.aload_n 0, 1, 0, 0, 0, .null) from rfl) rfl
set_option maxRecDepth 8000 in
theorem vd_E163_905 : vd_wp d 163 905 ls (st) M Q = vd_wp d 163 907 ls (.int (vd_I 32) :: st) (M) Q := vd_g_con (show vd_pI 163 905 = some (.bipush 32, 2, 0, 0, 0, .null) from rfl) rfl (by decide)
set_option maxRecDepth 8000 in
theorem vd_E163_907 (h1 : 0 ≤ z) (h2 : z ≤ 65536) : vd_wp d 163 907 ls (.int (vd_I z) :: st) M Q = vd_wp d 163 909 ls (.ref (vd_n M) :: st) (vd_new M 32 z.toNat z.toNat) Q := vd_g_nar (show vd_pI 163 907 = some (.newarray .int, 2, 2, 0, 0, .null) from rfl) (by decide) h1 h2
set_option maxRecDepth 8000 in
theorem vd_E163_909 (h : vd_k M o = 12) : vd_wp d 163 909 ls (.ref v :: .ref o :: st) M Q = vd_wp d 163 912 ls (st) (vd_sr M o 125 (some v)) Q := vd_g_putR (show vd_pI 163 909 = some (.putfield 404, 3, 1, 12, 125, .null) from rfl) rfl h
set_option maxRecDepth 8000 in
theorem vd_E163_909n (h : vd_k M o = 12) : vd_wp d 163 909 ls (.null :: .ref o :: st) M Q = vd_wp d 163 912 ls (st) (vd_sr M o 125 none) Q := vd_g_putN (show vd_pI 163 909 = some (.putfield 404, 3, 1, 12, 125, .null) from rfl) rfl h
set_option maxRecDepth 8000 in
theorem vd_E163_912 : vd_wp d 163 912 [.ref o, a1, a2] (st) M Q = vd_wp d 163 913 [.ref o, a1, a2] (.ref o :: st) (M) Q := vd_wp_alu (show vd_pI 163 912 = some (.aload_n 0, 1, 0, 0, 0, .null) from rfl) rfl
set_option maxRecDepth 8000 in
theorem vd_E163_912n : vd_wp d 163 912 [.null, a1, a2] (st) M Q = vd_wp d 163 913 [.null, a1, a2] (.null :: st) (M) Q := vd_wp_alu (show vd_pI 163 912 = some (.aload_n 0, 1, 0, 0, 0, .null) from rfl) rfl
set_option maxRecDepth 8000 in
theorem vd_E163_913 : vd_wp d 163 913 ls (st) M Q = vd_wp d 163 914 ls (.int (vd_I 0) :: st) (M) Q := vd_wp_alu (show vd_pI 163 913 = some (.iconst 0, 1, 0, 0, 0, .null) from rfl) rfl
set_option maxRecDepth 8000 in
theorem vd_E163_914 (h : vd_k M o = 12) : vd_wp d 163 914 ls (.int x :: .ref o :: st) M Q = vd_wp d 163 917 ls (st) (vd_si M o 126 x) Q := vd_g_putI (show vd_pI 163 914 = some (.putfield 407, 3, 1, 12, 126, .null) from rfl) rfl h
set_option maxRecDepth 8000 in
theorem vd_E163_917 : vd_wp d 163 917 [.ref o, a1, a2] (st) M Q = vd_wp d 163 918 [.ref o, a1, a2] (.ref o :: st) (M) Q := vd_wp_alu (show vd_pI 163 917 = some (.aload_n 0, 1, 0, 0, 0, .null) from rfl) rfl
set_option maxRecDepth 8000 in
theorem vd_E163_917n : vd_wp d 163 917 [.null, a1, a2] (st) M Q = vd_wp d 163 918 [.null, a1, a2] (.null :: st) (M) Q := vd_wp_alu (show vd_pI 163 917 = some (.aload_n 0, 1, 0, 0, 0, .null) from rfl) rfl
set_option maxRecDepth 8000 in
theorem vd_E163_918 : vd_wp d 163 918 ls (st) M Q = vd_wp d 163 919 ls (.int (vd_I 0) :: st) (M) Q := vd_wp_alu (show vd_pI 163 918 = some (.iconst 0, 1, 0, 0, 0, .null) from rfl) rfl
set_option maxRecDepth 8000 in
theorem vd_E163_919 (h0 : vd_fok .boolean x = true) (h : vd_k M o = 12) : vd_wp d 163 919 ls (.int x :: .ref o :: st) M Q = vd_wp d 163 922 ls (st) (vd_si M o 127 x) Q := vd_g_putI (show vd_pI 163 919 = some (.putfield 410, 3, 1, 12, 127, .null) from rfl) h0 h
set_option maxRecDepth 8000 in
theorem vd_E163_922 : vd_wp d 163 922 [.ref o, a1, a2] (st) M Q = vd_wp d 163 923 [.ref o, a1, a2] (.ref o :: st) (M) Q := vd_wp_alu (show vd_pI 163 922 = some (.aload_n 0, 1, 0, 0, 0, .null) from rfl) rfl
set_option maxRecDepth 8000 in
theorem vd_E163_922n : vd_wp d 163 922 [.null, a1, a2] (st) M Q = vd_wp d 163 923 [.null, a1, a2] (.null :: st) (M) Q := vd_wp_alu (show vd_pI 163 922 = some (.aload_n 0, 1, 0, 0, 0, .null) from rfl) rfl
set_option maxRecDepth 8000 in
theorem vd_E163_923 : vd_wp d 163 923 ls (st) M Q = vd_wp d 163 924 ls (.int (vd_I 0) :: st) (M) Q := vd_wp_alu (show vd_pI 163 923 = some (.iconst 0, 1, 0, 0, 0, .null) from rfl) rfl
set_option maxRecDepth 8000 in
theorem vd_E163_924 (h0 : vd_fok .boolean x = true) (h : vd_k M o = 12) : vd_wp d 163 924 ls (.int x :: .ref o :: st) M Q = vd_wp d 163 927 ls (st) (vd_si M o 128 x) Q := vd_g_putI (show vd_pI 163 924 = some (.putfield 413, 3, 1, 12, 128, .null) from rfl) h0 h
set_option maxRecDepth 8000 in
theorem vd_E163_927 : vd_wp d 163 927 [.ref o, a1, a2] (st) M Q = vd_wp d 163 928 [.ref o, a1, a2] (.ref o :: st) (M) Q := vd_wp_alu (show vd_pI 163 927 = some (.aload_n 0, 1, 0, 0, 0, .null) from rfl) rfl
set_option maxRecDepth 8000 in
theorem vd_E163_927n : vd_wp d 163 927 [.null, a1, a2] (st) M Q = vd_wp d 163 928 [.null, a1, a2] (.null :: st) (M) Q := vd_wp_alu (show vd_pI 163 927 = some (.aload_n 0, 1, 0, 0, 0, .null) from rfl) rfl
set_option maxRecDepth 8000 in
theorem vd_E163_928 : vd_wp d 163 928 ls (st) M Q = vd_wp d 163 929 ls (.int (vd_I 0) :: st) (M) Q := vd_wp_alu (show vd_pI 163 928 = some (.iconst 0, 1, 0, 0, 0, .null) from rfl) rfl
set_option maxRecDepth 8000 in
theorem vd_E163_929 (h : vd_k M o = 12) : vd_wp d 163 929 ls (.int x :: .ref o :: st) M Q = vd_wp d 163 932 ls (st) (vd_si M o 129 x) Q := vd_g_putI (show vd_pI 163 929 = some (.putfield 416, 3, 1, 12, 129, .null) from rfl) rfl h
set_option maxRecDepth 8000 in
theorem vd_E163_932 : vd_wp d 163 932 [.ref o, a1, a2] (st) M Q = vd_wp d 163 933 [.ref o, a1, a2] (.ref o :: st) (M) Q := vd_wp_alu (show vd_pI 163 932 = some (.aload_n 0, 1, 0, 0, 0, .null) from rfl) rfl
set_option maxRecDepth 8000 in
theorem vd_E163_932n : vd_wp d 163 932 [.null, a1, a2] (st) M Q = vd_wp d 163 933 [.null, a1, a2] (.null :: st) (M) Q := vd_wp_alu (show vd_pI 163 932 = some (.aload_n 0, 1, 0, 0, 0, .null) from rfl) rfl
set_option maxRecDepth 8000 in
theorem vd_E163_933 : vd_wp d 163 933 ls (st) M Q = vd_wp d 163 934 ls (.int (vd_I 0) :: st) (M) Q := vd_wp_alu (show vd_pI 163 933 = some (.iconst 0, 1, 0, 0, 0, .null) from rfl) rfl
set_option maxRecDepth 8000 in
theorem vd_E163_934 (h : vd_k M o = 12) : vd_wp d 163 934 ls (.int x :: .ref o :: st) M Q = vd_wp d 163 937 ls (st) (vd_si M o 130 x) Q := vd_g_putI (show vd_pI 163 934 = some (.putfield 419, 3, 1, 12, 130, .null) from rfl) rfl h
set_option maxRecDepth 8000 in
theorem vd_E163_937 : vd_wp d 163 937 [.ref o, a1, a2] (st) M Q = vd_wp d 163 938 [.ref o, a1, a2] (.ref o :: st) (M) Q := vd_wp_alu (show vd_pI 163 937 = some (.aload_n 0, 1, 0, 0, 0, .null) from rfl) rfl
set_option maxRecDepth 8000 in
theorem vd_E163_937n : vd_wp d 163 937 [.null, a1, a2] (st) M Q = vd_wp d 163 938 [.null, a1, a2] (.null :: st) (M) Q := vd_wp_alu (show vd_pI 163 937 = some (.aload_n 0, 1, 0, 0, 0, .null) from rfl) rfl
set_option maxRecDepth 8000 in
theorem vd_E163_938 : vd_wp d 163 938 ls (st) M Q = vd_wp d 163 939 ls (.int (vd_I 0) :: st) (M) Q := vd_wp_alu (show vd_pI 163 938 = some (.iconst 0, 1, 0, 0, 0, .null) from rfl) rfl
set_option maxRecDepth 8000 in
theorem vd_E163_939 (h : vd_k M o = 12) : vd_wp d 163 939 ls (.int x :: .ref o :: st) M Q = vd_wp d 163 942 ls (st) (vd_si M o 131 x) Q := vd_g_putI (show vd_pI 163 939 = some (.putfield 422, 3, 1, 12, 131, .null) from rfl) rfl h
set_option maxRecDepth 8000 in
theorem vd_E163_942 : vd_wp d 163 942 [.ref o, a1, a2] (st) M Q = vd_wp d 163 943 [.ref o, a1, a2] (.ref o :: st) (M) Q := vd_wp_alu (show vd_pI 163 942 = some (.aload_n 0, 1, 0, 0, 0, .null) from rfl) rfl
set_option maxRecDepth 8000 in
theorem vd_E163_942n : vd_wp d 163 942 [.null, a1, a2] (st) M Q = vd_wp d 163 943 [.null, a1, a2] (.null :: st) (M) Q := vd_wp_alu (show vd_pI 163 942 = some (.aload_n 0, 1, 0, 0, 0, .null) from rfl) rfl
set_option maxRecDepth 8000 in
theorem vd_E163_943 : vd_wp d 163 943 ls (st) M Q = vd_wp d 163 944 ls (.int (vd_I 0) :: st) (M) Q := vd_wp_alu (show vd_pI 163 943 = some (.iconst 0, 1, 0, 0, 0, .null) from rfl) rfl
set_option maxRecDepth 8000 in
theorem vd_E163_944 (h : vd_k M o = 12) : vd_wp d 163 944 ls (.int x :: .ref o :: st) M Q = vd_wp d 163 947 ls (st) (vd_si M o 132 x) Q := vd_g_putI (show vd_pI 163 944 = some (.putfield 425, 3, 1, 12, 132, .null) from rfl) rfl h
set_option maxRecDepth 8000 in
theorem vd_E163_947 : vd_wp d 163 947 [.ref o, a1, a2] (st) M Q = vd_wp d 163 948 [.ref o, a1, a2] (.ref o :: st) (M) Q := vd_wp_alu (show vd_pI 163 947 = some (.aload_n 0, 1, 0, 0, 0, .null) from rfl) rfl
set_option maxRecDepth 8000 in
theorem vd_E163_947n : vd_wp d 163 947 [.null, a1, a2] (st) M Q = vd_wp d 163 948 [.null, a1, a2] (.null :: st) (M) Q := vd_wp_alu (show vd_pI 163 947 = some (.aload_n 0, 1, 0, 0, 0, .null) from rfl) rfl
set_option maxRecDepth 8000 in
theorem vd_E163_948 : vd_wp d 163 948 ls (st) M Q = vd_wp d 163 949 ls (.int (vd_I 0) :: st) (M) Q := vd_wp_alu (show vd_pI 163 948 = some (.iconst 0, 1, 0, 0, 0, .null) from rfl) rfl
set_option maxRecDepth 8000 in
theorem vd_E163_949 (h0 : vd_fok .boolean x = true) (h : vd_k M o = 12) : vd_wp d 163 949 ls (.int x :: .ref o :: st) M Q = vd_wp d 163 952 ls (st) (vd_si M o 133 x) Q := vd_g_putI (show vd_pI 163 949 = some (.putfield 428, 3, 1, 12, 133, .null) from rfl) h0 h
set_option maxRecDepth 8000 in
theorem vd_E163_952 : vd_wp d 163 952 [.ref o, a1, a2] (st) M Q = vd_wp d 163 953 [.ref o, a1, a2] (.ref o :: st) (M) Q := vd_wp_alu (show vd_pI 163 952 = some (.aload_n 0, 1, 0, 0, 0, .null) from rfl) rfl
set_option maxRecDepth 8000 in
theorem vd_E163_952n : vd_wp d 163 952 [.null, a1, a2] (st) M Q = vd_wp d 163 953 [.null, a1, a2] (.null :: st) (M) Q := vd_wp_alu (show vd_pI 163 952 = some (.aload_n 0, 1, 0, 0, 0, .null) from rfl) rfl
set_option maxRecDepth 8000 in
theorem vd_E163_953 : vd_wp d 163 953 ls (st) M Q = vd_wp d 163 955 ls (.int (vd_I 16) :: st) (M) Q := vd_g_con (show vd_pI 163 953 = some (.bipush 16, 2, 0, 0, 0, .null) from rfl) rfl (by decide)
set_option maxRecDepth 8000 in
theorem vd_E163_955 (h1 : 0 ≤ z) (h2 : z ≤ 65536) : vd_wp d 163 955 ls (.int (vd_I z) :: st) M Q = vd_wp d 163 957 ls (.ref (vd_n M) :: st) (vd_new M 32 z.toNat z.toNat) Q := vd_g_nar (show vd_pI 163 955 = some (.newarray .int, 2, 2, 0, 0, .null) from rfl) (by decide) h1 h2
set_option maxRecDepth 8000 in
theorem vd_E163_957 (h : vd_k M o = 12) : vd_wp d 163 957 ls (.ref v :: .ref o :: st) M Q = vd_wp d 163 960 ls (st) (vd_sr M o 134 (some v)) Q := vd_g_putR (show vd_pI 163 957 = some (.putfield 431, 3, 1, 12, 134, .null) from rfl) rfl h
set_option maxRecDepth 8000 in
theorem vd_E163_957n (h : vd_k M o = 12) : vd_wp d 163 957 ls (.null :: .ref o :: st) M Q = vd_wp d 163 960 ls (st) (vd_sr M o 134 none) Q := vd_g_putN (show vd_pI 163 957 = some (.putfield 431, 3, 1, 12, 134, .null) from rfl) rfl h
set_option maxRecDepth 8000 in
theorem vd_E163_960 : vd_wp d 163 960 ls (st) M Q = vd_wp d 163 961 ls (.int (vd_I 0) :: st) (M) Q := vd_wp_alu (show vd_pI 163 960 = some (.iconst 0, 1, 0, 0, 0, .null) from rfl) rfl
set_option maxRecDepth 8000 in
theorem vd_E163_961 (h : vd_long a0 = false) : vd_wp d 163 961 [a0, a1, a2] (.int x :: st) M Q = vd_wp d 163 962 [a0, .int x, a2] (st) (M) Q := vd_g_istn (show vd_pI 163 961 = some (.istore_n 1, 1, 0, 0, 0, .null) from rfl) (vd_stS rfl h (of_decide_eq_true rfl))
set_option maxRecDepth 8000 in
theorem vd_E163_962 : vd_wp d 163 962 [a0, .int x, a2] (st) M Q = vd_wp d 163 963 [a0, .int x, a2] (.int x :: st) (M) Q := vd_wp_alu (show vd_pI 163 962 = some (.iload_n 1, 1, 0, 0, 0, .null) from rfl) rfl
set_option maxRecDepth 8000 in
theorem vd_E163_963 : vd_wp d 163 963 ls (st) M Q = vd_wp d 163 965 ls (.int (vd_I 11) :: st) (M) Q := vd_g_con (show vd_pI 163 963 = some (.bipush 11, 2, 0, 0, 0, .null) from rfl) rfl (by decide)
set_option maxRecDepth 8000 in
theorem vd_E163_965 : vd_wp d 163 965 ls (.int y :: .int x :: st) M Q = if x.toInt < y.toInt then vd_wp d 163 968 ls st M Q else vd_wp d 163 987 ls st M Q := vd_g_ifn (show vd_pI 163 965 = some (.if_icmp .ge 22, 3, 0, 0, 0, .null) from rfl) rfl vd_c_ge
set_option maxRecDepth 8000 in
theorem vd_E163_968 : vd_wp d 163 968 [.ref o, a1, a2] (st) M Q = vd_wp d 163 969 [.ref o, a1, a2] (.ref o :: st) (M) Q := vd_wp_alu (show vd_pI 163 968 = some (.aload_n 0, 1, 0, 0, 0, .null) from rfl) rfl
set_option maxRecDepth 8000 in
theorem vd_E163_968n : vd_wp d 163 968 [.null, a1, a2] (st) M Q = vd_wp d 163 969 [.null, a1, a2] (.null :: st) (M) Q := vd_wp_alu (show vd_pI 163 968 = some (.aload_n 0, 1, 0, 0, 0, .null) from rfl) rfl
set_option maxRecDepth 8000 in
theorem vd_E163_969 (h : vd_k M o = 12) : vd_wp d 163 969 ls (.ref o :: st) M Q = vd_wp d 163 972 ls (vd_vr (vd_r M o 5) :: st) (M) Q := vd_g_getR (show vd_pI 163 969 = some (.getfield 33, 3, 1, 12, 5, .null) from rfl) rfl h
set_option maxRecDepth 8000 in
theorem vd_E163_972 : vd_wp d 163 972 [a0, .int x, a2] (st) M Q = vd_wp d 163 973 [a0, .int x, a2] (.int x :: st) (M) Q := vd_wp_alu (show vd_pI 163 972 = some (.iload_n 1, 1, 0, 0, 0, .null) from rfl) rfl
set_option maxRecDepth 8000 in
theorem vd_E163_973 : vd_wp d 163 973 ls (st) M Q = vd_wp d 163 976 ls (.ref (vd_n M) :: st) (vd_new M 13 0 4) Q := vd_g_new (show vd_pI 163 973 = some (.new 31, 3, 2, 13, 4, .null) from rfl) (by decide)
set_option maxRecDepth 8000 in
theorem vd_E163_976 (h : vd_long s0 = false) : vd_wp d 163 976 ls (s0 :: st) M Q = vd_wp d 163 977 ls (s0 :: s0 :: st) (M) Q := vd_g_dup (show vd_pI 163 976 = some (.dup, 1, 0, 0, 0, .null) from rfl) h
set_option maxRecDepth 8000 in
theorem vd_E163_977 (hc : vd_cs st ≤ 8) (h : vd_k M o = 13) (hw : vd_wp d 164 0 [.ref o] [] M (fun M1 r => ∃ v, r = .inl v ∧ vd_wp (d + 1) 163 980 ls (v.toList ++ st) M1 Q)) : vd_wp (d + 1) 163 977 ls (.ref o :: st) M Q := vd_g_call (args := [.ref o]) (st' := st) (nL := 1) (na := 1) (rc := 13) (show vd_pI 163 977 = some (.invokespecial 434, 3, 3, 164, 0, .null) from rfl) rfl rfl rfl hc (of_decide_eq_true rfl) (by simp [h]) hw
set_option maxRecDepth 8000 in
theorem vd_E163_980 (h0 : 10 ≤ o) (h4 : 10 ≤ v) (h : vd_akk M o v) (h1 : 0 ≤ z) (h2 : z < (vd_l M o : Int)) (h3 : z < 2147483648) : vd_wp d 163 980 ls (.ref v :: .int (vd_I z) :: .ref o :: st) M Q = vd_wp d 163 981 ls (st) (vd_sr M o z.toNat (some v)) Q := vd_g_aas (show vd_pI 163 980 = some (.aastore, 1, 1, 0, 0, .null) from rfl) h0 h4 h h1 h2 h3
set_option maxRecDepth 8000 in
theorem vd_E163_981 (h : vd_long a0 = false) : vd_wp d 163 981 [a0, .int x, a2] (st) M Q = vd_wp d 163 984 [a0, .int (x + vd_I 1), a2] (st) (M) Q := vd_g_inc (show vd_pI 163 981 = some (.iinc 1 1, 3, 0, 0, 0, .null) from rfl) rfl (vd_stS rfl h (of_decide_eq_true rfl))
set_option maxRecDepth 8000 in
theorem vd_E163_984 : vd_wp d 163 984 ls (st) M Q = vd_wp d 163 962 ls (st) (M) Q := vd_wp_alu (show vd_pI 163 984 = some (.goto (-22), 3, 0, 0, 0, .null) from rfl) rfl
set_option maxRecDepth 8000 in
theorem vd_E163_987 : vd_wp d 163 987 ls (st) M Q = vd_wp d 163 988 ls (.int (vd_I 0) :: st) (M) Q := vd_wp_alu (show vd_pI 163 987 = some (.iconst 0, 1, 0, 0, 0, .null) from rfl) rfl
set_option maxRecDepth 8000 in
theorem vd_E163_988 (h : vd_long a0 = false) : vd_wp d 163 988 [a0, a1, a2] (.int x :: st) M Q = vd_wp d 163 989 [a0, .int x, a2] (st) (M) Q := vd_g_istn (show vd_pI 163 988 = some (.istore_n 1, 1, 0, 0, 0, .null) from rfl) (vd_stS rfl h (of_decide_eq_true rfl))
set_option maxRecDepth 8000 in
theorem vd_E163_989 : vd_wp d 163 989 [a0, .int x, a2] (st) M Q = vd_wp d 163 990 [a0, .int x, a2] (.int x :: st) (M) Q := vd_wp_alu (show vd_pI 163 989 = some (.iload_n 1, 1, 0, 0, 0, .null) from rfl) rfl
set_option maxRecDepth 8000 in
theorem vd_E163_990 : vd_wp d 163 990 ls (st) M Q = vd_wp d 163 991 ls (.int (vd_I 4) :: st) (M) Q := vd_wp_alu (show vd_pI 163 990 = some (.iconst 4, 1, 0, 0, 0, .null) from rfl) rfl
set_option maxRecDepth 8000 in
theorem vd_E163_991 : vd_wp d 163 991 ls (.int y :: .int x :: st) M Q = if x.toInt < y.toInt then vd_wp d 163 994 ls st M Q else vd_wp d 163 1026 ls st M Q := vd_g_ifn (show vd_pI 163 991 = some (.if_icmp .ge 35, 3, 0, 0, 0, .null) from rfl) rfl vd_c_ge
set_option maxRecDepth 8000 in
theorem vd_E163_994 : vd_wp d 163 994 ls (st) M Q = vd_wp d 163 995 ls (.int (vd_I 0) :: st) (M) Q := vd_wp_alu (show vd_pI 163 994 = some (.iconst 0, 1, 0, 0, 0, .null) from rfl) rfl
set_option maxRecDepth 8000 in
theorem vd_E163_995 (h : vd_long a1 = false) : vd_wp d 163 995 [a0, a1, a2] (.int x :: st) M Q = vd_wp d 163 996 [a0, a1, .int x] (st) (M) Q := vd_g_istn (show vd_pI 163 995 = some (.istore_n 2, 1, 0, 0, 0, .null) from rfl) (vd_stS rfl h (of_decide_eq_true rfl))
set_option maxRecDepth 8000 in
theorem vd_E163_996 : vd_wp d 163 996 [a0, a1, .int x] (st) M Q = vd_wp d 163 997 [a0, a1, .int x] (.int x :: st) (M) Q := vd_wp_alu (show vd_pI 163 996 = some (.iload_n 2, 1, 0, 0, 0, .null) from rfl) rfl
set_option maxRecDepth 8000 in
theorem vd_E163_997 : vd_wp d 163 997 ls (st) M Q = vd_wp d 163 1000 ls (.int (vd_I 2941) :: st) (M) Q := vd_g_con (show vd_pI 163 997 = some (.sipush 2941, 3, 0, 0, 0, .null) from rfl) rfl (by decide)
set_option maxRecDepth 8000 in
theorem vd_E163_1000 : vd_wp d 163 1000 ls (.int y :: .int x :: st) M Q = if x.toInt < y.toInt then vd_wp d 163 1003 ls st M Q else vd_wp d 163 1020 ls st M Q := vd_g_ifn (show vd_pI 163 1000 = some (.if_icmp .ge 20, 3, 0, 0, 0, .null) from rfl) rfl vd_c_ge
set_option maxRecDepth 8000 in
theorem vd_E163_1003 : vd_wp d 163 1003 [.ref o, a1, a2] (st) M Q = vd_wp d 163 1004 [.ref o, a1, a2] (.ref o :: st) (M) Q := vd_wp_alu (show vd_pI 163 1003 = some (.aload_n 0, 1, 0, 0, 0, .null) from rfl) rfl
set_option maxRecDepth 8000 in
theorem vd_E163_1003n : vd_wp d 163 1003 [.null, a1, a2] (st) M Q = vd_wp d 163 1004 [.null, a1, a2] (.null :: st) (M) Q := vd_wp_alu (show vd_pI 163 1003 = some (.aload_n 0, 1, 0, 0, 0, .null) from rfl) rfl
set_option maxRecDepth 8000 in
theorem vd_E163_1004 (h : vd_k M o = 12) : vd_wp d 163 1004 ls (.ref o :: st) M Q = vd_wp d 163 1007 ls (vd_vr (vd_r M o 8) :: st) (M) Q := vd_g_getR (show vd_pI 163 1004 = some (.getfield 46, 3, 1, 12, 8, .null) from rfl) rfl h
set_option maxRecDepth 8000 in
theorem vd_E163_1007 : vd_wp d 163 1007 [a0, .int x, a2] (st) M Q = vd_wp d 163 1008 [a0, .int x, a2] (.int x :: st) (M) Q := vd_wp_alu (show vd_pI 163 1007 = some (.iload_n 1, 1, 0, 0, 0, .null) from rfl) rfl
set_option maxRecDepth 8000 in
theorem vd_E163_1008 (h : 36 ≤ vd_k M o) (h0 : vd_k M o < 41) (h1 : 0 ≤ z) (h2 : z < (vd_l M o : Int)) (h3 : z < 2147483648) : vd_wp d 163 1008 ls (.int (vd_I z) :: .ref o :: st) M Q = vd_wp d 163 1009 ls (vd_vr (vd_r M o z.toNat) :: st) (M) Q := vd_g_aal (show vd_pI 163 1008 = some (.aaload, 1, 1, 0, 0, .null) from rfl) h h0 h1 h2 h3
set_option maxRecDepth 8000 in
theorem vd_E163_1009 : vd_wp d 163 1009 [a0, a1, .int x] (st) M Q = vd_wp d 163 1010 [a0, a1, .int x] (.int x :: st) (M) Q := vd_wp_alu (show vd_pI 163 1009 = some (.iload_n 2, 1, 0, 0, 0, .null) from rfl) rfl
set_option maxRecDepth 8000 in
theorem vd_E163_1010 : vd_wp d 163 1010 ls (st) M Q = vd_wp d 163 1013 ls (.int (vd_I 128) :: st) (M) Q := vd_g_con (show vd_pI 163 1010 = some (.sipush 128, 3, 0, 0, 0, .null) from rfl) rfl (by decide)
set_option maxRecDepth 8000 in
theorem vd_E163_1013 (h0 : 10 ≤ o) (h : vd_k M o = 32) (h1 : 0 ≤ z) (h2 : z < (vd_l M o : Int)) (h3 : z < 2147483648) : vd_wp d 163 1013 ls (.int x :: .int (vd_I z) :: .ref o :: st) M Q = vd_wp d 163 1014 ls (st) (vd_si M o z.toNat x) Q := vd_g_ias (show vd_pI 163 1013 = some (.iastore, 1, 1, 0, 0, .null) from rfl) h0 h h1 h2 h3
set_option maxRecDepth 8000 in
theorem vd_E163_1014 (h : vd_long a1 = false) : vd_wp d 163 1014 [a0, a1, .int x] (st) M Q = vd_wp d 163 1017 [a0, a1, .int (x + vd_I 1)] (st) (M) Q := vd_g_inc (show vd_pI 163 1014 = some (.iinc 2 1, 3, 0, 0, 0, .null) from rfl) rfl (vd_stS rfl h (of_decide_eq_true rfl))
set_option maxRecDepth 8000 in
theorem vd_E163_1017 : vd_wp d 163 1017 ls (st) M Q = vd_wp d 163 996 ls (st) (M) Q := vd_wp_alu (show vd_pI 163 1017 = some (.goto (-21), 3, 0, 0, 0, .null) from rfl) rfl
set_option maxRecDepth 8000 in
theorem vd_E163_1020 (h : vd_long a0 = false) : vd_wp d 163 1020 [a0, .int x, a2] (st) M Q = vd_wp d 163 1023 [a0, .int (x + vd_I 1), a2] (st) (M) Q := vd_g_inc (show vd_pI 163 1020 = some (.iinc 1 1, 3, 0, 0, 0, .null) from rfl) rfl (vd_stS rfl h (of_decide_eq_true rfl))
set_option maxRecDepth 8000 in
theorem vd_E163_1023 : vd_wp d 163 1023 ls (st) M Q = vd_wp d 163 989 ls (st) (M) Q := vd_wp_alu (show vd_pI 163 1023 = some (.goto (-34), 3, 0, 0, 0, .null) from rfl) rfl
set_option maxRecDepth 8000 in
theorem vd_E163_1026 : vd_wp d 163 1026 ls (st) M Q = vd_wp d 163 1027 ls (.int (vd_I 0) :: st) (M) Q := vd_wp_alu (show vd_pI 163 1026 = some (.iconst 0, 1, 0, 0, 0, .null) from rfl) rfl
set_option maxRecDepth 8000 in
theorem vd_E163_1027 (h : vd_long a0 = false) : vd_wp d 163 1027 [a0, a1, a2] (.int x :: st) M Q = vd_wp d 163 1028 [a0, .int x, a2] (st) (M) Q := vd_g_istn (show vd_pI 163 1027 = some (.istore_n 1, 1, 0, 0, 0, .null) from rfl) (vd_stS rfl h (of_decide_eq_true rfl))
set_option maxRecDepth 8000 in
theorem vd_E163_1028 : vd_wp d 163 1028 [a0, .int x, a2] (st) M Q = vd_wp d 163 1029 [a0, .int x, a2] (.int x :: st) (M) Q := vd_wp_alu (show vd_pI 163 1028 = some (.iload_n 1, 1, 0, 0, 0, .null) from rfl) rfl
set_option maxRecDepth 8000 in
theorem vd_E163_1029 : vd_wp d 163 1029 ls (st) M Q = vd_wp d 163 1030 ls (.int (vd_I 3) :: st) (M) Q := vd_wp_alu (show vd_pI 163 1029 = some (.iconst 3, 1, 0, 0, 0, .null) from rfl) rfl
set_option maxRecDepth 8000 in
theorem vd_E163_1030 : vd_wp d 163 1030 ls (.int y :: .int x :: st) M Q = if x.toInt < y.toInt then vd_wp d 163 1033 ls st M Q else vd_wp d 163 1044 ls st M Q := vd_g_ifn (show vd_pI 163 1030 = some (.if_icmp .ge 14, 3, 0, 0, 0, .null) from rfl) rfl vd_c_ge
set_option maxRecDepth 8000 in
theorem vd_E163_1033 : vd_wp d 163 1033 [.ref o, a1, a2] (st) M Q = vd_wp d 163 1034 [.ref o, a1, a2] (.ref o :: st) (M) Q := vd_wp_alu (show vd_pI 163 1033 = some (.aload_n 0, 1, 0, 0, 0, .null) from rfl) rfl
set_option maxRecDepth 8000 in
theorem vd_E163_1033n : vd_wp d 163 1033 [.null, a1, a2] (st) M Q = vd_wp d 163 1034 [.null, a1, a2] (.null :: st) (M) Q := vd_wp_alu (show vd_pI 163 1033 = some (.aload_n 0, 1, 0, 0, 0, .null) from rfl) rfl
set_option maxRecDepth 8000 in
theorem vd_E163_1034 : vd_wp d 163 1034 [a0, .int x, a2] (st) M Q = vd_wp d 163 1035 [a0, .int x, a2] (.int x :: st) (M) Q := vd_wp_alu (show vd_pI 163 1034 = some (.iload_n 1, 1, 0, 0, 0, .null) from rfl) rfl
set_option maxRecDepth 8000 in
theorem vd_E163_1035 (hc : vd_cs st ≤ 8) (h : vd_k M o = 12) (hw : vd_wp d 165 0 [.ref o, .int x0, vd_U, vd_U, vd_U, vd_U, vd_U, vd_U, vd_U, vd_U] [] M (fun M1 r => ∃ v, r = .inl v ∧ vd_wp (d + 1) 163 1038 ls (v.toList ++ st) M1 Q)) : vd_wp (d + 1) 163 1035 ls (.int x0 :: .ref o :: st) M Q := vd_g_call (args := [.int x0, .ref o]) (st' := st) (nL := 10) (na := 2) (rc := 12) (show vd_pI 163 1035 = some (.invokevirtual 435, 3, 3, 165, 0, .null) from rfl) rfl rfl rfl hc (of_decide_eq_true rfl) (by simp [h]) hw
set_option maxRecDepth 8000 in
theorem vd_E163_1038 (h : vd_long a0 = false) : vd_wp d 163 1038 [a0, .int x, a2] (st) M Q = vd_wp d 163 1041 [a0, .int (x + vd_I 1), a2] (st) (M) Q := vd_g_inc (show vd_pI 163 1038 = some (.iinc 1 1, 3, 0, 0, 0, .null) from rfl) rfl (vd_stS rfl h (of_decide_eq_true rfl))
set_option maxRecDepth 8000 in
theorem vd_E163_1041 : vd_wp d 163 1041 ls (st) M Q = vd_wp d 163 1028 ls (st) (M) Q := vd_wp_alu (show vd_pI 163 1041 = some (.goto (-13), 3, 0, 0, 0, .null) from rfl) rfl
set_option maxRecDepth 8000 in
theorem vd_E163_1044 : vd_wp d 163 1044 ls [] M Q = Q M (.inl none) := vd_g_ret (show vd_pI 163 1044 = some (.return_, 1, 4, 0, 0, .null) from rfl) rfl
end VDE_e4
